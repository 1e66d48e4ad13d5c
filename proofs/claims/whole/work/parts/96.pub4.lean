set_option maxRecDepth 100000 in
set_option maxHeartbeats 1000000 in
theorem kX9_canTry_1 {D : va_G} {cI cJ cT : ClassId} (l : Launch) {m mt mw mb ml mq mz ms mr mi mk mj mn : Nat} {th fd0 pc0 dw0 lt0 ic0 tr0 sg0 ln0 at0 rd0 dr0 ma0 en0 : Int32} {kd a b1 c len : Int32} {gB : Nat → Int32} (hn : ¬ canC kd a b1 c len) : Fn (S := Unit) (gG D cI cJ cT) l yX9_canTry (.code yX9_canTry cX9_canTry 6 (some .boolean)) (rmD 3) [.ref m, .int kd, .int a, .int b1, .int c, .int len] [(m, .inr (9, [.int (nI 0), .int fd0, .int pc0, .int dw0, .int lt0, .ref mt, .ref mw, .ref mb, .ref ml, .ref mq, .ref mz, .ref ms, .ref mr, .int ic0, .ref mi, .int tr0, .int sg0, .int ln0, .int at0, .int rd0, .int dr0, .int ma0, .ref mk, .int en0, .ref mj, .ref mn])), (mb, .inl (cI, 8, .inl gB))] (fun _ => True) (fun u => some (.int (dI false))) (fun u => [(m, .inr (9, [.int (nI 1), .int fd0, .int pc0, .int dw0, .int lt0, .ref mt, .ref mw, .ref mb, .ref ml, .ref mq, .ref mz, .ref ms, .ref mr, .int ic0, .ref mi, .int tr0, .int sg0, .int ln0, .int at0, .int rd0, .int dr0, .int ma0, .ref mk, .int en0, .ref mj, .ref mn])), (mb, .inl (cI, 8, .inl gB))]) := by
  refine Fn.intro (by decide) (Nat.le_of_ble_eq_true rfl) ?_
  intro X hX hE hin
  subst hX
  show V (gG D cI cJ cT) X _ cX9_canTry 6 RX9 _ 0 0 [(0, .ref m), (1, .int kd), (2, .int a), (3, .int b1), (4, .int c), (5, .int len)] 0 []
  refine v_iload_n 1 dX9_canTry_0 rfl rfl ?_
  refine v_bipush (v := nI 8) dX9_canTry_1 (by decide) ?_
  refine v_icmp_gt (tgt := 30) dX9_canTry_3 (by decide) (fun b3 => ?_) (fun b3 => ?_)
  · refine v_aload_n 0 dX9_canTry_30 rfl rfl ?_
    refine v_iconst (v := nI 1) dX9_canTry_31 (by decide) ?_
    refine v_put (ws' := [(m, .inr (9, [.int (nI 1), .int fd0, .int pc0, .int dw0, .int lt0, .ref mt, .ref mw, .ref mb, .ref ml, .ref mq, .ref mz, .ref ms, .ref mr, .int ic0, .ref mi, .int tr0, .int sg0, .int ln0, .int at0, .int rd0, .int dr0, .int ma0, .ref mk, .int en0, .ref mj, .ref mn])), (mb, .inl (cI, 8, .inl gB))]) fw_SampleDeskModel_47 0 rfl (rfl) (rfl) (Nat.le_of_ble_eq_true rfl) dX9_canTry_32 rfl ?_
    refine v_goto (tgt := 52) dX9_canTry_35 (by decide) ?_
    refine v_aload_n 0 dX9_canTry_52 rfl rfl ?_
    refine v_get f_SampleDeskModel_47 0 rfl rfl dX9_canTry_53 ?_
    refine v_if_ne (tgt := 63) dX9_canTry_56 (by decide) (fun b56 => ?_) (fun b56 => absurd b56 (by decide))
    refine v_iconst (v := 0) dX9_canTry_63 (by decide) ?_
    exact v_zret hE rfl dX9_canTry_64 () trivial rfl rfl
  · refine v_iload_n 1 dX9_canTry_6 rfl rfl ?_
    refine v_iload_n 2 dX9_canTry_7 rfl rfl ?_
    refine v_iload_n 3 dX9_canTry_8 rfl rfl ?_
    refine v_iload 4 dX9_canTry_9 rfl ?_
    refine v_callS (as := [.int kd, .int a, .int b1, .int c]) (rest := []) (ws' := fun u => [(m, .inr (9, [.int (nI 0), .int fd0, .int pc0, .int dw0, .int lt0, .ref mt, .ref mw, .ref mb, .ref ml, .ref mq, .ref mz, .ref ms, .ref mr, .int ic0, .ref mi, .int tr0, .int sg0, .int ln0, .int at0, .int rd0, .int dr0, .int ma0, .ref mk, .int en0, .ref mj, .ref mn])), (mb, .inl (cI, 8, .inl gB))]) m_SampleDeskModel_197 (kX9_canBe X.l (kd := kd) (a := a) (b := b1) (c := c)) k_code_X9_canBe [] rfl rfl dX9_canTry_11 (Nat.le_of_ble_eq_true rfl) ⟨rfl, rfl, by decide, by decide⟩ ⟨Nat.zero_le _, Nat.zero_le _⟩ rfl rfl (fun _ => rfl) (v_mgU rfl (fun _ => rfl)) ?_
    intro uu c11
    try dsimp only at c11
    show V (gG D cI cJ cT) X (rmD 3) cX9_canTry 6 RX9 [(m, .inr (9, [.int (nI 0), .int fd0, .int pc0, .int dw0, .int lt0, .ref mt, .ref mw, .ref mb, .ref ml, .ref mq, .ref mz, .ref ms, .ref mr, .int ic0, .ref mi, .int tr0, .int sg0, .int ln0, .int at0, .int rd0, .int dr0, .int ma0, .ref mk, .int en0, .ref mj, .ref mn])), (mb, .inl (cI, 8, .inl gB))] 0 0 [(0, .ref m), (1, .int kd), (2, .int a), (3, .int b1), (4, .int c), (5, .int len)] 14 [.int (dI (okD kd a b1 c))]
    refine v_if_eq (tgt := 30) dX9_canTry_14 (by decide) (fun b14 => ?_) (fun b14 => ?_)
    · have b14 : (okD kd a b1 c) = false := (dI_0 _).mp b14
      refine v_aload_n 0 dX9_canTry_30 rfl rfl ?_
      refine v_iconst (v := nI 1) dX9_canTry_31 (by decide) ?_
      refine v_put (ws' := [(m, .inr (9, [.int (nI 1), .int fd0, .int pc0, .int dw0, .int lt0, .ref mt, .ref mw, .ref mb, .ref ml, .ref mq, .ref mz, .ref ms, .ref mr, .int ic0, .ref mi, .int tr0, .int sg0, .int ln0, .int at0, .int rd0, .int dr0, .int ma0, .ref mk, .int en0, .ref mj, .ref mn])), (mb, .inl (cI, 8, .inl gB))]) fw_SampleDeskModel_47 0 rfl (rfl) (rfl) (Nat.le_of_ble_eq_true rfl) dX9_canTry_32 rfl ?_
      refine v_goto (tgt := 52) dX9_canTry_35 (by decide) ?_
      refine v_aload_n 0 dX9_canTry_52 rfl rfl ?_
      refine v_get f_SampleDeskModel_47 0 rfl rfl dX9_canTry_53 ?_
      refine v_if_ne (tgt := 63) dX9_canTry_56 (by decide) (fun b56 => ?_) (fun b56 => absurd b56 (by decide))
      refine v_iconst (v := 0) dX9_canTry_63 (by decide) ?_
      exact v_zret hE rfl dX9_canTry_64 () trivial rfl rfl
    · have b14 : ¬ ((okD kd a b1 c) = false) := fun q => b14 ((dI_0 _).mpr q)
      refine v_iload 5 dX9_canTry_17 rfl ?_
      refine v_i2l (v := len.toInt64) dX9_canTry_19 (rfl) ?_
      refine v_lconst (v := 0) dX9_canTry_20 (by decide) ?_
      refine v_ldc2 (v := 12) k_c_SampleDeskModel_221 dX9_canTry_21 ?_
      refine v_callS (as := [.long len.toInt64, .long 0, .long 12]) (rest := []) (ws' := fun u => [(m, .inr (9, [.int (nI 0), .int fd0, .int pc0, .int dw0, .int lt0, .ref mt, .ref mw, .ref mb, .ref ml, .ref mq, .ref mz, .ref ms, .ref mr, .int ic0, .ref mi, .int tr0, .int sg0, .int ln0, .int at0, .int rd0, .int dr0, .int ma0, .ref mk, .int en0, .ref mj, .ref mn])), (mb, .inl (cI, 8, .inl gB))]) m_SampleDeskModel_58 (kX9_within X.l (v := len.toInt64) (lo := 0) (hi := 12)) k_code_X9_within [] rfl rfl dX9_canTry_24 (Nat.le_of_ble_eq_true rfl) ⟨rfl, rfl, by decide, by decide⟩ ⟨Nat.zero_le _, Nat.zero_le _⟩ rfl rfl (fun _ => rfl) (v_mgU rfl (fun _ => rfl)) ?_
      intro uu c24
      try dsimp only at c24
      show V (gG D cI cJ cT) X (rmD 3) cX9_canTry 6 RX9 [(m, .inr (9, [.int (nI 0), .int fd0, .int pc0, .int dw0, .int lt0, .ref mt, .ref mw, .ref mb, .ref ml, .ref mq, .ref mz, .ref ms, .ref mr, .int ic0, .ref mi, .int tr0, .int sg0, .int ln0, .int at0, .int rd0, .int dr0, .int ma0, .ref mk, .int en0, .ref mj, .ref mn])), (mb, .inl (cI, 8, .inl gB))] 0 0 [(0, .ref m), (1, .int kd), (2, .int a), (3, .int b1), (4, .int c), (5, .int len)] 27 [.int (dI (wi len.toInt64 0 12))]
      refine v_topi (y := dI (up len 12)) (congrArg dI (show wi len.toInt64 0 12 = up len 12 by rw [show (12 : Int64) = (12 : Int32).toInt64 by decide, wi_up])) ?_
      refine v_if_ne (tgt := 38) dX9_canTry_27 (by decide) (fun b27 => ?_) (fun b27 => ?_)
      · have b27 : ¬ ((up len 12) = false) := fun q => b27 ((dI_0 _).mpr q)
        exact absurd ⟨b3, by simpa using b14, (up_inR1 (n := 12) (by decide)).mp (show up len 12 = true by simpa using b27)⟩ hn
      · have b27 : (up len 12) = false := (dI_0 _).mp b27
        refine v_aload_n 0 dX9_canTry_30 rfl rfl ?_
        refine v_iconst (v := nI 1) dX9_canTry_31 (by decide) ?_
        refine v_put (ws' := [(m, .inr (9, [.int (nI 1), .int fd0, .int pc0, .int dw0, .int lt0, .ref mt, .ref mw, .ref mb, .ref ml, .ref mq, .ref mz, .ref ms, .ref mr, .int ic0, .ref mi, .int tr0, .int sg0, .int ln0, .int at0, .int rd0, .int dr0, .int ma0, .ref mk, .int en0, .ref mj, .ref mn])), (mb, .inl (cI, 8, .inl gB))]) fw_SampleDeskModel_47 0 rfl (rfl) (rfl) (Nat.le_of_ble_eq_true rfl) dX9_canTry_32 rfl ?_
        refine v_goto (tgt := 52) dX9_canTry_35 (by decide) ?_
        refine v_aload_n 0 dX9_canTry_52 rfl rfl ?_
        refine v_get f_SampleDeskModel_47 0 rfl rfl dX9_canTry_53 ?_
        refine v_if_ne (tgt := 63) dX9_canTry_56 (by decide) (fun b56 => ?_) (fun b56 => absurd b56 (by decide))
        refine v_iconst (v := 0) dX9_canTry_63 (by decide) ?_
        exact v_zret hE rfl dX9_canTry_64 () trivial rfl rfl
set_option maxRecDepth 100000 in
set_option maxHeartbeats 1000000 in
theorem kX9_canTry_2 {D : va_G} {cI cJ cT : ClassId} (l : Launch) {m mt mw mb ml mq mz ms mr mi mk mj mn : Nat} {th fd0 pc0 dw0 lt0 ic0 tr0 sg0 ln0 at0 rd0 dr0 ma0 en0 : Int32} {kd a b1 c len : Int32} {y M : Nat} {gB : Nat → Int32} (hc : canC kd a b1 c len) (hz : kd = nI 0 → a = nI y) (hy : y < 8) (hB : gB y = nI M) (hM : M ≤ 2) (hr : rdM kd M = false) : Fn (S := Unit) (gG D cI cJ cT) l yX9_canTry (.code yX9_canTry cX9_canTry 6 (some .boolean)) (rmD 3) [.ref m, .int kd, .int a, .int b1, .int c, .int len] [(m, .inr (9, [.int (nI 0), .int fd0, .int pc0, .int dw0, .int lt0, .ref mt, .ref mw, .ref mb, .ref ml, .ref mq, .ref mz, .ref ms, .ref mr, .int ic0, .ref mi, .int tr0, .int sg0, .int ln0, .int at0, .int rd0, .int dr0, .int ma0, .ref mk, .int en0, .ref mj, .ref mn])), (mb, .inl (cI, 8, .inl gB))] (fun _ => True) (fun u => some (.int (dI false))) (fun u => [(m, .inr (9, [.int (nI 2), .int fd0, .int pc0, .int dw0, .int lt0, .ref mt, .ref mw, .ref mb, .ref ml, .ref mq, .ref mz, .ref ms, .ref mr, .int ic0, .ref mi, .int tr0, .int sg0, .int ln0, .int at0, .int rd0, .int dr0, .int ma0, .ref mk, .int en0, .ref mj, .ref mn])), (mb, .inl (cI, 8, .inl gB))]) := by
  refine Fn.intro (by decide) (Nat.le_of_ble_eq_true rfl) ?_
  intro X hX hE hin
  subst hX
  show V (gG D cI cJ cT) X _ cX9_canTry 6 RX9 _ 0 0 [(0, .ref m), (1, .int kd), (2, .int a), (3, .int b1), (4, .int c), (5, .int len)] 0 []
  refine v_iload_n 1 dX9_canTry_0 rfl rfl ?_
  refine v_bipush (v := nI 8) dX9_canTry_1 (by decide) ?_
  refine v_icmp_gt (tgt := 30) dX9_canTry_3 (by decide) (fun b3 => absurd b3 (hc.1)) (fun b3 => ?_)
  refine v_iload_n 1 dX9_canTry_6 rfl rfl ?_
  refine v_iload_n 2 dX9_canTry_7 rfl rfl ?_
  refine v_iload_n 3 dX9_canTry_8 rfl rfl ?_
  refine v_iload 4 dX9_canTry_9 rfl ?_
  refine v_callS (as := [.int kd, .int a, .int b1, .int c]) (rest := []) (ws' := fun u => [(m, .inr (9, [.int (nI 0), .int fd0, .int pc0, .int dw0, .int lt0, .ref mt, .ref mw, .ref mb, .ref ml, .ref mq, .ref mz, .ref ms, .ref mr, .int ic0, .ref mi, .int tr0, .int sg0, .int ln0, .int at0, .int rd0, .int dr0, .int ma0, .ref mk, .int en0, .ref mj, .ref mn])), (mb, .inl (cI, 8, .inl gB))]) m_SampleDeskModel_197 (kX9_canBe X.l (kd := kd) (a := a) (b := b1) (c := c)) k_code_X9_canBe [] rfl rfl dX9_canTry_11 (Nat.le_of_ble_eq_true rfl) ⟨rfl, rfl, by decide, by decide⟩ ⟨Nat.zero_le _, Nat.zero_le _⟩ rfl rfl (fun _ => rfl) (v_mgU rfl (fun _ => rfl)) ?_
  intro uu c11
  try dsimp only at c11
  show V (gG D cI cJ cT) X (rmD 3) cX9_canTry 6 RX9 [(m, .inr (9, [.int (nI 0), .int fd0, .int pc0, .int dw0, .int lt0, .ref mt, .ref mw, .ref mb, .ref ml, .ref mq, .ref mz, .ref ms, .ref mr, .int ic0, .ref mi, .int tr0, .int sg0, .int ln0, .int at0, .int rd0, .int dr0, .int ma0, .ref mk, .int en0, .ref mj, .ref mn])), (mb, .inl (cI, 8, .inl gB))] 0 0 [(0, .ref m), (1, .int kd), (2, .int a), (3, .int b1), (4, .int c), (5, .int len)] 14 [.int (dI (okD kd a b1 c))]
  refine v_topi (y := dI true) (congrArg dI hc.2.1) ?_
  refine v_if_eq (tgt := 30) dX9_canTry_14 (by decide) (fun b14 => absurd b14 (by decide)) (fun b14 => ?_)
  refine v_iload 5 dX9_canTry_17 rfl ?_
  refine v_i2l (v := len.toInt64) dX9_canTry_19 (rfl) ?_
  refine v_lconst (v := 0) dX9_canTry_20 (by decide) ?_
  refine v_ldc2 (v := 12) k_c_SampleDeskModel_221 dX9_canTry_21 ?_
  refine v_callS (as := [.long len.toInt64, .long 0, .long 12]) (rest := []) (ws' := fun u => [(m, .inr (9, [.int (nI 0), .int fd0, .int pc0, .int dw0, .int lt0, .ref mt, .ref mw, .ref mb, .ref ml, .ref mq, .ref mz, .ref ms, .ref mr, .int ic0, .ref mi, .int tr0, .int sg0, .int ln0, .int at0, .int rd0, .int dr0, .int ma0, .ref mk, .int en0, .ref mj, .ref mn])), (mb, .inl (cI, 8, .inl gB))]) m_SampleDeskModel_58 (kX9_within X.l (v := len.toInt64) (lo := 0) (hi := 12)) k_code_X9_within [] rfl rfl dX9_canTry_24 (Nat.le_of_ble_eq_true rfl) ⟨rfl, rfl, by decide, by decide⟩ ⟨Nat.zero_le _, Nat.zero_le _⟩ rfl rfl (fun _ => rfl) (v_mgU rfl (fun _ => rfl)) ?_
  intro uu c24
  try dsimp only at c24
  show V (gG D cI cJ cT) X (rmD 3) cX9_canTry 6 RX9 [(m, .inr (9, [.int (nI 0), .int fd0, .int pc0, .int dw0, .int lt0, .ref mt, .ref mw, .ref mb, .ref ml, .ref mq, .ref mz, .ref ms, .ref mr, .int ic0, .ref mi, .int tr0, .int sg0, .int ln0, .int at0, .int rd0, .int dr0, .int ma0, .ref mk, .int en0, .ref mj, .ref mn])), (mb, .inl (cI, 8, .inl gB))] 0 0 [(0, .ref m), (1, .int kd), (2, .int a), (3, .int b1), (4, .int c), (5, .int len)] 27 [.int (dI (wi len.toInt64 0 12))]
  refine v_topi (y := dI (up len 12)) (congrArg dI (show wi len.toInt64 0 12 = up len 12 by rw [show (12 : Int64) = (12 : Int32).toInt64 by decide, wi_up])) ?_
  refine v_topi (y := dI true) (congrArg dI (upT1 (n := 12) (by decide) hc.2.2)) ?_
  refine v_if_ne (tgt := 38) dX9_canTry_27 (by decide) (fun b27 => ?_) (fun b27 => absurd b27 (by decide))
  refine v_aload_n 0 dX9_canTry_38 rfl rfl ?_
  refine v_iload_n 1 dX9_canTry_39 rfl rfl ?_
  refine v_iload_n 2 dX9_canTry_40 rfl rfl ?_
  refine v_callV (as := [.int kd, .int a]) (rest := []) (ws' := fun u => [(m, .inr (9, [.int (nI 0), .int fd0, .int pc0, .int dw0, .int lt0, .ref mt, .ref mw, .ref mb, .ref ml, .ref mq, .ref mz, .ref ms, .ref mr, .int ic0, .ref mi, .int tr0, .int sg0, .int ln0, .int at0, .int rd0, .int dr0, .int ma0, .ref mk, .int en0, .ref mj, .ref mn])), (mb, .inl (cI, 8, .inl gB))]) m_SampleDeskModel_201 (kX9_isReady X.l (m := m) (mt := mt) (mw := mw) (mb := mb) (ml := ml) (mq := mq) (mz := mz) (ms := ms) (mr := mr) (mi := mi) (mk := mk) (mj := mj) (mn := mn) (th := nI 0) (fd0 := fd0) (pc0 := pc0) (dw0 := dw0) (lt0 := lt0) (ic0 := ic0) (tr0 := tr0) (sg0 := sg0) (ln0 := ln0) (at0 := at0) (rd0 := rd0) (dr0 := dr0) (ma0 := ma0) (en0 := en0) (kd := kd) (a := a) (y := y) (M := M) (gB := gB) (fun hk => ⟨hz hk, hy, hB⟩) hM) k_code_X9_isReady [0, 1] 0 rfl rfl rfl rfl dX9_canTry_41 (Nat.le_of_ble_eq_true rfl) ⟨rfl, rfl, by decide, by decide⟩ ⟨Nat.zero_le _, Nat.zero_le _⟩ rfl rfl (fun _ => rfl) (v_mgU rfl (fun _ => rfl)) ?_
  intro uu c41
  try dsimp only at c41
  show V (gG D cI cJ cT) X (rmD 3) cX9_canTry 6 RX9 [(m, .inr (9, [.int (nI 0), .int fd0, .int pc0, .int dw0, .int lt0, .ref mt, .ref mw, .ref mb, .ref ml, .ref mq, .ref mz, .ref ms, .ref mr, .int ic0, .ref mi, .int tr0, .int sg0, .int ln0, .int at0, .int rd0, .int dr0, .int ma0, .ref mk, .int en0, .ref mj, .ref mn])), (mb, .inl (cI, 8, .inl gB))] 0 0 [(0, .ref m), (1, .int kd), (2, .int a), (3, .int b1), (4, .int c), (5, .int len)] 44 [.int (dI (rdM kd M))]
  refine v_topi (y := dI false) (congrArg dI hr) ?_
  refine v_if_ne (tgt := 52) dX9_canTry_44 (by decide) (fun b44 => absurd b44 (fun q => q rfl)) (fun b44 => ?_)
  refine v_aload_n 0 dX9_canTry_47 rfl rfl ?_
  refine v_iconst (v := nI 2) dX9_canTry_48 (by decide) ?_
  refine v_put (ws' := [(m, .inr (9, [.int (nI 2), .int fd0, .int pc0, .int dw0, .int lt0, .ref mt, .ref mw, .ref mb, .ref ml, .ref mq, .ref mz, .ref ms, .ref mr, .int ic0, .ref mi, .int tr0, .int sg0, .int ln0, .int at0, .int rd0, .int dr0, .int ma0, .ref mk, .int en0, .ref mj, .ref mn])), (mb, .inl (cI, 8, .inl gB))]) fw_SampleDeskModel_47 0 rfl (rfl) (rfl) (Nat.le_of_ble_eq_true rfl) dX9_canTry_49 rfl ?_
  refine v_aload_n 0 dX9_canTry_52 rfl rfl ?_
  refine v_get f_SampleDeskModel_47 0 rfl rfl dX9_canTry_53 ?_
  refine v_if_ne (tgt := 63) dX9_canTry_56 (by decide) (fun b56 => ?_) (fun b56 => absurd b56 (by decide))
  refine v_iconst (v := 0) dX9_canTry_63 (by decide) ?_
  exact v_zret hE rfl dX9_canTry_64 () trivial rfl rfl
set_option maxRecDepth 100000 in
set_option maxHeartbeats 1000000 in
theorem kX9_canTry_0 {D : va_G} {cI cJ cT : ClassId} (l : Launch) {m mt mw mb ml mq mz ms mr mi mk mj mn : Nat} {th fd0 pc0 dw0 lt0 ic0 tr0 sg0 ln0 at0 rd0 dr0 ma0 en0 : Int32} {kd a b1 c len : Int32} {y M : Nat} {gB : Nat → Int32} (hc : canC kd a b1 c len) (hz : kd = nI 0 → a = nI y) (hy : y < 8) (hB : gB y = nI M) (hM : M ≤ 2) (hr : rdM kd M = true) : Fn (S := Unit) (gG D cI cJ cT) l yX9_canTry (.code yX9_canTry cX9_canTry 6 (some .boolean)) (rmD 3) [.ref m, .int kd, .int a, .int b1, .int c, .int len] [(m, .inr (9, [.int (nI 0), .int fd0, .int pc0, .int dw0, .int lt0, .ref mt, .ref mw, .ref mb, .ref ml, .ref mq, .ref mz, .ref ms, .ref mr, .int ic0, .ref mi, .int tr0, .int sg0, .int ln0, .int at0, .int rd0, .int dr0, .int ma0, .ref mk, .int en0, .ref mj, .ref mn])), (mb, .inl (cI, 8, .inl gB))] (fun _ => True) (fun u => some (.int (dI true))) (fun u => [(m, .inr (9, [.int (nI 0), .int fd0, .int pc0, .int dw0, .int lt0, .ref mt, .ref mw, .ref mb, .ref ml, .ref mq, .ref mz, .ref ms, .ref mr, .int ic0, .ref mi, .int tr0, .int sg0, .int ln0, .int at0, .int rd0, .int dr0, .int ma0, .ref mk, .int en0, .ref mj, .ref mn])), (mb, .inl (cI, 8, .inl gB))]) := by
  refine Fn.intro (by decide) (Nat.le_of_ble_eq_true rfl) ?_
  intro X hX hE hin
  subst hX
  show V (gG D cI cJ cT) X _ cX9_canTry 6 RX9 _ 0 0 [(0, .ref m), (1, .int kd), (2, .int a), (3, .int b1), (4, .int c), (5, .int len)] 0 []
  refine v_iload_n 1 dX9_canTry_0 rfl rfl ?_
  refine v_bipush (v := nI 8) dX9_canTry_1 (by decide) ?_
  refine v_icmp_gt (tgt := 30) dX9_canTry_3 (by decide) (fun b3 => absurd b3 (hc.1)) (fun b3 => ?_)
  refine v_iload_n 1 dX9_canTry_6 rfl rfl ?_
  refine v_iload_n 2 dX9_canTry_7 rfl rfl ?_
  refine v_iload_n 3 dX9_canTry_8 rfl rfl ?_
  refine v_iload 4 dX9_canTry_9 rfl ?_
  refine v_callS (as := [.int kd, .int a, .int b1, .int c]) (rest := []) (ws' := fun u => [(m, .inr (9, [.int (nI 0), .int fd0, .int pc0, .int dw0, .int lt0, .ref mt, .ref mw, .ref mb, .ref ml, .ref mq, .ref mz, .ref ms, .ref mr, .int ic0, .ref mi, .int tr0, .int sg0, .int ln0, .int at0, .int rd0, .int dr0, .int ma0, .ref mk, .int en0, .ref mj, .ref mn])), (mb, .inl (cI, 8, .inl gB))]) m_SampleDeskModel_197 (kX9_canBe X.l (kd := kd) (a := a) (b := b1) (c := c)) k_code_X9_canBe [] rfl rfl dX9_canTry_11 (Nat.le_of_ble_eq_true rfl) ⟨rfl, rfl, by decide, by decide⟩ ⟨Nat.zero_le _, Nat.zero_le _⟩ rfl rfl (fun _ => rfl) (v_mgU rfl (fun _ => rfl)) ?_
  intro uu c11
  try dsimp only at c11
  show V (gG D cI cJ cT) X (rmD 3) cX9_canTry 6 RX9 [(m, .inr (9, [.int (nI 0), .int fd0, .int pc0, .int dw0, .int lt0, .ref mt, .ref mw, .ref mb, .ref ml, .ref mq, .ref mz, .ref ms, .ref mr, .int ic0, .ref mi, .int tr0, .int sg0, .int ln0, .int at0, .int rd0, .int dr0, .int ma0, .ref mk, .int en0, .ref mj, .ref mn])), (mb, .inl (cI, 8, .inl gB))] 0 0 [(0, .ref m), (1, .int kd), (2, .int a), (3, .int b1), (4, .int c), (5, .int len)] 14 [.int (dI (okD kd a b1 c))]
  refine v_topi (y := dI true) (congrArg dI hc.2.1) ?_
  refine v_if_eq (tgt := 30) dX9_canTry_14 (by decide) (fun b14 => absurd b14 (by decide)) (fun b14 => ?_)
  refine v_iload 5 dX9_canTry_17 rfl ?_
  refine v_i2l (v := len.toInt64) dX9_canTry_19 (rfl) ?_
  refine v_lconst (v := 0) dX9_canTry_20 (by decide) ?_
  refine v_ldc2 (v := 12) k_c_SampleDeskModel_221 dX9_canTry_21 ?_
  refine v_callS (as := [.long len.toInt64, .long 0, .long 12]) (rest := []) (ws' := fun u => [(m, .inr (9, [.int (nI 0), .int fd0, .int pc0, .int dw0, .int lt0, .ref mt, .ref mw, .ref mb, .ref ml, .ref mq, .ref mz, .ref ms, .ref mr, .int ic0, .ref mi, .int tr0, .int sg0, .int ln0, .int at0, .int rd0, .int dr0, .int ma0, .ref mk, .int en0, .ref mj, .ref mn])), (mb, .inl (cI, 8, .inl gB))]) m_SampleDeskModel_58 (kX9_within X.l (v := len.toInt64) (lo := 0) (hi := 12)) k_code_X9_within [] rfl rfl dX9_canTry_24 (Nat.le_of_ble_eq_true rfl) ⟨rfl, rfl, by decide, by decide⟩ ⟨Nat.zero_le _, Nat.zero_le _⟩ rfl rfl (fun _ => rfl) (v_mgU rfl (fun _ => rfl)) ?_
  intro uu c24
  try dsimp only at c24
  show V (gG D cI cJ cT) X (rmD 3) cX9_canTry 6 RX9 [(m, .inr (9, [.int (nI 0), .int fd0, .int pc0, .int dw0, .int lt0, .ref mt, .ref mw, .ref mb, .ref ml, .ref mq, .ref mz, .ref ms, .ref mr, .int ic0, .ref mi, .int tr0, .int sg0, .int ln0, .int at0, .int rd0, .int dr0, .int ma0, .ref mk, .int en0, .ref mj, .ref mn])), (mb, .inl (cI, 8, .inl gB))] 0 0 [(0, .ref m), (1, .int kd), (2, .int a), (3, .int b1), (4, .int c), (5, .int len)] 27 [.int (dI (wi len.toInt64 0 12))]
  refine v_topi (y := dI (up len 12)) (congrArg dI (show wi len.toInt64 0 12 = up len 12 by rw [show (12 : Int64) = (12 : Int32).toInt64 by decide, wi_up])) ?_
  refine v_topi (y := dI true) (congrArg dI (upT1 (n := 12) (by decide) hc.2.2)) ?_
  refine v_if_ne (tgt := 38) dX9_canTry_27 (by decide) (fun b27 => ?_) (fun b27 => absurd b27 (by decide))
  refine v_aload_n 0 dX9_canTry_38 rfl rfl ?_
  refine v_iload_n 1 dX9_canTry_39 rfl rfl ?_
  refine v_iload_n 2 dX9_canTry_40 rfl rfl ?_
  refine v_callV (as := [.int kd, .int a]) (rest := []) (ws' := fun u => [(m, .inr (9, [.int (nI 0), .int fd0, .int pc0, .int dw0, .int lt0, .ref mt, .ref mw, .ref mb, .ref ml, .ref mq, .ref mz, .ref ms, .ref mr, .int ic0, .ref mi, .int tr0, .int sg0, .int ln0, .int at0, .int rd0, .int dr0, .int ma0, .ref mk, .int en0, .ref mj, .ref mn])), (mb, .inl (cI, 8, .inl gB))]) m_SampleDeskModel_201 (kX9_isReady X.l (m := m) (mt := mt) (mw := mw) (mb := mb) (ml := ml) (mq := mq) (mz := mz) (ms := ms) (mr := mr) (mi := mi) (mk := mk) (mj := mj) (mn := mn) (th := nI 0) (fd0 := fd0) (pc0 := pc0) (dw0 := dw0) (lt0 := lt0) (ic0 := ic0) (tr0 := tr0) (sg0 := sg0) (ln0 := ln0) (at0 := at0) (rd0 := rd0) (dr0 := dr0) (ma0 := ma0) (en0 := en0) (kd := kd) (a := a) (y := y) (M := M) (gB := gB) (fun hk => ⟨hz hk, hy, hB⟩) hM) k_code_X9_isReady [0, 1] 0 rfl rfl rfl rfl dX9_canTry_41 (Nat.le_of_ble_eq_true rfl) ⟨rfl, rfl, by decide, by decide⟩ ⟨Nat.zero_le _, Nat.zero_le _⟩ rfl rfl (fun _ => rfl) (v_mgU rfl (fun _ => rfl)) ?_
  intro uu c41
  try dsimp only at c41
  show V (gG D cI cJ cT) X (rmD 3) cX9_canTry 6 RX9 [(m, .inr (9, [.int (nI 0), .int fd0, .int pc0, .int dw0, .int lt0, .ref mt, .ref mw, .ref mb, .ref ml, .ref mq, .ref mz, .ref ms, .ref mr, .int ic0, .ref mi, .int tr0, .int sg0, .int ln0, .int at0, .int rd0, .int dr0, .int ma0, .ref mk, .int en0, .ref mj, .ref mn])), (mb, .inl (cI, 8, .inl gB))] 0 0 [(0, .ref m), (1, .int kd), (2, .int a), (3, .int b1), (4, .int c), (5, .int len)] 44 [.int (dI (rdM kd M))]
  refine v_topi (y := dI true) (congrArg dI hr) ?_
  refine v_if_ne (tgt := 52) dX9_canTry_44 (by decide) (fun b44 => ?_) (fun b44 => absurd b44 (by decide))
  refine v_aload_n 0 dX9_canTry_52 rfl rfl ?_
  refine v_get f_SampleDeskModel_47 0 rfl rfl dX9_canTry_53 ?_
  refine v_if_ne (tgt := 63) dX9_canTry_56 (by decide) (fun b56 => absurd b56 (fun q => q rfl)) (fun b56 => ?_)
  refine v_iconst (v := 1) dX9_canTry_59 (by decide) ?_
  refine v_goto (tgt := 64) dX9_canTry_60 (by decide) ?_
  exact v_zret hE rfl dX9_canTry_64 () trivial rfl rfl
set_option maxRecDepth 100000 in
set_option maxHeartbeats 1000000 in
theorem kX9_tryAll_loop {D : va_G} {cI cJ cT : ClassId} {X : vX} {m mt mw mb ml mq mz ms mr mi mk mj mn : Nat} {th pc0 dw0 lt0 ic0 en0 : Int32} {fd n R0 : Nat} {tp : Nat → Int32} {y M : Nat} {gW gL : Nat → Int64} {W : Nat → Nat} {gB gQ gZ : Nat → Int32} {kd a b1 c : Int32} {out : Int64} {dec : Bool} {A : Nat → Option (sR × Nat)} (hn : n ≤ 12) (hok : okD kd a b1 c = true) (hW : ∀ x, x < 64 → gW (64 * y + x) = lN (W x)) (hWb : ∀ x, x < 64 → W x < 2 ^ 31) (hy : y < 8) (hT : TBm M y W gB gZ gQ gL) (hz : kd = nI 0 → a = nI y) (hr0 : kd = nI 0 → 0 < M) (hA : ∀ s, A s = sAnsI (bS n s) n kd a b1 c W (M - 1) 0) {W0 : va_W} {post : Nat × Int32 × Int32 × Int32 × Int32 × (Nat → Int64) × (Nat → Int32) × (Nat → Int32) → Prop} (hq : ∀ u : Nat × Int32 × Int32 × Int32 × Int32 × (Nat → Int64) × (Nat → Int32) × (Nat → Int32), True → post u) (hE : vE (gG D cI cJ cT) X (some .int) W0 post (fun u => some (.int (nI R0))) (fun u => [(m, .inr (9, [.int th, .int (nI fd), .int pc0, .int dw0, .int lt0, .ref mt, .ref mw, .ref mb, .ref ml, .ref mq, .ref mz, .ref ms, .ref mr, .int ic0, .ref mi, .int (dI true), .int (nI u.1), .int (nI n), .int u.2.1, .int u.2.2.1, .int u.2.2.2.1, .int u.2.2.2.2.1, .ref mk, .int en0, .ref mj, .ref mn])), (mt, .inl (cI, 16384, .inl tp)), (mw, .inl (cJ, 512, .inr (.inl gW))), (ms, .inl (cJ, 64, .inr (.inl u.2.2.2.2.2.1))), (mb, .inl (cI, 8, .inl gB)), (ml, .inl (cJ, 512, .inr (.inl gL))), (mq, .inl (cI, 512, .inl gQ)), (mz, .inl (cI, 8, .inl gZ)), (mk, .inl (cI, 256, .inl u.2.2.2.2.2.2.1)), (mr, .inl (cI, 512, .inl u.2.2.2.2.2.2.2))])) :
    ∀ (k : Nat) (s : Nat) (many : Nat) (at0 : Int32) (rd0 : Int32) (dr0 : Int32) (ma0 : Int32) (gS : Nat → Int64) (gK : Nat → Int32) (gR : Nat → Int32), 2 ^ n - s < k → s ≤ 8192 → many ≤ s → talL A n dec out k s many = R0 → V (gG D cI cJ cT) X (rmD 6) cX9_tryAll 13 RX9 [(m, .inr (9, [.int th, .int (nI fd), .int pc0, .int dw0, .int lt0, .ref mt, .ref mw, .ref mb, .ref ml, .ref mq, .ref mz, .ref ms, .ref mr, .int ic0, .ref mi, .int (dI true), .int (nI s), .int (nI n), .int at0, .int rd0, .int dr0, .int ma0, .ref mk, .int en0, .ref mj, .ref mn])), (mt, .inl (cI, 16384, .inl tp)), (mw, .inl (cJ, 512, .inr (.inl gW))), (ms, .inl (cJ, 64, .inr (.inl gS))), (mb, .inl (cI, 8, .inl gB)), (ml, .inl (cJ, 512, .inr (.inl gL))), (mq, .inl (cI, 512, .inl gQ)), (mz, .inl (cI, 8, .inl gZ)), (mk, .inl (cI, 256, .inl gK)), (mr, .inl (cI, 512, .inl gR))] 0 0 [(0, .ref m), (1, .int kd), (2, .int a), (3, .int b1), (4, .int c), (5, .int (nI n)), (6, .long out), (8, .int (dI (!dec))), (9, .int (nI many))] 19 [] := by
  intro k
  induction k with
  | zero => intro s many at0 rd0 dr0 ma0 gS gK gR hk hs hfo hTl; omega
  | succ k ih =>
    intro s many at0 rd0 dr0 ma0 gS gK gR hk hs hfo hTl
    refine v_aload_n 0 dX9_tryAll_19 rfl rfl ?_
    refine v_get f_SampleDeskModel_90 0 rfl rfl dX9_tryAll_20 ?_
    have hpw : 2 ^ n ≤ 4096 := pow_le12 hn
    refine v_iconst (v := nI 1) dX9_tryAll_23 (by decide) ?_
    refine v_iload 5 dX9_tryAll_24 rfl ?_
    refine v_ishl dX9_tryAll_26 ?_
    refine v_topi (y := nI (2 ^ n)) (shl1 n (by omega)) ?_
    refine v_icmp_ge (tgt := 115) dX9_tryAll_27 (by decide) (fun b27 => ?_) (fun b27 => ?_)
    · have b27 : 2 ^ n ≤ s := (nI_leI (by omega) (by omega)).mp b27
      refine v_iload 8 dX9_tryAll_115 rfl ?_
      exact v_iret hE dX9_tryAll_117 (s, at0, rd0, dr0, ma0, gS, gK, gR) (hq _ trivial) (by rw [← hTl]; simp only [talL]; rw [if_neg (by omega)]) rfl
    · have b27 : ¬ (2 ^ n ≤ s) := fun q => b27 ((nI_leI (by omega) (by omega)).mpr q)
      have b27 : s < 2 ^ n := by omega
      refine v_aload_n 0 dX9_tryAll_30 rfl rfl ?_
      refine v_iload_n 1 dX9_tryAll_31 rfl rfl ?_
      refine v_iload_n 2 dX9_tryAll_32 rfl rfl ?_
      refine v_iload_n 3 dX9_tryAll_33 rfl rfl ?_
      refine v_iload 4 dX9_tryAll_34 rfl ?_
      refine v_iconst (v := nI 0) dX9_tryAll_36 (by decide) ?_
      refine v_callV (as := [.int kd, .int a, .int b1, .int c, .int (nI 0)]) (rest := []) (ws' := fun u => [(m, .inr (9, [.int th, .int (nI fd), .int pc0, .int dw0, .int lt0, .ref mt, .ref mw, .ref mb, .ref ml, .ref mq, .ref mz, .ref ms, .ref mr, .int ic0, .ref mi, .int (dI true), .int (nI s), .int (nI n), .int (nI u.2.2.2.2.2.1), .int (nI (u.2.2.2.2.2.1 - 0)), .int (dI u.2.2.2.2.2.2), .int u.2.1, .ref mk, .int en0, .ref mj, .ref mn])), (mt, .inl (cI, 16384, .inl tp)), (mw, .inl (cJ, 512, .inr (.inl gW))), (ms, .inl (cJ, 64, .inr (.inl u.2.2.1))), (mb, .inl (cI, 8, .inl gB)), (ml, .inl (cJ, 512, .inr (.inl gL))), (mq, .inl (cI, 512, .inl gQ)), (mz, .inl (cI, 8, .inl gZ)), (mk, .inl (cI, 256, .inl u.2.2.2.1)), (mr, .inl (cI, 512, .inl u.2.2.2.2.1))]) m_SampleDeskModel_204 (kX9_go X.l (m := m) (mt := mt) (mw := mw) (mb := mb) (ml := ml) (mq := mq) (mz := mz) (ms := ms) (mr := mr) (mi := mi) (mk := mk) (mj := mj) (mn := mn) (th := th) (pc0 := pc0) (dw0 := dw0) (lt0 := lt0) (ic0 := ic0) (en0 := en0) (fd := fd) (tp := tp) (y := y) (gW := gW) (gS := gS) (gL := gL) (W := W) (gB := gB) (gQ := gQ) (gZ := gZ) (gK := gK) (gR := gR) (kd := kd) (a := a) (b1 := b1) (c := c) (ma0 := ma0) (sg := s) (ln := n) (fr := 0) (e := n) (tr := true) (b := (bS n s)) (at0 := at0) (rd0 := rd0) (dr0 := dr0) (mm := M - 1) (⟨by omega, fun p => bitW_lt _ p, (fun h => nomatch h), fun _ => ⟨rfl, hn, b27, rfl⟩⟩) (Nat.zero_le _) hok hW hWb hy (TBm_go hT hz hr0)) k_code_X9_go [0, 1, 2, 3, 4, 5, 6, 7, 8, 9] 0 rfl rfl rfl rfl dX9_tryAll_37 (Nat.le_of_ble_eq_true rfl) ⟨rfl, rfl, by decide, by decide⟩ ⟨Nat.zero_le _, Nat.zero_le _⟩ rfl rfl (fun _ => rfl) (v_mgU rfl (fun _ => rfl)) ?_
      intro u37 c37
      obtain ⟨an, ma1, g1, g2, g3, p1, d1⟩ := u37
      try dsimp only at c37
      show V (gG D cI cJ cT) X (rmD 6) cX9_tryAll 13 RX9 [(m, .inr (9, [.int th, .int (nI fd), .int pc0, .int dw0, .int lt0, .ref mt, .ref mw, .ref mb, .ref ml, .ref mq, .ref mz, .ref ms, .ref mr, .int ic0, .ref mi, .int (dI true), .int (nI s), .int (nI n), .int (nI p1), .int (nI (p1 - 0)), .int (dI d1), .int ma1, .ref mk, .int en0, .ref mj, .ref mn])), (mt, .inl (cI, 16384, .inl tp)), (mw, .inl (cJ, 512, .inr (.inl gW))), (ms, .inl (cJ, 64, .inr (.inl g1))), (mb, .inl (cI, 8, .inl gB)), (ml, .inl (cJ, 512, .inr (.inl gL))), (mq, .inl (cI, 512, .inl gQ)), (mz, .inl (cI, 8, .inl gZ)), (mk, .inl (cI, 256, .inl g2)), (mr, .inl (cI, 512, .inl g3))] 0 0 [(0, .ref m), (1, .int kd), (2, .int a), (3, .int b1), (4, .int c), (5, .int (nI n)), (6, .long out), (8, .int (dI (!dec))), (9, .int (nI many))] 40 [.long an]
      rcases d1 with _ | _
      · show V (gG D cI cJ cT) X (rmD 6) cX9_tryAll 13 RX9 [(m, .inr (9, [.int th, .int (nI fd), .int pc0, .int dw0, .int lt0, .ref mt, .ref mw, .ref mb, .ref ml, .ref mq, .ref mz, .ref ms, .ref mr, .int ic0, .ref mi, .int (dI true), .int (nI s), .int (nI n), .int (nI p1), .int (nI (p1 - 0)), .int (dI false), .int ma1, .ref mk, .int en0, .ref mj, .ref mn])), (mt, .inl (cI, 16384, .inl tp)), (mw, .inl (cJ, 512, .inr (.inl gW))), (ms, .inl (cJ, 64, .inr (.inl g1))), (mb, .inl (cI, 8, .inl gB)), (ml, .inl (cJ, 512, .inr (.inl gL))), (mq, .inl (cI, 512, .inl gQ)), (mz, .inl (cI, 8, .inl gZ)), (mk, .inl (cI, 256, .inl g2)), (mr, .inl (cI, 512, .inl g3))] 0 0 [(0, .ref m), (1, .int kd), (2, .int a), (3, .int b1), (4, .int c), (5, .int (nI n)), (6, .long out), (8, .int (dI (!dec))), (9, .int (nI many))] 40 [.long an]
        obtain ⟨r, q1, q2, q3, q4⟩ := Rg_ok c37 rfl rfl
        have q5 : A s = some (r, p1) := (hA s).trans q1
        have hp2 : 2 ^ (n - p1) ≤ 4096 := pow_le12 (by omega)
        have hp3 : 1 ≤ 2 ^ (n - p1) := Nat.one_le_two_pow
        refine v_lstore (lv' := [(10, .long an), (0, .ref m), (1, .int kd), (2, .int a), (3, .int b1), (4, .int c), (5, .int (nI n)), (6, .long out), (8, .int (dI (!dec))), (9, .int (nI many))]) dX9_tryAll_40 (by decide) rfl ?_
        refine v_aload_n 1 dX9_tryAll_42 rfl rfl ?_
        refine v_get f_SampleDeskModel_77 0 rfl rfl dX9_tryAll_43 ?_
        refine v_if_eq (tgt := 53) dX9_tryAll_46 (by decide) (fun b46 => ?_) (fun b46 => absurd (rfl) b46)
        refine v_iconst (v := nI 1) dX9_tryAll_53 (by decide) ?_
        refine v_iload 6 dX9_tryAll_54 rfl ?_
        refine v_aload_n 1 dX9_tryAll_56 rfl rfl ?_
        refine v_get f_SampleDeskModel_93 0 rfl rfl dX9_tryAll_57 ?_
        refine v_topi (y := nI p1) (by rw [Nat.sub_zero]) ?_
        refine v_isub dX9_tryAll_60 ?_
        refine v_topi (y := nI (n - p1)) (pk_sub (by omega)) ?_
        refine v_ishl dX9_tryAll_61 ?_
        refine v_topi (y := nI (2 ^ (n - p1))) (shl1 (n - p1) (by omega)) ?_
        refine v_istore (lv' := [(12, .int (nI (2 ^ (n - p1)))), (10, .long an), (0, .ref m), (1, .int kd), (2, .int a), (3, .int b1), (4, .int c), (5, .int (nI n)), (6, .long out), (8, .int (dI (!dec))), (9, .int (nI many))]) dX9_tryAll_62 (by decide) rfl ?_
        refine v_iload 9 dX9_tryAll_64 rfl ?_
        refine v_if_eq (tgt := 79) dX9_tryAll_66 (by decide) (fun b66 => ?_) (fun b66 => ?_)
        · have b66 : (!dec) = false := (dI_0 _).mp b66
          have hdec : dec = true := by simpa using b66
          refine v_aload_n 2 dX9_tryAll_79 rfl rfl ?_
          refine v_get f_SampleDeskModel_77 0 rfl rfl dX9_tryAll_80 ?_
          refine v_if_ne (tgt := 101) dX9_tryAll_83 (by decide) (fun b83 => absurd b83 (fun q => q rfl)) (fun b83 => ?_)
          refine v_lload 1 dX9_tryAll_86 rfl ?_
          refine v_lload 8 dX9_tryAll_88 rfl ?_
          refine v_lcmp dX9_tryAll_90 ?_
          refine v_if_ne (tgt := 101) dX9_tryAll_91 (by decide) (fun b91 => ?_) (fun b91 => ?_)
          · have b91 : ¬ (an = out) := fun q => b91 ((lg_cmp_eq _ _).mpr q)
            refine v_aload_n 2 dX9_tryAll_101 rfl rfl ?_
            refine v_dup dX9_tryAll_102 rfl ?_
            refine v_get f_SampleDeskModel_90 0 rfl rfl dX9_tryAll_103 ?_
            refine v_iload 0 dX9_tryAll_106 rfl ?_
            refine v_iadd dX9_tryAll_108 ?_
            refine v_topi (y := nI (s + ((2 ^ (n - p1))))) (nI_add _ _) ?_
            refine v_put (ws' := [(m, .inr (9, [.int th, .int (nI fd), .int pc0, .int dw0, .int lt0, .ref mt, .ref mw, .ref mb, .ref ml, .ref mq, .ref mz, .ref ms, .ref mr, .int ic0, .ref mi, .int (dI true), .int (nI (s + ((2 ^ (n - p1))))), .int (nI n), .int (nI p1), .int (nI (p1 - 0)), .int (dI false), .int ma1, .ref mk, .int en0, .ref mj, .ref mn])), (mt, .inl (cI, 16384, .inl tp)), (mw, .inl (cJ, 512, .inr (.inl gW))), (ms, .inl (cJ, 64, .inr (.inl g1))), (mb, .inl (cI, 8, .inl gB)), (ml, .inl (cJ, 512, .inr (.inl gL))), (mq, .inl (cI, 512, .inl gQ)), (mz, .inl (cI, 8, .inl gZ)), (mk, .inl (cI, 256, .inl g2)), (mr, .inl (cI, 512, .inl g3))]) fw_SampleDeskModel_90 0 rfl (rfl) (rfl) (Nat.le_of_ble_eq_true rfl) dX9_tryAll_109 rfl ?_
            refine v_goto (tgt := 19) dX9_tryAll_112 (by decide) ?_
            refine v_lv [2, 3, 4, 5, 6, 7, 8, 9, 10] rfl ?_
            exact ih ((s + ((2 ^ (n - p1))))) many (nI p1) (nI (p1 - 0)) (dI false) ma1 g1 g2 g3 (by omega) (by omega) (by omega) (by rw [← hTl]; simp only [talL]; rw [if_pos b27, q5]; simp [q2.1.symm, *])
          · have b91 : an = out := (lg_cmp_eq _ _).mp b91
            refine v_iload 10 dX9_tryAll_94 rfl ?_
            refine v_iload 0 dX9_tryAll_96 rfl ?_
            refine v_iadd dX9_tryAll_98 ?_
            refine v_topi (y := nI (many + ((2 ^ (n - p1))))) (nI_add _ _) ?_
            refine v_istore (lv' := [(9, .int (nI (many + ((2 ^ (n - p1)))))), (12, .int (nI (2 ^ (n - p1)))), (10, .long an), (0, .ref m), (1, .int kd), (2, .int a), (3, .int b1), (4, .int c), (5, .int (nI n)), (6, .long out), (8, .int (dI (!dec)))]) dX9_tryAll_99 (by decide) rfl ?_
            refine v_aload_n 3 dX9_tryAll_101 rfl rfl ?_
            refine v_dup dX9_tryAll_102 rfl ?_
            refine v_get f_SampleDeskModel_90 0 rfl rfl dX9_tryAll_103 ?_
            refine v_iload 1 dX9_tryAll_106 rfl ?_
            refine v_iadd dX9_tryAll_108 ?_
            refine v_topi (y := nI (s + ((2 ^ (n - p1))))) (nI_add _ _) ?_
            refine v_put (ws' := [(m, .inr (9, [.int th, .int (nI fd), .int pc0, .int dw0, .int lt0, .ref mt, .ref mw, .ref mb, .ref ml, .ref mq, .ref mz, .ref ms, .ref mr, .int ic0, .ref mi, .int (dI true), .int (nI (s + ((2 ^ (n - p1))))), .int (nI n), .int (nI p1), .int (nI (p1 - 0)), .int (dI false), .int ma1, .ref mk, .int en0, .ref mj, .ref mn])), (mt, .inl (cI, 16384, .inl tp)), (mw, .inl (cJ, 512, .inr (.inl gW))), (ms, .inl (cJ, 64, .inr (.inl g1))), (mb, .inl (cI, 8, .inl gB)), (ml, .inl (cJ, 512, .inr (.inl gL))), (mq, .inl (cI, 512, .inl gQ)), (mz, .inl (cI, 8, .inl gZ)), (mk, .inl (cI, 256, .inl g2)), (mr, .inl (cI, 512, .inl g3))]) fw_SampleDeskModel_90 0 rfl (rfl) (rfl) (Nat.le_of_ble_eq_true rfl) dX9_tryAll_109 rfl ?_
            refine v_goto (tgt := 19) dX9_tryAll_112 (by decide) ?_
            refine v_lv [3, 4, 5, 6, 7, 8, 9, 10, 0] rfl ?_
            exact ih ((s + ((2 ^ (n - p1))))) ((many + ((2 ^ (n - p1))))) (nI p1) (nI (p1 - 0)) (dI false) ma1 g1 g2 g3 (by omega) (by omega) (by omega) (by rw [← hTl]; simp only [talL]; rw [if_pos b27, q5]; simp [q2.1.symm, *])
        · have b66 : ¬ ((!dec) = false) := fun q => b66 ((dI_0 _).mpr q)
          have hdec : dec = false := by simpa using b66
          refine v_aload_n 2 dX9_tryAll_69 rfl rfl ?_
          refine v_get f_SampleDeskModel_77 0 rfl rfl dX9_tryAll_70 ?_
          refine v_if_eq (tgt := 101) dX9_tryAll_73 (by decide) (fun b73 => ?_) (fun b73 => absurd (rfl) b73)
          refine v_aload_n 2 dX9_tryAll_101 rfl rfl ?_
          refine v_dup dX9_tryAll_102 rfl ?_
          refine v_get f_SampleDeskModel_90 0 rfl rfl dX9_tryAll_103 ?_
          refine v_iload 0 dX9_tryAll_106 rfl ?_
          refine v_iadd dX9_tryAll_108 ?_
          refine v_topi (y := nI (s + ((2 ^ (n - p1))))) (nI_add _ _) ?_
          refine v_put (ws' := [(m, .inr (9, [.int th, .int (nI fd), .int pc0, .int dw0, .int lt0, .ref mt, .ref mw, .ref mb, .ref ml, .ref mq, .ref mz, .ref ms, .ref mr, .int ic0, .ref mi, .int (dI true), .int (nI (s + ((2 ^ (n - p1))))), .int (nI n), .int (nI p1), .int (nI (p1 - 0)), .int (dI false), .int ma1, .ref mk, .int en0, .ref mj, .ref mn])), (mt, .inl (cI, 16384, .inl tp)), (mw, .inl (cJ, 512, .inr (.inl gW))), (ms, .inl (cJ, 64, .inr (.inl g1))), (mb, .inl (cI, 8, .inl gB)), (ml, .inl (cJ, 512, .inr (.inl gL))), (mq, .inl (cI, 512, .inl gQ)), (mz, .inl (cI, 8, .inl gZ)), (mk, .inl (cI, 256, .inl g2)), (mr, .inl (cI, 512, .inl g3))]) fw_SampleDeskModel_90 0 rfl (rfl) (rfl) (Nat.le_of_ble_eq_true rfl) dX9_tryAll_109 rfl ?_
          refine v_goto (tgt := 19) dX9_tryAll_112 (by decide) ?_
          refine v_lv [2, 3, 4, 5, 6, 7, 8, 9, 10] rfl ?_
          exact ih ((s + ((2 ^ (n - p1))))) many (nI p1) (nI (p1 - 0)) (dI false) ma1 g1 g2 g3 (by omega) (by omega) (by omega) (by rw [← hTl]; simp only [talL]; rw [if_pos b27, q5]; simp [q2.1.symm, *])
      · show V (gG D cI cJ cT) X (rmD 6) cX9_tryAll 13 RX9 [(m, .inr (9, [.int th, .int (nI fd), .int pc0, .int dw0, .int lt0, .ref mt, .ref mw, .ref mb, .ref ml, .ref mq, .ref mz, .ref ms, .ref mr, .int ic0, .ref mi, .int (dI true), .int (nI s), .int (nI n), .int (nI p1), .int (nI (p1 - 0)), .int (dI true), .int ma1, .ref mk, .int en0, .ref mj, .ref mn])), (mt, .inl (cI, 16384, .inl tp)), (mw, .inl (cJ, 512, .inr (.inl gW))), (ms, .inl (cJ, 64, .inr (.inl g1))), (mb, .inl (cI, 8, .inl gB)), (ml, .inl (cJ, 512, .inr (.inl gL))), (mq, .inl (cI, 512, .inl gQ)), (mz, .inl (cI, 8, .inl gZ)), (mk, .inl (cI, 256, .inl g2)), (mr, .inl (cI, 512, .inl g3))] 0 0 [(0, .ref m), (1, .int kd), (2, .int a), (3, .int b1), (4, .int c), (5, .int (nI n)), (6, .long out), (8, .int (dI (!dec))), (9, .int (nI many))] 40 [.long an]
        have q1 := Rg_no c37 rfl rfl
        have q5 : A s = none := (hA s).trans q1
        refine v_lstore (lv' := [(10, .long an), (0, .ref m), (1, .int kd), (2, .int a), (3, .int b1), (4, .int c), (5, .int (nI n)), (6, .long out), (8, .int (dI (!dec))), (9, .int (nI many))]) dX9_tryAll_40 (by decide) rfl ?_
        refine v_aload_n 1 dX9_tryAll_42 rfl rfl ?_
        refine v_get f_SampleDeskModel_77 0 rfl rfl dX9_tryAll_43 ?_
        refine v_if_eq (tgt := 53) dX9_tryAll_46 (by decide) (fun b46 => absurd b46 (by decide)) (fun b46 => ?_)
        refine v_iconst (v := nI 1) dX9_tryAll_49 (by decide) ?_
        refine v_goto (tgt := 62) dX9_tryAll_50 (by decide) ?_
        refine v_istore (lv' := [(12, .int (nI 1)), (10, .long an), (0, .ref m), (1, .int kd), (2, .int a), (3, .int b1), (4, .int c), (5, .int (nI n)), (6, .long out), (8, .int (dI (!dec))), (9, .int (nI many))]) dX9_tryAll_62 (by decide) rfl ?_
        refine v_iload 9 dX9_tryAll_64 rfl ?_
        refine v_if_eq (tgt := 79) dX9_tryAll_66 (by decide) (fun b66 => ?_) (fun b66 => ?_)
        · have b66 : (!dec) = false := (dI_0 _).mp b66
          have hdec : dec = true := by simpa using b66
          refine v_aload_n 2 dX9_tryAll_79 rfl rfl ?_
          refine v_get f_SampleDeskModel_77 0 rfl rfl dX9_tryAll_80 ?_
          refine v_if_ne (tgt := 101) dX9_tryAll_83 (by decide) (fun b83 => ?_) (fun b83 => absurd b83 (by decide))
          refine v_aload_n 2 dX9_tryAll_101 rfl rfl ?_
          refine v_dup dX9_tryAll_102 rfl ?_
          refine v_get f_SampleDeskModel_90 0 rfl rfl dX9_tryAll_103 ?_
          refine v_iload 0 dX9_tryAll_106 rfl ?_
          refine v_iadd dX9_tryAll_108 ?_
          refine v_topi (y := nI (s + 1)) (nI_add _ _) ?_
          refine v_put (ws' := [(m, .inr (9, [.int th, .int (nI fd), .int pc0, .int dw0, .int lt0, .ref mt, .ref mw, .ref mb, .ref ml, .ref mq, .ref mz, .ref ms, .ref mr, .int ic0, .ref mi, .int (dI true), .int (nI (s + 1)), .int (nI n), .int (nI p1), .int (nI (p1 - 0)), .int (dI true), .int ma1, .ref mk, .int en0, .ref mj, .ref mn])), (mt, .inl (cI, 16384, .inl tp)), (mw, .inl (cJ, 512, .inr (.inl gW))), (ms, .inl (cJ, 64, .inr (.inl g1))), (mb, .inl (cI, 8, .inl gB)), (ml, .inl (cJ, 512, .inr (.inl gL))), (mq, .inl (cI, 512, .inl gQ)), (mz, .inl (cI, 8, .inl gZ)), (mk, .inl (cI, 256, .inl g2)), (mr, .inl (cI, 512, .inl g3))]) fw_SampleDeskModel_90 0 rfl (rfl) (rfl) (Nat.le_of_ble_eq_true rfl) dX9_tryAll_109 rfl ?_
          refine v_goto (tgt := 19) dX9_tryAll_112 (by decide) ?_
          refine v_lv [2, 3, 4, 5, 6, 7, 8, 9, 10] rfl ?_
          exact ih ((s + 1)) many (nI p1) (nI (p1 - 0)) (dI true) ma1 g1 g2 g3 (by omega) (by omega) (by omega) (by rw [← hTl]; simp only [talL]; rw [if_pos b27, q5]; simp [*])
        · have b66 : ¬ ((!dec) = false) := fun q => b66 ((dI_0 _).mpr q)
          have hdec : dec = false := by simpa using b66
          refine v_aload_n 2 dX9_tryAll_69 rfl rfl ?_
          refine v_get f_SampleDeskModel_77 0 rfl rfl dX9_tryAll_70 ?_
          refine v_if_eq (tgt := 101) dX9_tryAll_73 (by decide) (fun b73 => absurd b73 (by decide)) (fun b73 => ?_)
          refine v_goto (tgt := 94) dX9_tryAll_76 (by decide) ?_
          refine v_iload 10 dX9_tryAll_94 rfl ?_
          refine v_iload 0 dX9_tryAll_96 rfl ?_
          refine v_iadd dX9_tryAll_98 ?_
          refine v_topi (y := nI (many + 1)) (nI_add _ _) ?_
          refine v_istore (lv' := [(9, .int (nI (many + 1))), (12, .int (nI 1)), (10, .long an), (0, .ref m), (1, .int kd), (2, .int a), (3, .int b1), (4, .int c), (5, .int (nI n)), (6, .long out), (8, .int (dI (!dec)))]) dX9_tryAll_99 (by decide) rfl ?_
          refine v_aload_n 3 dX9_tryAll_101 rfl rfl ?_
          refine v_dup dX9_tryAll_102 rfl ?_
          refine v_get f_SampleDeskModel_90 0 rfl rfl dX9_tryAll_103 ?_
          refine v_iload 1 dX9_tryAll_106 rfl ?_
          refine v_iadd dX9_tryAll_108 ?_
          refine v_topi (y := nI (s + 1)) (nI_add _ _) ?_
          refine v_put (ws' := [(m, .inr (9, [.int th, .int (nI fd), .int pc0, .int dw0, .int lt0, .ref mt, .ref mw, .ref mb, .ref ml, .ref mq, .ref mz, .ref ms, .ref mr, .int ic0, .ref mi, .int (dI true), .int (nI (s + 1)), .int (nI n), .int (nI p1), .int (nI (p1 - 0)), .int (dI true), .int ma1, .ref mk, .int en0, .ref mj, .ref mn])), (mt, .inl (cI, 16384, .inl tp)), (mw, .inl (cJ, 512, .inr (.inl gW))), (ms, .inl (cJ, 64, .inr (.inl g1))), (mb, .inl (cI, 8, .inl gB)), (ml, .inl (cJ, 512, .inr (.inl gL))), (mq, .inl (cI, 512, .inl gQ)), (mz, .inl (cI, 8, .inl gZ)), (mk, .inl (cI, 256, .inl g2)), (mr, .inl (cI, 512, .inl g3))]) fw_SampleDeskModel_90 0 rfl (rfl) (rfl) (Nat.le_of_ble_eq_true rfl) dX9_tryAll_109 rfl ?_
          refine v_goto (tgt := 19) dX9_tryAll_112 (by decide) ?_
          refine v_lv [3, 4, 5, 6, 7, 8, 9, 10, 0] rfl ?_
          exact ih ((s + 1)) ((many + 1)) (nI p1) (nI (p1 - 0)) (dI true) ma1 g1 g2 g3 (by omega) (by omega) (by omega) (by rw [← hTl]; simp only [talL]; rw [if_pos b27, q5]; simp [*])
set_option maxRecDepth 100000 in
set_option maxHeartbeats 1000000 in
theorem kX9_tryAll {D : va_G} {cI cJ cT : ClassId} (l : Launch) {m mt mw mb ml mq mz ms mr mi mk mj mn : Nat} {th pc0 dw0 lt0 ic0 en0 : Int32} {tr0 sg0 ln0 at0 rd0 dr0 ma0 : Int32} {gS : Nat → Int64} {gK gR : Nat → Int32} {fd n : Nat} {tp : Nat → Int32} {y M : Nat} {gW gL : Nat → Int64} {W : Nat → Nat} {gB gQ gZ : Nat → Int32} {kd a b1 c : Int32} {out : Int64} {dec : Bool} (hn : n ≤ 12) (hok : okD kd a b1 c = true) (hW : ∀ x, x < 64 → gW (64 * y + x) = lN (W x)) (hWb : ∀ x, x < 64 → W x < 2 ^ 31) (hy : y < 8) (hT : TBm M y W gB gZ gQ gL) (hz : kd = nI 0 → a = nI y) (hr0 : kd = nI 0 → 0 < M) : Fn (S := Nat × Int32 × Int32 × Int32 × Int32 × (Nat → Int64) × (Nat → Int32) × (Nat → Int32)) (gG D cI cJ cT) l yX9_tryAll (.code yX9_tryAll cX9_tryAll 13 (some .int)) (rmD 6) [.ref m, .int kd, .int a, .int b1, .int c, .int (nI n), .long out, .int (dI (!dec))] [(m, .inr (9, [.int th, .int (nI fd), .int pc0, .int dw0, .int lt0, .ref mt, .ref mw, .ref mb, .ref ml, .ref mq, .ref mz, .ref ms, .ref mr, .int ic0, .ref mi, .int tr0, .int sg0, .int ln0, .int at0, .int rd0, .int dr0, .int ma0, .ref mk, .int en0, .ref mj, .ref mn])), (mt, .inl (cI, 16384, .inl tp)), (mw, .inl (cJ, 512, .inr (.inl gW))), (ms, .inl (cJ, 64, .inr (.inl gS))), (mb, .inl (cI, 8, .inl gB)), (ml, .inl (cJ, 512, .inr (.inl gL))), (mq, .inl (cI, 512, .inl gQ)), (mz, .inl (cI, 8, .inl gZ)), (mk, .inl (cI, 256, .inl gK)), (mr, .inl (cI, 512, .inl gR))] (fun _ => True) (fun u => some (.int (nI (sTal kd a b1 c W (M - 1) n dec out)))) (fun u => [(m, .inr (9, [.int th, .int (nI fd), .int pc0, .int dw0, .int lt0, .ref mt, .ref mw, .ref mb, .ref ml, .ref mq, .ref mz, .ref ms, .ref mr, .int ic0, .ref mi, .int (dI true), .int (nI u.1), .int (nI n), .int u.2.1, .int u.2.2.1, .int u.2.2.2.1, .int u.2.2.2.2.1, .ref mk, .int en0, .ref mj, .ref mn])), (mt, .inl (cI, 16384, .inl tp)), (mw, .inl (cJ, 512, .inr (.inl gW))), (ms, .inl (cJ, 64, .inr (.inl u.2.2.2.2.2.1))), (mb, .inl (cI, 8, .inl gB)), (ml, .inl (cJ, 512, .inr (.inl gL))), (mq, .inl (cI, 512, .inl gQ)), (mz, .inl (cI, 8, .inl gZ)), (mk, .inl (cI, 256, .inl u.2.2.2.2.2.2.1)), (mr, .inl (cI, 512, .inl u.2.2.2.2.2.2.2))]) := by
  refine Fn.intro (by decide) (Nat.le_of_ble_eq_true rfl) ?_
  intro X hX hE hin
  subst hX
  show V (gG D cI cJ cT) X _ cX9_tryAll 13 RX9 _ 0 0 [(0, .ref m), (1, .int kd), (2, .int a), (3, .int b1), (4, .int c), (5, .int (nI n)), (6, .long out), (8, .int (dI (!dec)))] 0 []
  refine v_aload_n 0 dX9_tryAll_0 rfl rfl ?_
  refine v_iconst (v := dI true) dX9_tryAll_1 (by decide) ?_
  refine v_put (ws' := [(m, .inr (9, [.int th, .int (nI fd), .int pc0, .int dw0, .int lt0, .ref mt, .ref mw, .ref mb, .ref ml, .ref mq, .ref mz, .ref ms, .ref mr, .int ic0, .ref mi, .int (dI true), .int sg0, .int ln0, .int at0, .int rd0, .int dr0, .int ma0, .ref mk, .int en0, .ref mj, .ref mn])), (mt, .inl (cI, 16384, .inl tp)), (mw, .inl (cJ, 512, .inr (.inl gW))), (ms, .inl (cJ, 64, .inr (.inl gS))), (mb, .inl (cI, 8, .inl gB)), (ml, .inl (cJ, 512, .inr (.inl gL))), (mq, .inl (cI, 512, .inl gQ)), (mz, .inl (cI, 8, .inl gZ)), (mk, .inl (cI, 256, .inl gK)), (mr, .inl (cI, 512, .inl gR))]) fw_SampleDeskModel_84 0 rfl (rfl) (rfl) (Nat.le_of_ble_eq_true rfl) dX9_tryAll_2 rfl ?_
  refine v_aload_n 0 dX9_tryAll_5 rfl rfl ?_
  refine v_iload 5 dX9_tryAll_6 rfl ?_
  refine v_put (ws' := [(m, .inr (9, [.int th, .int (nI fd), .int pc0, .int dw0, .int lt0, .ref mt, .ref mw, .ref mb, .ref ml, .ref mq, .ref mz, .ref ms, .ref mr, .int ic0, .ref mi, .int (dI true), .int sg0, .int (nI n), .int at0, .int rd0, .int dr0, .int ma0, .ref mk, .int en0, .ref mj, .ref mn])), (mt, .inl (cI, 16384, .inl tp)), (mw, .inl (cJ, 512, .inr (.inl gW))), (ms, .inl (cJ, 64, .inr (.inl gS))), (mb, .inl (cI, 8, .inl gB)), (ml, .inl (cJ, 512, .inr (.inl gL))), (mq, .inl (cI, 512, .inl gQ)), (mz, .inl (cI, 8, .inl gZ)), (mk, .inl (cI, 256, .inl gK)), (mr, .inl (cI, 512, .inl gR))]) fw_SampleDeskModel_87 0 rfl (rfl) (rfl) (Nat.le_of_ble_eq_true rfl) dX9_tryAll_8 rfl ?_
  refine v_iconst (v := nI 0) dX9_tryAll_11 (by decide) ?_
  refine v_istore (lv' := [(9, .int (nI 0)), (0, .ref m), (1, .int kd), (2, .int a), (3, .int b1), (4, .int c), (5, .int (nI n)), (6, .long out), (8, .int (dI (!dec)))]) dX9_tryAll_12 (by decide) rfl ?_
  refine v_aload_n 1 dX9_tryAll_14 rfl rfl ?_
  refine v_iconst (v := nI 0) dX9_tryAll_15 (by decide) ?_
  refine v_put (ws' := [(m, .inr (9, [.int th, .int (nI fd), .int pc0, .int dw0, .int lt0, .ref mt, .ref mw, .ref mb, .ref ml, .ref mq, .ref mz, .ref ms, .ref mr, .int ic0, .ref mi, .int (dI true), .int (nI 0), .int (nI n), .int at0, .int rd0, .int dr0, .int ma0, .ref mk, .int en0, .ref mj, .ref mn])), (mt, .inl (cI, 16384, .inl tp)), (mw, .inl (cJ, 512, .inr (.inl gW))), (ms, .inl (cJ, 64, .inr (.inl gS))), (mb, .inl (cI, 8, .inl gB)), (ml, .inl (cJ, 512, .inr (.inl gL))), (mq, .inl (cI, 512, .inl gQ)), (mz, .inl (cI, 8, .inl gZ)), (mk, .inl (cI, 256, .inl gK)), (mr, .inl (cI, 512, .inl gR))]) fw_SampleDeskModel_90 0 rfl (rfl) (rfl) (Nat.le_of_ble_eq_true rfl) dX9_tryAll_16 rfl ?_
  refine v_lv [1, 2, 3, 4, 5, 6, 7, 8, 0] rfl ?_
  exact kX9_tryAll_loop hn hok hW hWb hy hT hz hr0 (fun _ => rfl) (fun u _ => trivial) hE _ 0 0 at0 rd0 dr0 ma0 gS gK gR (Nat.lt_succ_of_le (Nat.sub_le _ _)) (by omega) (by omega) rfl
set_option maxRecDepth 100000 in
set_option maxHeartbeats 1000000 in
theorem kX9_decided_1 {D : va_G} {cI cJ cT : ClassId} (l : Launch) {m mt mw mb ml mq mz ms mr mi mk mj mn : Nat} {th fd0 pc0 dw0 lt0 ic0 tr0 sg0 ln0 at0 rd0 dr0 ma0 en0 : Int32} {out : Int32} {kd a b1 c len : Int32} {y M : Nat} {gB : Nat → Int32} (hn : ¬ canC kd a b1 c len) : Fn (S := Unit) (gG D cI cJ cT) l yX9_decided (.code yX9_decided cX9_decided 7 (some .int)) (rmD 4) [.ref m, .int kd, .int a, .int b1, .int c, .int len, .int out] [(m, .inr (9, [.int th, .int fd0, .int pc0, .int dw0, .int lt0, .ref mt, .ref mw, .ref mb, .ref ml, .ref mq, .ref mz, .ref ms, .ref mr, .int ic0, .ref mi, .int tr0, .int sg0, .int ln0, .int at0, .int rd0, .int dr0, .int ma0, .ref mk, .int en0, .ref mj, .ref mn])), (mb, .inl (cI, 8, .inl gB))] (fun _ => True) (fun u => some (.int (nI 0))) (fun u => [(m, .inr (9, [.int (nI 1), .int fd0, .int pc0, .int dw0, .int lt0, .ref mt, .ref mw, .ref mb, .ref ml, .ref mq, .ref mz, .ref ms, .ref mr, .int ic0, .ref mi, .int tr0, .int sg0, .int ln0, .int at0, .int rd0, .int dr0, .int ma0, .ref mk, .int en0, .ref mj, .ref mn])), (mb, .inl (cI, 8, .inl gB))]) := by
  refine Fn.intro (by decide) (Nat.le_of_ble_eq_true rfl) ?_
  intro X hX hE hin
  subst hX
  show V (gG D cI cJ cT) X _ cX9_decided 7 RX9 _ 0 0 [(0, .ref m), (1, .int kd), (2, .int a), (3, .int b1), (4, .int c), (5, .int len), (6, .int out)] 0 []
  refine v_aload_n 0 dX9_decided_0 rfl rfl ?_
  refine v_iconst (v := nI 0) dX9_decided_1 (by decide) ?_
  refine v_put (ws' := [(m, .inr (9, [.int (nI 0), .int fd0, .int pc0, .int dw0, .int lt0, .ref mt, .ref mw, .ref mb, .ref ml, .ref mq, .ref mz, .ref ms, .ref mr, .int ic0, .ref mi, .int tr0, .int sg0, .int ln0, .int at0, .int rd0, .int dr0, .int ma0, .ref mk, .int en0, .ref mj, .ref mn])), (mb, .inl (cI, 8, .inl gB))]) fw_SampleDeskModel_47 0 rfl (rfl) (rfl) (Nat.le_of_ble_eq_true rfl) dX9_decided_2 rfl ?_
  refine v_aload_n 0 dX9_decided_5 rfl rfl ?_
  refine v_iload_n 1 dX9_decided_6 rfl rfl ?_
  refine v_iload_n 2 dX9_decided_7 rfl rfl ?_
  refine v_iload_n 3 dX9_decided_8 rfl rfl ?_
  refine v_iload 4 dX9_decided_9 rfl ?_
  refine v_iload 5 dX9_decided_11 rfl ?_
  refine v_callV (as := [.int kd, .int a, .int b1, .int c, .int len]) (rest := []) (ws' := fun u => [(m, .inr (9, [.int (nI 1), .int fd0, .int pc0, .int dw0, .int lt0, .ref mt, .ref mw, .ref mb, .ref ml, .ref mq, .ref mz, .ref ms, .ref mr, .int ic0, .ref mi, .int tr0, .int sg0, .int ln0, .int at0, .int rd0, .int dr0, .int ma0, .ref mk, .int en0, .ref mj, .ref mn])), (mb, .inl (cI, 8, .inl gB))]) m_SampleDeskModel_223 (kX9_canTry_1 X.l (m := m) (mt := mt) (mw := mw) (mb := mb) (ml := ml) (mq := mq) (mz := mz) (ms := ms) (mr := mr) (mi := mi) (mk := mk) (mj := mj) (mn := mn) (th := nI 0) (fd0 := fd0) (pc0 := pc0) (dw0 := dw0) (lt0 := lt0) (ic0 := ic0) (tr0 := tr0) (sg0 := sg0) (ln0 := ln0) (at0 := at0) (rd0 := rd0) (dr0 := dr0) (ma0 := ma0) (en0 := en0) (kd := kd) (a := a) (b1 := b1) (c := c) (len := len) (gB := gB) hn) k_code_X9_canTry [0, 1] 0 rfl rfl rfl rfl dX9_decided_13 (Nat.le_of_ble_eq_true rfl) ⟨rfl, rfl, by decide, by decide⟩ ⟨Nat.zero_le _, Nat.zero_le _⟩ rfl rfl (fun _ => rfl) (v_mgU rfl (fun _ => rfl)) ?_
  intro uu c13
  try dsimp only at c13
  show V (gG D cI cJ cT) X (rmD 4) cX9_decided 7 RX9 [(m, .inr (9, [.int (nI 1), .int fd0, .int pc0, .int dw0, .int lt0, .ref mt, .ref mw, .ref mb, .ref ml, .ref mq, .ref mz, .ref ms, .ref mr, .int ic0, .ref mi, .int tr0, .int sg0, .int ln0, .int at0, .int rd0, .int dr0, .int ma0, .ref mk, .int en0, .ref mj, .ref mn])), (mb, .inl (cI, 8, .inl gB))] 0 0 [(0, .ref m), (1, .int kd), (2, .int a), (3, .int b1), (4, .int c), (5, .int len), (6, .int out)] 16 [.int (dI false)]
  refine v_if_eq (tgt := 37) dX9_decided_16 (by decide) (fun b16 => ?_) (fun b16 => absurd (rfl) b16)
  refine v_iconst (v := nI 0) dX9_decided_37 (by decide) ?_
  exact v_iret hE dX9_decided_38 () (trivial) rfl rfl
set_option maxRecDepth 100000 in
set_option maxHeartbeats 1000000 in
theorem kX9_decided_2 {D : va_G} {cI cJ cT : ClassId} (l : Launch) {m mt mw mb ml mq mz ms mr mi mk mj mn : Nat} {th fd0 pc0 dw0 lt0 ic0 tr0 sg0 ln0 at0 rd0 dr0 ma0 en0 : Int32} {out : Int32} {kd a b1 c len : Int32} {y M : Nat} {gB : Nat → Int32} (hc : canC kd a b1 c len) (hz : kd = nI 0 → a = nI y) (hy : y < 8) (hB : gB y = nI M) (hM : M ≤ 2) (hr : rdM kd M = false) : Fn (S := Unit) (gG D cI cJ cT) l yX9_decided (.code yX9_decided cX9_decided 7 (some .int)) (rmD 4) [.ref m, .int kd, .int a, .int b1, .int c, .int len, .int out] [(m, .inr (9, [.int th, .int fd0, .int pc0, .int dw0, .int lt0, .ref mt, .ref mw, .ref mb, .ref ml, .ref mq, .ref mz, .ref ms, .ref mr, .int ic0, .ref mi, .int tr0, .int sg0, .int ln0, .int at0, .int rd0, .int dr0, .int ma0, .ref mk, .int en0, .ref mj, .ref mn])), (mb, .inl (cI, 8, .inl gB))] (fun _ => True) (fun u => some (.int (nI 0))) (fun u => [(m, .inr (9, [.int (nI 2), .int fd0, .int pc0, .int dw0, .int lt0, .ref mt, .ref mw, .ref mb, .ref ml, .ref mq, .ref mz, .ref ms, .ref mr, .int ic0, .ref mi, .int tr0, .int sg0, .int ln0, .int at0, .int rd0, .int dr0, .int ma0, .ref mk, .int en0, .ref mj, .ref mn])), (mb, .inl (cI, 8, .inl gB))]) := by
  refine Fn.intro (by decide) (Nat.le_of_ble_eq_true rfl) ?_
  intro X hX hE hin
  subst hX
  show V (gG D cI cJ cT) X _ cX9_decided 7 RX9 _ 0 0 [(0, .ref m), (1, .int kd), (2, .int a), (3, .int b1), (4, .int c), (5, .int len), (6, .int out)] 0 []
  refine v_aload_n 0 dX9_decided_0 rfl rfl ?_
  refine v_iconst (v := nI 0) dX9_decided_1 (by decide) ?_
  refine v_put (ws' := [(m, .inr (9, [.int (nI 0), .int fd0, .int pc0, .int dw0, .int lt0, .ref mt, .ref mw, .ref mb, .ref ml, .ref mq, .ref mz, .ref ms, .ref mr, .int ic0, .ref mi, .int tr0, .int sg0, .int ln0, .int at0, .int rd0, .int dr0, .int ma0, .ref mk, .int en0, .ref mj, .ref mn])), (mb, .inl (cI, 8, .inl gB))]) fw_SampleDeskModel_47 0 rfl (rfl) (rfl) (Nat.le_of_ble_eq_true rfl) dX9_decided_2 rfl ?_
  refine v_aload_n 0 dX9_decided_5 rfl rfl ?_
  refine v_iload_n 1 dX9_decided_6 rfl rfl ?_
  refine v_iload_n 2 dX9_decided_7 rfl rfl ?_
  refine v_iload_n 3 dX9_decided_8 rfl rfl ?_
  refine v_iload 4 dX9_decided_9 rfl ?_
  refine v_iload 5 dX9_decided_11 rfl ?_
  refine v_callV (as := [.int kd, .int a, .int b1, .int c, .int len]) (rest := []) (ws' := fun u => [(m, .inr (9, [.int (nI 2), .int fd0, .int pc0, .int dw0, .int lt0, .ref mt, .ref mw, .ref mb, .ref ml, .ref mq, .ref mz, .ref ms, .ref mr, .int ic0, .ref mi, .int tr0, .int sg0, .int ln0, .int at0, .int rd0, .int dr0, .int ma0, .ref mk, .int en0, .ref mj, .ref mn])), (mb, .inl (cI, 8, .inl gB))]) m_SampleDeskModel_223 (kX9_canTry_2 X.l (m := m) (mt := mt) (mw := mw) (mb := mb) (ml := ml) (mq := mq) (mz := mz) (ms := ms) (mr := mr) (mi := mi) (mk := mk) (mj := mj) (mn := mn) (th := nI 0) (fd0 := fd0) (pc0 := pc0) (dw0 := dw0) (lt0 := lt0) (ic0 := ic0) (tr0 := tr0) (sg0 := sg0) (ln0 := ln0) (at0 := at0) (rd0 := rd0) (dr0 := dr0) (ma0 := ma0) (en0 := en0) (kd := kd) (a := a) (b1 := b1) (c := c) (len := len) (gB := gB) (y := y) (M := M) hc hz hy hB hM hr) k_code_X9_canTry [0, 1] 0 rfl rfl rfl rfl dX9_decided_13 (Nat.le_of_ble_eq_true rfl) ⟨rfl, rfl, by decide, by decide⟩ ⟨Nat.zero_le _, Nat.zero_le _⟩ rfl rfl (fun _ => rfl) (v_mgU rfl (fun _ => rfl)) ?_
  intro uu c13
  try dsimp only at c13
  show V (gG D cI cJ cT) X (rmD 4) cX9_decided 7 RX9 [(m, .inr (9, [.int (nI 2), .int fd0, .int pc0, .int dw0, .int lt0, .ref mt, .ref mw, .ref mb, .ref ml, .ref mq, .ref mz, .ref ms, .ref mr, .int ic0, .ref mi, .int tr0, .int sg0, .int ln0, .int at0, .int rd0, .int dr0, .int ma0, .ref mk, .int en0, .ref mj, .ref mn])), (mb, .inl (cI, 8, .inl gB))] 0 0 [(0, .ref m), (1, .int kd), (2, .int a), (3, .int b1), (4, .int c), (5, .int len), (6, .int out)] 16 [.int (dI false)]
  refine v_if_eq (tgt := 37) dX9_decided_16 (by decide) (fun b16 => ?_) (fun b16 => absurd (rfl) b16)
  refine v_iconst (v := nI 0) dX9_decided_37 (by decide) ?_
  exact v_iret hE dX9_decided_38 () (trivial) rfl rfl
set_option maxRecDepth 100000 in
set_option maxHeartbeats 1000000 in
theorem kX9_decided_0 {D : va_G} {cI cJ cT : ClassId} (l : Launch) {m mt mw mb ml mq mz ms mr mi mk mj mn : Nat} {th pc0 dw0 lt0 ic0 en0 : Int32} {out : Int32} {tr0 sg0 ln0 at0 rd0 dr0 ma0 : Int32} {gS : Nat → Int64} {gK gR : Nat → Int32} {fd n : Nat} {tp : Nat → Int32} {y M : Nat} {gW gL : Nat → Int64} {W : Nat → Nat} {gB gQ gZ : Nat → Int32} {kd a b1 c : Int32}  (hc : canC kd a b1 c (nI n)) (hn : n ≤ 12) (hW : ∀ x, x < 64 → gW (64 * y + x) = lN (W x)) (hWb : ∀ x, x < 64 → W x < 2 ^ 31) (hy : y < 8) (hT : TBm M y W gB gZ gQ gL) (hz : kd = nI 0 → a = nI y) (hr : rdM kd M = true) : Fn (S := Nat × Int32 × Int32 × Int32 × Int32 × (Nat → Int64) × (Nat → Int32) × (Nat → Int32)) (gG D cI cJ cT) l yX9_decided (.code yX9_decided cX9_decided 7 (some .int)) (rmD 7) [.ref m, .int kd, .int a, .int b1, .int c, .int (nI n), .int out] [(m, .inr (9, [.int th, .int (nI fd), .int pc0, .int dw0, .int lt0, .ref mt, .ref mw, .ref mb, .ref ml, .ref mq, .ref mz, .ref ms, .ref mr, .int ic0, .ref mi, .int tr0, .int sg0, .int ln0, .int at0, .int rd0, .int dr0, .int ma0, .ref mk, .int en0, .ref mj, .ref mn])), (mt, .inl (cI, 16384, .inl tp)), (mw, .inl (cJ, 512, .inr (.inl gW))), (ms, .inl (cJ, 64, .inr (.inl gS))), (mb, .inl (cI, 8, .inl gB)), (ml, .inl (cJ, 512, .inr (.inl gL))), (mq, .inl (cI, 512, .inl gQ)), (mz, .inl (cI, 8, .inl gZ)), (mk, .inl (cI, 256, .inl gK)), (mr, .inl (cI, 512, .inl gR))] (fun _ => True) (fun u => some (.int (nI (sTal kd a b1 c W (M - 1) n true (out.toInt64))))) (fun u => [(m, .inr (9, [.int (nI 0), .int (nI fd), .int pc0, .int dw0, .int lt0, .ref mt, .ref mw, .ref mb, .ref ml, .ref mq, .ref mz, .ref ms, .ref mr, .int ic0, .ref mi, .int (dI true), .int (nI u.1), .int (nI n), .int u.2.1, .int u.2.2.1, .int u.2.2.2.1, .int u.2.2.2.2.1, .ref mk, .int en0, .ref mj, .ref mn])), (mt, .inl (cI, 16384, .inl tp)), (mw, .inl (cJ, 512, .inr (.inl gW))), (ms, .inl (cJ, 64, .inr (.inl u.2.2.2.2.2.1))), (mb, .inl (cI, 8, .inl gB)), (ml, .inl (cJ, 512, .inr (.inl gL))), (mq, .inl (cI, 512, .inl gQ)), (mz, .inl (cI, 8, .inl gZ)), (mk, .inl (cI, 256, .inl u.2.2.2.2.2.2.1)), (mr, .inl (cI, 512, .inl u.2.2.2.2.2.2.2))]) := by
  refine Fn.intro (by decide) (Nat.le_of_ble_eq_true rfl) ?_
  intro X hX hE hin
  subst hX
  show V (gG D cI cJ cT) X _ cX9_decided 7 RX9 _ 0 0 [(0, .ref m), (1, .int kd), (2, .int a), (3, .int b1), (4, .int c), (5, .int (nI n)), (6, .int out)] 0 []
  refine v_aload_n 0 dX9_decided_0 rfl rfl ?_
  refine v_iconst (v := nI 0) dX9_decided_1 (by decide) ?_
  refine v_put (ws' := [(m, .inr (9, [.int (nI 0), .int (nI fd), .int pc0, .int dw0, .int lt0, .ref mt, .ref mw, .ref mb, .ref ml, .ref mq, .ref mz, .ref ms, .ref mr, .int ic0, .ref mi, .int tr0, .int sg0, .int ln0, .int at0, .int rd0, .int dr0, .int ma0, .ref mk, .int en0, .ref mj, .ref mn])), (mt, .inl (cI, 16384, .inl tp)), (mw, .inl (cJ, 512, .inr (.inl gW))), (ms, .inl (cJ, 64, .inr (.inl gS))), (mb, .inl (cI, 8, .inl gB)), (ml, .inl (cJ, 512, .inr (.inl gL))), (mq, .inl (cI, 512, .inl gQ)), (mz, .inl (cI, 8, .inl gZ)), (mk, .inl (cI, 256, .inl gK)), (mr, .inl (cI, 512, .inl gR))]) fw_SampleDeskModel_47 0 rfl (rfl) (rfl) (Nat.le_of_ble_eq_true rfl) dX9_decided_2 rfl ?_
  refine v_aload_n 0 dX9_decided_5 rfl rfl ?_
  refine v_iload_n 1 dX9_decided_6 rfl rfl ?_
  refine v_iload_n 2 dX9_decided_7 rfl rfl ?_
  refine v_iload_n 3 dX9_decided_8 rfl rfl ?_
  refine v_iload 4 dX9_decided_9 rfl ?_
  refine v_iload 5 dX9_decided_11 rfl ?_
  refine v_callV (as := [.int kd, .int a, .int b1, .int c, .int (nI n)]) (rest := []) (ws' := fun u => [(m, .inr (9, [.int (nI 0), .int (nI fd), .int pc0, .int dw0, .int lt0, .ref mt, .ref mw, .ref mb, .ref ml, .ref mq, .ref mz, .ref ms, .ref mr, .int ic0, .ref mi, .int tr0, .int sg0, .int ln0, .int at0, .int rd0, .int dr0, .int ma0, .ref mk, .int en0, .ref mj, .ref mn])), (mt, .inl (cI, 16384, .inl tp)), (mw, .inl (cJ, 512, .inr (.inl gW))), (ms, .inl (cJ, 64, .inr (.inl gS))), (mb, .inl (cI, 8, .inl gB)), (ml, .inl (cJ, 512, .inr (.inl gL))), (mq, .inl (cI, 512, .inl gQ)), (mz, .inl (cI, 8, .inl gZ)), (mk, .inl (cI, 256, .inl gK)), (mr, .inl (cI, 512, .inl gR))]) m_SampleDeskModel_223 (kX9_canTry_0 X.l (m := m) (mt := mt) (mw := mw) (mb := mb) (ml := ml) (mq := mq) (mz := mz) (ms := ms) (mr := mr) (mi := mi) (mk := mk) (mj := mj) (mn := mn) (th := nI 0) (fd0 := nI fd) (pc0 := pc0) (dw0 := dw0) (lt0 := lt0) (ic0 := ic0) (tr0 := tr0) (sg0 := sg0) (ln0 := ln0) (at0 := at0) (rd0 := rd0) (dr0 := dr0) (ma0 := ma0) (en0 := en0) (kd := kd) (a := a) (b1 := b1) (c := c) (len := nI n) (gB := gB) (y := y) (M := M) hc hz hy hT.1 hT.2.1 hr) k_code_X9_canTry [0, 4] 0 rfl rfl rfl rfl dX9_decided_13 (Nat.le_of_ble_eq_true rfl) ⟨rfl, rfl, by decide, by decide⟩ ⟨Nat.zero_le _, Nat.zero_le _⟩ rfl rfl (fun _ => rfl) (v_mgU rfl (fun _ => rfl)) ?_
  intro uu c13
  try dsimp only at c13
  show V (gG D cI cJ cT) X (rmD 7) cX9_decided 7 RX9 [(m, .inr (9, [.int (nI 0), .int (nI fd), .int pc0, .int dw0, .int lt0, .ref mt, .ref mw, .ref mb, .ref ml, .ref mq, .ref mz, .ref ms, .ref mr, .int ic0, .ref mi, .int tr0, .int sg0, .int ln0, .int at0, .int rd0, .int dr0, .int ma0, .ref mk, .int en0, .ref mj, .ref mn])), (mt, .inl (cI, 16384, .inl tp)), (mw, .inl (cJ, 512, .inr (.inl gW))), (ms, .inl (cJ, 64, .inr (.inl gS))), (mb, .inl (cI, 8, .inl gB)), (ml, .inl (cJ, 512, .inr (.inl gL))), (mq, .inl (cI, 512, .inl gQ)), (mz, .inl (cI, 8, .inl gZ)), (mk, .inl (cI, 256, .inl gK)), (mr, .inl (cI, 512, .inl gR))] 0 0 [(0, .ref m), (1, .int kd), (2, .int a), (3, .int b1), (4, .int c), (5, .int (nI n)), (6, .int out)] 16 [.int (dI true)]
  refine v_if_eq (tgt := 37) dX9_decided_16 (by decide) (fun b16 => absurd b16 (by decide)) (fun b16 => ?_)
  refine v_aload_n 0 dX9_decided_19 rfl rfl ?_
  refine v_iload_n 1 dX9_decided_20 rfl rfl ?_
  refine v_iload_n 2 dX9_decided_21 rfl rfl ?_
  refine v_iload_n 3 dX9_decided_22 rfl rfl ?_
  refine v_iload 4 dX9_decided_23 rfl ?_
  refine v_iload 5 dX9_decided_25 rfl ?_
  refine v_iload 6 dX9_decided_27 rfl ?_
  refine v_i2l (v := out.toInt64) dX9_decided_29 (rfl) ?_
  refine v_iconst (v := dI (!true)) dX9_decided_30 (by decide) ?_
  refine v_callV (as := [.int kd, .int a, .int b1, .int c, .int (nI n), .long out.toInt64, .int (dI (!true))]) (rest := []) (ws' := fun u => [(m, .inr (9, [.int (nI 0), .int (nI fd), .int pc0, .int dw0, .int lt0, .ref mt, .ref mw, .ref mb, .ref ml, .ref mq, .ref mz, .ref ms, .ref mr, .int ic0, .ref mi, .int (dI true), .int (nI u.1), .int (nI n), .int u.2.1, .int u.2.2.1, .int u.2.2.2.1, .int u.2.2.2.2.1, .ref mk, .int en0, .ref mj, .ref mn])), (mt, .inl (cI, 16384, .inl tp)), (mw, .inl (cJ, 512, .inr (.inl gW))), (ms, .inl (cJ, 64, .inr (.inl u.2.2.2.2.2.1))), (mb, .inl (cI, 8, .inl gB)), (ml, .inl (cJ, 512, .inr (.inl gL))), (mq, .inl (cI, 512, .inl gQ)), (mz, .inl (cI, 8, .inl gZ)), (mk, .inl (cI, 256, .inl u.2.2.2.2.2.2.1)), (mr, .inl (cI, 512, .inl u.2.2.2.2.2.2.2))]) m_SampleDeskModel_227 (kX9_tryAll X.l (m := m) (mt := mt) (mw := mw) (mb := mb) (ml := ml) (mq := mq) (mz := mz) (ms := ms) (mr := mr) (mi := mi) (mk := mk) (mj := mj) (mn := mn) (pc0 := pc0) (dw0 := dw0) (lt0 := lt0) (ic0 := ic0) (en0 := en0) (tr0 := tr0) (sg0 := sg0) (ln0 := ln0) (at0 := at0) (rd0 := rd0) (dr0 := dr0) (ma0 := ma0) (gS := gS) (gK := gK) (gR := gR) (fd := fd) (n := n) (tp := tp) (y := y) (M := M) (gW := gW) (gL := gL) (W := W) (gB := gB) (gQ := gQ) (gZ := gZ) (kd := kd) (a := a) (b1 := b1) (c := c) (th := nI 0) (out := out.toInt64) (dec := true) hn hc.2.1 hW hWb hy hT hz (rdM_pos hr)) k_code_X9_tryAll [0, 1, 2, 3, 4, 5, 6, 7, 8, 9] 0 rfl rfl rfl rfl dX9_decided_31 (Nat.le_of_ble_eq_true rfl) ⟨rfl, rfl, by decide, by decide⟩ ⟨Nat.zero_le _, Nat.zero_le _⟩ rfl rfl (fun _ => rfl) (v_mgU rfl (fun _ => rfl)) ?_
  intro u31 c31
  obtain ⟨s1, v1, v2, v3, v4, g1, g2, g3⟩ := u31
  try dsimp only at c31
  show V (gG D cI cJ cT) X (rmD 7) cX9_decided 7 RX9 [(m, .inr (9, [.int (nI 0), .int (nI fd), .int pc0, .int dw0, .int lt0, .ref mt, .ref mw, .ref mb, .ref ml, .ref mq, .ref mz, .ref ms, .ref mr, .int ic0, .ref mi, .int (dI true), .int (nI s1), .int (nI n), .int v1, .int v2, .int v3, .int v4, .ref mk, .int en0, .ref mj, .ref mn])), (mt, .inl (cI, 16384, .inl tp)), (mw, .inl (cJ, 512, .inr (.inl gW))), (ms, .inl (cJ, 64, .inr (.inl g1))), (mb, .inl (cI, 8, .inl gB)), (ml, .inl (cJ, 512, .inr (.inl gL))), (mq, .inl (cI, 512, .inl gQ)), (mz, .inl (cI, 8, .inl gZ)), (mk, .inl (cI, 256, .inl g2)), (mr, .inl (cI, 512, .inl g3))] 0 0 [(0, .ref m), (1, .int kd), (2, .int a), (3, .int b1), (4, .int c), (5, .int (nI n)), (6, .int out)] 34 [.int (nI (sTal kd a b1 c W (M - 1) n true (out.toInt64)))]
  refine v_goto (tgt := 38) dX9_decided_34 (by decide) ?_
  exact v_iret hE dX9_decided_38 (s1, v1, v2, v3, v4, g1, g2, g3) (trivial) rfl rfl
set_option maxRecDepth 100000 in
set_option maxHeartbeats 1000000 in
theorem kX9_undecided_1 {D : va_G} {cI cJ cT : ClassId} (l : Launch) {m mt mw mb ml mq mz ms mr mi mk mj mn : Nat} {th fd0 pc0 dw0 lt0 ic0 tr0 sg0 ln0 at0 rd0 dr0 ma0 en0 : Int32} {kd a b1 c len : Int32} {y M : Nat} {gB : Nat → Int32} (hn : ¬ canC kd a b1 c len) : Fn (S := Unit) (gG D cI cJ cT) l yX9_undecided (.code yX9_undecided cX9_undecided 6 (some .int)) (rmD 4) [.ref m, .int kd, .int a, .int b1, .int c, .int len] [(m, .inr (9, [.int th, .int fd0, .int pc0, .int dw0, .int lt0, .ref mt, .ref mw, .ref mb, .ref ml, .ref mq, .ref mz, .ref ms, .ref mr, .int ic0, .ref mi, .int tr0, .int sg0, .int ln0, .int at0, .int rd0, .int dr0, .int ma0, .ref mk, .int en0, .ref mj, .ref mn])), (mb, .inl (cI, 8, .inl gB))] (fun _ => True) (fun u => some (.int (nI 0))) (fun u => [(m, .inr (9, [.int (nI 1), .int fd0, .int pc0, .int dw0, .int lt0, .ref mt, .ref mw, .ref mb, .ref ml, .ref mq, .ref mz, .ref ms, .ref mr, .int ic0, .ref mi, .int tr0, .int sg0, .int ln0, .int at0, .int rd0, .int dr0, .int ma0, .ref mk, .int en0, .ref mj, .ref mn])), (mb, .inl (cI, 8, .inl gB))]) := by
  refine Fn.intro (by decide) (Nat.le_of_ble_eq_true rfl) ?_
  intro X hX hE hin
  subst hX
  show V (gG D cI cJ cT) X _ cX9_undecided 6 RX9 _ 0 0 [(0, .ref m), (1, .int kd), (2, .int a), (3, .int b1), (4, .int c), (5, .int len)] 0 []
  refine v_aload_n 0 dX9_undecided_0 rfl rfl ?_
  refine v_iconst (v := nI 0) dX9_undecided_1 (by decide) ?_
  refine v_put (ws' := [(m, .inr (9, [.int (nI 0), .int fd0, .int pc0, .int dw0, .int lt0, .ref mt, .ref mw, .ref mb, .ref ml, .ref mq, .ref mz, .ref ms, .ref mr, .int ic0, .ref mi, .int tr0, .int sg0, .int ln0, .int at0, .int rd0, .int dr0, .int ma0, .ref mk, .int en0, .ref mj, .ref mn])), (mb, .inl (cI, 8, .inl gB))]) fw_SampleDeskModel_47 0 rfl (rfl) (rfl) (Nat.le_of_ble_eq_true rfl) dX9_undecided_2 rfl ?_
  refine v_aload_n 0 dX9_undecided_5 rfl rfl ?_
  refine v_iload_n 1 dX9_undecided_6 rfl rfl ?_
  refine v_iload_n 2 dX9_undecided_7 rfl rfl ?_
  refine v_iload_n 3 dX9_undecided_8 rfl rfl ?_
  refine v_iload 4 dX9_undecided_9 rfl ?_
  refine v_iload 5 dX9_undecided_11 rfl ?_
  refine v_callV (as := [.int kd, .int a, .int b1, .int c, .int len]) (rest := []) (ws' := fun u => [(m, .inr (9, [.int (nI 1), .int fd0, .int pc0, .int dw0, .int lt0, .ref mt, .ref mw, .ref mb, .ref ml, .ref mq, .ref mz, .ref ms, .ref mr, .int ic0, .ref mi, .int tr0, .int sg0, .int ln0, .int at0, .int rd0, .int dr0, .int ma0, .ref mk, .int en0, .ref mj, .ref mn])), (mb, .inl (cI, 8, .inl gB))]) m_SampleDeskModel_223 (kX9_canTry_1 X.l (m := m) (mt := mt) (mw := mw) (mb := mb) (ml := ml) (mq := mq) (mz := mz) (ms := ms) (mr := mr) (mi := mi) (mk := mk) (mj := mj) (mn := mn) (th := nI 0) (fd0 := fd0) (pc0 := pc0) (dw0 := dw0) (lt0 := lt0) (ic0 := ic0) (tr0 := tr0) (sg0 := sg0) (ln0 := ln0) (at0 := at0) (rd0 := rd0) (dr0 := dr0) (ma0 := ma0) (en0 := en0) (kd := kd) (a := a) (b1 := b1) (c := c) (len := len) (gB := gB) hn) k_code_X9_canTry [0, 1] 0 rfl rfl rfl rfl dX9_undecided_13 (Nat.le_of_ble_eq_true rfl) ⟨rfl, rfl, by decide, by decide⟩ ⟨Nat.zero_le _, Nat.zero_le _⟩ rfl rfl (fun _ => rfl) (v_mgU rfl (fun _ => rfl)) ?_
  intro uu c13
  try dsimp only at c13
  show V (gG D cI cJ cT) X (rmD 4) cX9_undecided 6 RX9 [(m, .inr (9, [.int (nI 1), .int fd0, .int pc0, .int dw0, .int lt0, .ref mt, .ref mw, .ref mb, .ref ml, .ref mq, .ref mz, .ref ms, .ref mr, .int ic0, .ref mi, .int tr0, .int sg0, .int ln0, .int at0, .int rd0, .int dr0, .int ma0, .ref mk, .int en0, .ref mj, .ref mn])), (mb, .inl (cI, 8, .inl gB))] 0 0 [(0, .ref m), (1, .int kd), (2, .int a), (3, .int b1), (4, .int c), (5, .int len)] 16 [.int (dI false)]
  refine v_if_eq (tgt := 35) dX9_undecided_16 (by decide) (fun b16 => ?_) (fun b16 => absurd (rfl) b16)
  refine v_iconst (v := nI 0) dX9_undecided_35 (by decide) ?_
  exact v_iret hE dX9_undecided_36 () (trivial) rfl rfl
set_option maxRecDepth 100000 in
set_option maxHeartbeats 1000000 in
theorem kX9_undecided_2 {D : va_G} {cI cJ cT : ClassId} (l : Launch) {m mt mw mb ml mq mz ms mr mi mk mj mn : Nat} {th fd0 pc0 dw0 lt0 ic0 tr0 sg0 ln0 at0 rd0 dr0 ma0 en0 : Int32} {kd a b1 c len : Int32} {y M : Nat} {gB : Nat → Int32} (hc : canC kd a b1 c len) (hz : kd = nI 0 → a = nI y) (hy : y < 8) (hB : gB y = nI M) (hM : M ≤ 2) (hr : rdM kd M = false) : Fn (S := Unit) (gG D cI cJ cT) l yX9_undecided (.code yX9_undecided cX9_undecided 6 (some .int)) (rmD 4) [.ref m, .int kd, .int a, .int b1, .int c, .int len] [(m, .inr (9, [.int th, .int fd0, .int pc0, .int dw0, .int lt0, .ref mt, .ref mw, .ref mb, .ref ml, .ref mq, .ref mz, .ref ms, .ref mr, .int ic0, .ref mi, .int tr0, .int sg0, .int ln0, .int at0, .int rd0, .int dr0, .int ma0, .ref mk, .int en0, .ref mj, .ref mn])), (mb, .inl (cI, 8, .inl gB))] (fun _ => True) (fun u => some (.int (nI 0))) (fun u => [(m, .inr (9, [.int (nI 2), .int fd0, .int pc0, .int dw0, .int lt0, .ref mt, .ref mw, .ref mb, .ref ml, .ref mq, .ref mz, .ref ms, .ref mr, .int ic0, .ref mi, .int tr0, .int sg0, .int ln0, .int at0, .int rd0, .int dr0, .int ma0, .ref mk, .int en0, .ref mj, .ref mn])), (mb, .inl (cI, 8, .inl gB))]) := by
  refine Fn.intro (by decide) (Nat.le_of_ble_eq_true rfl) ?_
  intro X hX hE hin
  subst hX
  show V (gG D cI cJ cT) X _ cX9_undecided 6 RX9 _ 0 0 [(0, .ref m), (1, .int kd), (2, .int a), (3, .int b1), (4, .int c), (5, .int len)] 0 []
  refine v_aload_n 0 dX9_undecided_0 rfl rfl ?_
  refine v_iconst (v := nI 0) dX9_undecided_1 (by decide) ?_
  refine v_put (ws' := [(m, .inr (9, [.int (nI 0), .int fd0, .int pc0, .int dw0, .int lt0, .ref mt, .ref mw, .ref mb, .ref ml, .ref mq, .ref mz, .ref ms, .ref mr, .int ic0, .ref mi, .int tr0, .int sg0, .int ln0, .int at0, .int rd0, .int dr0, .int ma0, .ref mk, .int en0, .ref mj, .ref mn])), (mb, .inl (cI, 8, .inl gB))]) fw_SampleDeskModel_47 0 rfl (rfl) (rfl) (Nat.le_of_ble_eq_true rfl) dX9_undecided_2 rfl ?_
  refine v_aload_n 0 dX9_undecided_5 rfl rfl ?_
  refine v_iload_n 1 dX9_undecided_6 rfl rfl ?_
  refine v_iload_n 2 dX9_undecided_7 rfl rfl ?_
  refine v_iload_n 3 dX9_undecided_8 rfl rfl ?_
  refine v_iload 4 dX9_undecided_9 rfl ?_
  refine v_iload 5 dX9_undecided_11 rfl ?_
  refine v_callV (as := [.int kd, .int a, .int b1, .int c, .int len]) (rest := []) (ws' := fun u => [(m, .inr (9, [.int (nI 2), .int fd0, .int pc0, .int dw0, .int lt0, .ref mt, .ref mw, .ref mb, .ref ml, .ref mq, .ref mz, .ref ms, .ref mr, .int ic0, .ref mi, .int tr0, .int sg0, .int ln0, .int at0, .int rd0, .int dr0, .int ma0, .ref mk, .int en0, .ref mj, .ref mn])), (mb, .inl (cI, 8, .inl gB))]) m_SampleDeskModel_223 (kX9_canTry_2 X.l (m := m) (mt := mt) (mw := mw) (mb := mb) (ml := ml) (mq := mq) (mz := mz) (ms := ms) (mr := mr) (mi := mi) (mk := mk) (mj := mj) (mn := mn) (th := nI 0) (fd0 := fd0) (pc0 := pc0) (dw0 := dw0) (lt0 := lt0) (ic0 := ic0) (tr0 := tr0) (sg0 := sg0) (ln0 := ln0) (at0 := at0) (rd0 := rd0) (dr0 := dr0) (ma0 := ma0) (en0 := en0) (kd := kd) (a := a) (b1 := b1) (c := c) (len := len) (gB := gB) (y := y) (M := M) hc hz hy hB hM hr) k_code_X9_canTry [0, 1] 0 rfl rfl rfl rfl dX9_undecided_13 (Nat.le_of_ble_eq_true rfl) ⟨rfl, rfl, by decide, by decide⟩ ⟨Nat.zero_le _, Nat.zero_le _⟩ rfl rfl (fun _ => rfl) (v_mgU rfl (fun _ => rfl)) ?_
  intro uu c13
  try dsimp only at c13
  show V (gG D cI cJ cT) X (rmD 4) cX9_undecided 6 RX9 [(m, .inr (9, [.int (nI 2), .int fd0, .int pc0, .int dw0, .int lt0, .ref mt, .ref mw, .ref mb, .ref ml, .ref mq, .ref mz, .ref ms, .ref mr, .int ic0, .ref mi, .int tr0, .int sg0, .int ln0, .int at0, .int rd0, .int dr0, .int ma0, .ref mk, .int en0, .ref mj, .ref mn])), (mb, .inl (cI, 8, .inl gB))] 0 0 [(0, .ref m), (1, .int kd), (2, .int a), (3, .int b1), (4, .int c), (5, .int len)] 16 [.int (dI false)]
  refine v_if_eq (tgt := 35) dX9_undecided_16 (by decide) (fun b16 => ?_) (fun b16 => absurd (rfl) b16)
  refine v_iconst (v := nI 0) dX9_undecided_35 (by decide) ?_
  exact v_iret hE dX9_undecided_36 () (trivial) rfl rfl
set_option maxRecDepth 100000 in
set_option maxHeartbeats 1000000 in
theorem kX9_undecided_0 {D : va_G} {cI cJ cT : ClassId} (l : Launch) {m mt mw mb ml mq mz ms mr mi mk mj mn : Nat} {th pc0 dw0 lt0 ic0 en0 : Int32} {tr0 sg0 ln0 at0 rd0 dr0 ma0 : Int32} {gS : Nat → Int64} {gK gR : Nat → Int32} {fd n : Nat} {tp : Nat → Int32} {y M : Nat} {gW gL : Nat → Int64} {W : Nat → Nat} {gB gQ gZ : Nat → Int32} {kd a b1 c : Int32}  (hc : canC kd a b1 c (nI n)) (hn : n ≤ 12) (hW : ∀ x, x < 64 → gW (64 * y + x) = lN (W x)) (hWb : ∀ x, x < 64 → W x < 2 ^ 31) (hy : y < 8) (hT : TBm M y W gB gZ gQ gL) (hz : kd = nI 0 → a = nI y) (hr : rdM kd M = true) : Fn (S := Nat × Int32 × Int32 × Int32 × Int32 × (Nat → Int64) × (Nat → Int32) × (Nat → Int32)) (gG D cI cJ cT) l yX9_undecided (.code yX9_undecided cX9_undecided 6 (some .int)) (rmD 7) [.ref m, .int kd, .int a, .int b1, .int c, .int (nI n)] [(m, .inr (9, [.int th, .int (nI fd), .int pc0, .int dw0, .int lt0, .ref mt, .ref mw, .ref mb, .ref ml, .ref mq, .ref mz, .ref ms, .ref mr, .int ic0, .ref mi, .int tr0, .int sg0, .int ln0, .int at0, .int rd0, .int dr0, .int ma0, .ref mk, .int en0, .ref mj, .ref mn])), (mt, .inl (cI, 16384, .inl tp)), (mw, .inl (cJ, 512, .inr (.inl gW))), (ms, .inl (cJ, 64, .inr (.inl gS))), (mb, .inl (cI, 8, .inl gB)), (ml, .inl (cJ, 512, .inr (.inl gL))), (mq, .inl (cI, 512, .inl gQ)), (mz, .inl (cI, 8, .inl gZ)), (mk, .inl (cI, 256, .inl gK)), (mr, .inl (cI, 512, .inl gR))] (fun _ => True) (fun u => some (.int (nI (sTal kd a b1 c W (M - 1) n false (lN 0))))) (fun u => [(m, .inr (9, [.int (nI 0), .int (nI fd), .int pc0, .int dw0, .int lt0, .ref mt, .ref mw, .ref mb, .ref ml, .ref mq, .ref mz, .ref ms, .ref mr, .int ic0, .ref mi, .int (dI true), .int (nI u.1), .int (nI n), .int u.2.1, .int u.2.2.1, .int u.2.2.2.1, .int u.2.2.2.2.1, .ref mk, .int en0, .ref mj, .ref mn])), (mt, .inl (cI, 16384, .inl tp)), (mw, .inl (cJ, 512, .inr (.inl gW))), (ms, .inl (cJ, 64, .inr (.inl u.2.2.2.2.2.1))), (mb, .inl (cI, 8, .inl gB)), (ml, .inl (cJ, 512, .inr (.inl gL))), (mq, .inl (cI, 512, .inl gQ)), (mz, .inl (cI, 8, .inl gZ)), (mk, .inl (cI, 256, .inl u.2.2.2.2.2.2.1)), (mr, .inl (cI, 512, .inl u.2.2.2.2.2.2.2))]) := by
  refine Fn.intro (by decide) (Nat.le_of_ble_eq_true rfl) ?_
  intro X hX hE hin
  subst hX
  show V (gG D cI cJ cT) X _ cX9_undecided 6 RX9 _ 0 0 [(0, .ref m), (1, .int kd), (2, .int a), (3, .int b1), (4, .int c), (5, .int (nI n))] 0 []
  refine v_aload_n 0 dX9_undecided_0 rfl rfl ?_
  refine v_iconst (v := nI 0) dX9_undecided_1 (by decide) ?_
  refine v_put (ws' := [(m, .inr (9, [.int (nI 0), .int (nI fd), .int pc0, .int dw0, .int lt0, .ref mt, .ref mw, .ref mb, .ref ml, .ref mq, .ref mz, .ref ms, .ref mr, .int ic0, .ref mi, .int tr0, .int sg0, .int ln0, .int at0, .int rd0, .int dr0, .int ma0, .ref mk, .int en0, .ref mj, .ref mn])), (mt, .inl (cI, 16384, .inl tp)), (mw, .inl (cJ, 512, .inr (.inl gW))), (ms, .inl (cJ, 64, .inr (.inl gS))), (mb, .inl (cI, 8, .inl gB)), (ml, .inl (cJ, 512, .inr (.inl gL))), (mq, .inl (cI, 512, .inl gQ)), (mz, .inl (cI, 8, .inl gZ)), (mk, .inl (cI, 256, .inl gK)), (mr, .inl (cI, 512, .inl gR))]) fw_SampleDeskModel_47 0 rfl (rfl) (rfl) (Nat.le_of_ble_eq_true rfl) dX9_undecided_2 rfl ?_
  refine v_aload_n 0 dX9_undecided_5 rfl rfl ?_
  refine v_iload_n 1 dX9_undecided_6 rfl rfl ?_
  refine v_iload_n 2 dX9_undecided_7 rfl rfl ?_
  refine v_iload_n 3 dX9_undecided_8 rfl rfl ?_
  refine v_iload 4 dX9_undecided_9 rfl ?_
  refine v_iload 5 dX9_undecided_11 rfl ?_
  refine v_callV (as := [.int kd, .int a, .int b1, .int c, .int (nI n)]) (rest := []) (ws' := fun u => [(m, .inr (9, [.int (nI 0), .int (nI fd), .int pc0, .int dw0, .int lt0, .ref mt, .ref mw, .ref mb, .ref ml, .ref mq, .ref mz, .ref ms, .ref mr, .int ic0, .ref mi, .int tr0, .int sg0, .int ln0, .int at0, .int rd0, .int dr0, .int ma0, .ref mk, .int en0, .ref mj, .ref mn])), (mt, .inl (cI, 16384, .inl tp)), (mw, .inl (cJ, 512, .inr (.inl gW))), (ms, .inl (cJ, 64, .inr (.inl gS))), (mb, .inl (cI, 8, .inl gB)), (ml, .inl (cJ, 512, .inr (.inl gL))), (mq, .inl (cI, 512, .inl gQ)), (mz, .inl (cI, 8, .inl gZ)), (mk, .inl (cI, 256, .inl gK)), (mr, .inl (cI, 512, .inl gR))]) m_SampleDeskModel_223 (kX9_canTry_0 X.l (m := m) (mt := mt) (mw := mw) (mb := mb) (ml := ml) (mq := mq) (mz := mz) (ms := ms) (mr := mr) (mi := mi) (mk := mk) (mj := mj) (mn := mn) (th := nI 0) (fd0 := nI fd) (pc0 := pc0) (dw0 := dw0) (lt0 := lt0) (ic0 := ic0) (tr0 := tr0) (sg0 := sg0) (ln0 := ln0) (at0 := at0) (rd0 := rd0) (dr0 := dr0) (ma0 := ma0) (en0 := en0) (kd := kd) (a := a) (b1 := b1) (c := c) (len := nI n) (gB := gB) (y := y) (M := M) hc hz hy hT.1 hT.2.1 hr) k_code_X9_canTry [0, 4] 0 rfl rfl rfl rfl dX9_undecided_13 (Nat.le_of_ble_eq_true rfl) ⟨rfl, rfl, by decide, by decide⟩ ⟨Nat.zero_le _, Nat.zero_le _⟩ rfl rfl (fun _ => rfl) (v_mgU rfl (fun _ => rfl)) ?_
  intro uu c13
  try dsimp only at c13
  show V (gG D cI cJ cT) X (rmD 7) cX9_undecided 6 RX9 [(m, .inr (9, [.int (nI 0), .int (nI fd), .int pc0, .int dw0, .int lt0, .ref mt, .ref mw, .ref mb, .ref ml, .ref mq, .ref mz, .ref ms, .ref mr, .int ic0, .ref mi, .int tr0, .int sg0, .int ln0, .int at0, .int rd0, .int dr0, .int ma0, .ref mk, .int en0, .ref mj, .ref mn])), (mt, .inl (cI, 16384, .inl tp)), (mw, .inl (cJ, 512, .inr (.inl gW))), (ms, .inl (cJ, 64, .inr (.inl gS))), (mb, .inl (cI, 8, .inl gB)), (ml, .inl (cJ, 512, .inr (.inl gL))), (mq, .inl (cI, 512, .inl gQ)), (mz, .inl (cI, 8, .inl gZ)), (mk, .inl (cI, 256, .inl gK)), (mr, .inl (cI, 512, .inl gR))] 0 0 [(0, .ref m), (1, .int kd), (2, .int a), (3, .int b1), (4, .int c), (5, .int (nI n))] 16 [.int (dI true)]
  refine v_if_eq (tgt := 35) dX9_undecided_16 (by decide) (fun b16 => absurd b16 (by decide)) (fun b16 => ?_)
  refine v_aload_n 0 dX9_undecided_19 rfl rfl ?_
  refine v_iload_n 1 dX9_undecided_20 rfl rfl ?_
  refine v_iload_n 2 dX9_undecided_21 rfl rfl ?_
  refine v_iload_n 3 dX9_undecided_22 rfl rfl ?_
  refine v_iload 4 dX9_undecided_23 rfl ?_
  refine v_iload 5 dX9_undecided_25 rfl ?_
  refine v_lconst (v := lN 0) dX9_undecided_27 (by decide) ?_
  refine v_iconst (v := dI (!false)) dX9_undecided_28 (by decide) ?_
  refine v_callV (as := [.int kd, .int a, .int b1, .int c, .int (nI n), .long (lN 0), .int (dI (!false))]) (rest := []) (ws' := fun u => [(m, .inr (9, [.int (nI 0), .int (nI fd), .int pc0, .int dw0, .int lt0, .ref mt, .ref mw, .ref mb, .ref ml, .ref mq, .ref mz, .ref ms, .ref mr, .int ic0, .ref mi, .int (dI true), .int (nI u.1), .int (nI n), .int u.2.1, .int u.2.2.1, .int u.2.2.2.1, .int u.2.2.2.2.1, .ref mk, .int en0, .ref mj, .ref mn])), (mt, .inl (cI, 16384, .inl tp)), (mw, .inl (cJ, 512, .inr (.inl gW))), (ms, .inl (cJ, 64, .inr (.inl u.2.2.2.2.2.1))), (mb, .inl (cI, 8, .inl gB)), (ml, .inl (cJ, 512, .inr (.inl gL))), (mq, .inl (cI, 512, .inl gQ)), (mz, .inl (cI, 8, .inl gZ)), (mk, .inl (cI, 256, .inl u.2.2.2.2.2.2.1)), (mr, .inl (cI, 512, .inl u.2.2.2.2.2.2.2))]) m_SampleDeskModel_227 (kX9_tryAll X.l (m := m) (mt := mt) (mw := mw) (mb := mb) (ml := ml) (mq := mq) (mz := mz) (ms := ms) (mr := mr) (mi := mi) (mk := mk) (mj := mj) (mn := mn) (pc0 := pc0) (dw0 := dw0) (lt0 := lt0) (ic0 := ic0) (en0 := en0) (tr0 := tr0) (sg0 := sg0) (ln0 := ln0) (at0 := at0) (rd0 := rd0) (dr0 := dr0) (ma0 := ma0) (gS := gS) (gK := gK) (gR := gR) (fd := fd) (n := n) (tp := tp) (y := y) (M := M) (gW := gW) (gL := gL) (W := W) (gB := gB) (gQ := gQ) (gZ := gZ) (kd := kd) (a := a) (b1 := b1) (c := c) (th := nI 0) (out := lN 0) (dec := false) hn hc.2.1 hW hWb hy hT hz (rdM_pos hr)) k_code_X9_tryAll [0, 1, 2, 3, 4, 5, 6, 7, 8, 9] 0 rfl rfl rfl rfl dX9_undecided_29 (Nat.le_of_ble_eq_true rfl) ⟨rfl, rfl, by decide, by decide⟩ ⟨Nat.zero_le _, Nat.zero_le _⟩ rfl rfl (fun _ => rfl) (v_mgU rfl (fun _ => rfl)) ?_
  intro u29 c29
  obtain ⟨s1, v1, v2, v3, v4, g1, g2, g3⟩ := u29
  try dsimp only at c29
  show V (gG D cI cJ cT) X (rmD 7) cX9_undecided 6 RX9 [(m, .inr (9, [.int (nI 0), .int (nI fd), .int pc0, .int dw0, .int lt0, .ref mt, .ref mw, .ref mb, .ref ml, .ref mq, .ref mz, .ref ms, .ref mr, .int ic0, .ref mi, .int (dI true), .int (nI s1), .int (nI n), .int v1, .int v2, .int v3, .int v4, .ref mk, .int en0, .ref mj, .ref mn])), (mt, .inl (cI, 16384, .inl tp)), (mw, .inl (cJ, 512, .inr (.inl gW))), (ms, .inl (cJ, 64, .inr (.inl g1))), (mb, .inl (cI, 8, .inl gB)), (ml, .inl (cJ, 512, .inr (.inl gL))), (mq, .inl (cI, 512, .inl gQ)), (mz, .inl (cI, 8, .inl gZ)), (mk, .inl (cI, 256, .inl g2)), (mr, .inl (cI, 512, .inl g3))] 0 0 [(0, .ref m), (1, .int kd), (2, .int a), (3, .int b1), (4, .int c), (5, .int (nI n))] 32 [.int (nI (sTal kd a b1 c W (M - 1) n false (lN 0)))]
  refine v_goto (tgt := 36) dX9_undecided_32 (by decide) ?_
  exact v_iret hE dX9_undecided_36 (s1, v1, v2, v3, v4, g1, g2, g3) (trivial) rfl rfl
