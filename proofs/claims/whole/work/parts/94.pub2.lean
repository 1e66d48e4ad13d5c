set_option maxRecDepth 100000 in
set_option maxHeartbeats 1000000 in
theorem kX9_build_1 {D : va_G} {cI cJ cT : ClassId} (l : Launch) {m mt mw mb ml mq mz ms mr mi mk mj mn : Nat} {th fd0 pc0 dw0 lt0 ic0 tr0 sg0 ln0 at0 rd0 dr0 ma0 en0 : Int32} {t mx : Int32} {gW gS gL : Nat → Int64} {gB gQ gZ gR : Nat → Int32} (ht : ¬ inR t 8) : Fn (S := Unit) (gG D cI cJ cT) l yX9_build (.code yX9_build cX9_build 5 (some .long)) (rmD 1) [.ref m, .int t, .int mx] [(m, .inr (9, [.int th, .int fd0, .int pc0, .int dw0, .int lt0, .ref mt, .ref mw, .ref mb, .ref ml, .ref mq, .ref mz, .ref ms, .ref mr, .int ic0, .ref mi, .int tr0, .int sg0, .int ln0, .int at0, .int rd0, .int dr0, .int ma0, .ref mk, .int en0, .ref mj, .ref mn])), (mw, .inl (cJ, 512, .inr (.inl gW))), (ms, .inl (cJ, 64, .inr (.inl gS))), (mb, .inl (cI, 8, .inl gB)), (ml, .inl (cJ, 512, .inr (.inl gL))), (mq, .inl (cI, 512, .inl gQ)), (mz, .inl (cI, 8, .inl gZ)), (mr, .inl (cI, 512, .inl gR))] (fun _ => True) (fun u => some (.long (lN 0))) (fun u => [(m, .inr (9, [.int (nI 1), .int fd0, .int pc0, .int dw0, .int lt0, .ref mt, .ref mw, .ref mb, .ref ml, .ref mq, .ref mz, .ref ms, .ref mr, .int ic0, .ref mi, .int tr0, .int sg0, .int ln0, .int at0, .int rd0, .int dr0, .int ma0, .ref mk, .int en0, .ref mj, .ref mn])), (mw, .inl (cJ, 512, .inr (.inl gW))), (ms, .inl (cJ, 64, .inr (.inl gS))), (mb, .inl (cI, 8, .inl gB)), (ml, .inl (cJ, 512, .inr (.inl gL))), (mq, .inl (cI, 512, .inl gQ)), (mz, .inl (cI, 8, .inl gZ)), (mr, .inl (cI, 512, .inl gR))]) := by
  refine Fn.intro (by decide) (Nat.le_of_ble_eq_true rfl) ?_
  intro X hX hE hin
  subst hX
  show V (gG D cI cJ cT) X _ cX9_build 5 RX9 _ 0 0 [(0, .ref m), (1, .int t), (2, .int mx)] 0 []
  refine v_aload_n 0 dX9_build_0 rfl rfl ?_
  refine v_iconst (v := nI 0) dX9_build_1 (by decide) ?_
  refine v_put (ws' := [(m, .inr (9, [.int (nI 0), .int fd0, .int pc0, .int dw0, .int lt0, .ref mt, .ref mw, .ref mb, .ref ml, .ref mq, .ref mz, .ref ms, .ref mr, .int ic0, .ref mi, .int tr0, .int sg0, .int ln0, .int at0, .int rd0, .int dr0, .int ma0, .ref mk, .int en0, .ref mj, .ref mn])), (mw, .inl (cJ, 512, .inr (.inl gW))), (ms, .inl (cJ, 64, .inr (.inl gS))), (mb, .inl (cI, 8, .inl gB)), (ml, .inl (cJ, 512, .inr (.inl gL))), (mq, .inl (cI, 512, .inl gQ)), (mz, .inl (cI, 8, .inl gZ)), (mr, .inl (cI, 512, .inl gR))]) fw_SampleDeskModel_47 0 rfl (rfl) (rfl) (Nat.le_of_ble_eq_true rfl) dX9_build_2 rfl ?_
  refine v_iload_n 1 dX9_build_5 rfl rfl ?_
  refine v_i2l (v := t.toInt64) dX9_build_6 (rfl) ?_
  refine v_lconst (v := 0) dX9_build_7 (by decide) ?_
  refine v_ldc2 (v := 7) k_c_SampleDeskModel_65 dX9_build_8 ?_
  refine v_callS (as := [.long t.toInt64, .long 0, .long 7]) (rest := []) (ws' := fun u => [(m, .inr (9, [.int (nI 0), .int fd0, .int pc0, .int dw0, .int lt0, .ref mt, .ref mw, .ref mb, .ref ml, .ref mq, .ref mz, .ref ms, .ref mr, .int ic0, .ref mi, .int tr0, .int sg0, .int ln0, .int at0, .int rd0, .int dr0, .int ma0, .ref mk, .int en0, .ref mj, .ref mn])), (mw, .inl (cJ, 512, .inr (.inl gW))), (ms, .inl (cJ, 64, .inr (.inl gS))), (mb, .inl (cI, 8, .inl gB)), (ml, .inl (cJ, 512, .inr (.inl gL))), (mq, .inl (cI, 512, .inl gQ)), (mz, .inl (cI, 8, .inl gZ)), (mr, .inl (cI, 512, .inl gR))]) m_SampleDeskModel_58 (kX9_within X.l (v := t.toInt64) (lo := 0) (hi := 7)) k_code_X9_within [] rfl rfl dX9_build_11 (Nat.le_of_ble_eq_true rfl) ⟨rfl, rfl, by decide, by decide⟩ ⟨Nat.zero_le _, Nat.zero_le _⟩ rfl rfl (fun _ => rfl) (v_mgU rfl (fun _ => rfl)) ?_
  intro uu c11
  try dsimp only at c11
  show V (gG D cI cJ cT) X (rmD 1) cX9_build 5 RX9 [(m, .inr (9, [.int (nI 0), .int fd0, .int pc0, .int dw0, .int lt0, .ref mt, .ref mw, .ref mb, .ref ml, .ref mq, .ref mz, .ref ms, .ref mr, .int ic0, .ref mi, .int tr0, .int sg0, .int ln0, .int at0, .int rd0, .int dr0, .int ma0, .ref mk, .int en0, .ref mj, .ref mn])), (mw, .inl (cJ, 512, .inr (.inl gW))), (ms, .inl (cJ, 64, .inr (.inl gS))), (mb, .inl (cI, 8, .inl gB)), (ml, .inl (cJ, 512, .inr (.inl gL))), (mq, .inl (cI, 512, .inl gQ)), (mz, .inl (cI, 8, .inl gZ)), (mr, .inl (cI, 512, .inl gR))] 0 0 [(0, .ref m), (1, .int t), (2, .int mx)] 14 [.int (dI (wi t.toInt64 0 7))]
  refine v_topi (y := dI false) (congrArg dI ((show wi t.toInt64 0 7 = up t 7 by rw [show (7 : Int64) = (7 : Int32).toInt64 by decide, wi_up]; try rfl).trans (upF1 (n := 7) (by decide) ht))) ?_
  refine v_if_ne (tgt := 24) dX9_build_14 (by decide) (fun b14 => absurd b14 (fun q => q rfl)) (fun b14 => ?_)
  refine v_aload_n 0 dX9_build_17 rfl rfl ?_
  refine v_iconst (v := nI 1) dX9_build_18 (by decide) ?_
  refine v_callV (as := [.int (nI 1)]) (rest := []) (ws' := fun u => [(m, .inr (9, [.int (nI 1), .int fd0, .int pc0, .int dw0, .int lt0, .ref mt, .ref mw, .ref mb, .ref ml, .ref mq, .ref mz, .ref ms, .ref mr, .int ic0, .ref mi, .int tr0, .int sg0, .int ln0, .int at0, .int rd0, .int dr0, .int ma0, .ref mk, .int en0, .ref mj, .ref mn])), (mw, .inl (cJ, 512, .inr (.inl gW))), (ms, .inl (cJ, 64, .inr (.inl gS))), (mb, .inl (cI, 8, .inl gB)), (ml, .inl (cJ, 512, .inr (.inl gL))), (mq, .inl (cI, 512, .inl gQ)), (mz, .inl (cI, 8, .inl gZ)), (mr, .inl (cI, 512, .inl gR))]) m_SampleDeskModel_54 (kX9_fail X.l (m := m) (mt := mt) (mw := mw) (mb := mb) (ml := ml) (mq := mq) (mz := mz) (ms := ms) (mr := mr) (mi := mi) (mk := mk) (mj := mj) (mn := mn) (th := nI 0) (fd0 := fd0) (pc0 := pc0) (dw0 := dw0) (lt0 := lt0) (ic0 := ic0) (tr0 := tr0) (sg0 := sg0) (ln0 := ln0) (at0 := at0) (rd0 := rd0) (dr0 := dr0) (ma0 := ma0) (en0 := en0) (cd := nI 1)) k_code_X9_fail [0] 0 rfl rfl rfl rfl dX9_build_19 (Nat.le_of_ble_eq_true rfl) ⟨rfl, rfl, by decide, by decide⟩ ⟨Nat.zero_le _, Nat.zero_le _⟩ rfl rfl (fun _ => rfl) (v_mgU rfl (fun _ => rfl)) ?_
  intro uu c19
  try dsimp only at c19
  show V (gG D cI cJ cT) X (rmD 1) cX9_build 5 RX9 [(m, .inr (9, [.int (nI 1), .int fd0, .int pc0, .int dw0, .int lt0, .ref mt, .ref mw, .ref mb, .ref ml, .ref mq, .ref mz, .ref ms, .ref mr, .int ic0, .ref mi, .int tr0, .int sg0, .int ln0, .int at0, .int rd0, .int dr0, .int ma0, .ref mk, .int en0, .ref mj, .ref mn])), (mw, .inl (cJ, 512, .inr (.inl gW))), (ms, .inl (cJ, 64, .inr (.inl gS))), (mb, .inl (cI, 8, .inl gB)), (ml, .inl (cJ, 512, .inr (.inl gL))), (mq, .inl (cI, 512, .inl gQ)), (mz, .inl (cI, 8, .inl gZ)), (mr, .inl (cI, 512, .inl gR))] 0 0 [(0, .ref m), (1, .int t), (2, .int mx)] 22 [.int (nI 0)]
  refine v_i2l (v := lN 0) dX9_build_22 (nI_l (by omega)) ?_
  exact v_lret hE dX9_build_23 () (trivial) rfl rfl
set_option maxRecDepth 100000 in
set_option maxHeartbeats 1000000 in
theorem kX9_build_2 {D : va_G} {cI cJ cT : ClassId} (l : Launch) {m mt mw mb ml mq mz ms mr mi mk mj mn : Nat} {th fd0 pc0 dw0 lt0 ic0 tr0 sg0 ln0 at0 rd0 dr0 ma0 en0 : Int32} {t mx : Int32} {gW gS gL : Nat → Int64} {gB gQ gZ gR : Nat → Int32} (ht : inR t 8) (hm : ¬ inR mx 2) : Fn (S := Unit) (gG D cI cJ cT) l yX9_build (.code yX9_build cX9_build 5 (some .long)) (rmD 1) [.ref m, .int t, .int mx] [(m, .inr (9, [.int th, .int fd0, .int pc0, .int dw0, .int lt0, .ref mt, .ref mw, .ref mb, .ref ml, .ref mq, .ref mz, .ref ms, .ref mr, .int ic0, .ref mi, .int tr0, .int sg0, .int ln0, .int at0, .int rd0, .int dr0, .int ma0, .ref mk, .int en0, .ref mj, .ref mn])), (mw, .inl (cJ, 512, .inr (.inl gW))), (ms, .inl (cJ, 64, .inr (.inl gS))), (mb, .inl (cI, 8, .inl gB)), (ml, .inl (cJ, 512, .inr (.inl gL))), (mq, .inl (cI, 512, .inl gQ)), (mz, .inl (cI, 8, .inl gZ)), (mr, .inl (cI, 512, .inl gR))] (fun _ => True) (fun u => some (.long (lN 0))) (fun u => [(m, .inr (9, [.int (nI 2), .int fd0, .int pc0, .int dw0, .int lt0, .ref mt, .ref mw, .ref mb, .ref ml, .ref mq, .ref mz, .ref ms, .ref mr, .int ic0, .ref mi, .int tr0, .int sg0, .int ln0, .int at0, .int rd0, .int dr0, .int ma0, .ref mk, .int en0, .ref mj, .ref mn])), (mw, .inl (cJ, 512, .inr (.inl gW))), (ms, .inl (cJ, 64, .inr (.inl gS))), (mb, .inl (cI, 8, .inl gB)), (ml, .inl (cJ, 512, .inr (.inl gL))), (mq, .inl (cI, 512, .inl gQ)), (mz, .inl (cI, 8, .inl gZ)), (mr, .inl (cI, 512, .inl gR))]) := by
  refine Fn.intro (by decide) (Nat.le_of_ble_eq_true rfl) ?_
  intro X hX hE hin
  subst hX
  show V (gG D cI cJ cT) X _ cX9_build 5 RX9 _ 0 0 [(0, .ref m), (1, .int t), (2, .int mx)] 0 []
  refine v_aload_n 0 dX9_build_0 rfl rfl ?_
  refine v_iconst (v := nI 0) dX9_build_1 (by decide) ?_
  refine v_put (ws' := [(m, .inr (9, [.int (nI 0), .int fd0, .int pc0, .int dw0, .int lt0, .ref mt, .ref mw, .ref mb, .ref ml, .ref mq, .ref mz, .ref ms, .ref mr, .int ic0, .ref mi, .int tr0, .int sg0, .int ln0, .int at0, .int rd0, .int dr0, .int ma0, .ref mk, .int en0, .ref mj, .ref mn])), (mw, .inl (cJ, 512, .inr (.inl gW))), (ms, .inl (cJ, 64, .inr (.inl gS))), (mb, .inl (cI, 8, .inl gB)), (ml, .inl (cJ, 512, .inr (.inl gL))), (mq, .inl (cI, 512, .inl gQ)), (mz, .inl (cI, 8, .inl gZ)), (mr, .inl (cI, 512, .inl gR))]) fw_SampleDeskModel_47 0 rfl (rfl) (rfl) (Nat.le_of_ble_eq_true rfl) dX9_build_2 rfl ?_
  refine v_iload_n 1 dX9_build_5 rfl rfl ?_
  refine v_i2l (v := t.toInt64) dX9_build_6 (rfl) ?_
  refine v_lconst (v := 0) dX9_build_7 (by decide) ?_
  refine v_ldc2 (v := 7) k_c_SampleDeskModel_65 dX9_build_8 ?_
  refine v_callS (as := [.long t.toInt64, .long 0, .long 7]) (rest := []) (ws' := fun u => [(m, .inr (9, [.int (nI 0), .int fd0, .int pc0, .int dw0, .int lt0, .ref mt, .ref mw, .ref mb, .ref ml, .ref mq, .ref mz, .ref ms, .ref mr, .int ic0, .ref mi, .int tr0, .int sg0, .int ln0, .int at0, .int rd0, .int dr0, .int ma0, .ref mk, .int en0, .ref mj, .ref mn])), (mw, .inl (cJ, 512, .inr (.inl gW))), (ms, .inl (cJ, 64, .inr (.inl gS))), (mb, .inl (cI, 8, .inl gB)), (ml, .inl (cJ, 512, .inr (.inl gL))), (mq, .inl (cI, 512, .inl gQ)), (mz, .inl (cI, 8, .inl gZ)), (mr, .inl (cI, 512, .inl gR))]) m_SampleDeskModel_58 (kX9_within X.l (v := t.toInt64) (lo := 0) (hi := 7)) k_code_X9_within [] rfl rfl dX9_build_11 (Nat.le_of_ble_eq_true rfl) ⟨rfl, rfl, by decide, by decide⟩ ⟨Nat.zero_le _, Nat.zero_le _⟩ rfl rfl (fun _ => rfl) (v_mgU rfl (fun _ => rfl)) ?_
  intro uu c11
  try dsimp only at c11
  show V (gG D cI cJ cT) X (rmD 1) cX9_build 5 RX9 [(m, .inr (9, [.int (nI 0), .int fd0, .int pc0, .int dw0, .int lt0, .ref mt, .ref mw, .ref mb, .ref ml, .ref mq, .ref mz, .ref ms, .ref mr, .int ic0, .ref mi, .int tr0, .int sg0, .int ln0, .int at0, .int rd0, .int dr0, .int ma0, .ref mk, .int en0, .ref mj, .ref mn])), (mw, .inl (cJ, 512, .inr (.inl gW))), (ms, .inl (cJ, 64, .inr (.inl gS))), (mb, .inl (cI, 8, .inl gB)), (ml, .inl (cJ, 512, .inr (.inl gL))), (mq, .inl (cI, 512, .inl gQ)), (mz, .inl (cI, 8, .inl gZ)), (mr, .inl (cI, 512, .inl gR))] 0 0 [(0, .ref m), (1, .int t), (2, .int mx)] 14 [.int (dI (wi t.toInt64 0 7))]
  refine v_topi (y := dI true) (congrArg dI ((show wi t.toInt64 0 7 = up t 7 by rw [show (7 : Int64) = (7 : Int32).toInt64 by decide, wi_up]; try rfl).trans (upT1 (n := 7) (by decide) ht))) ?_
  refine v_if_ne (tgt := 24) dX9_build_14 (by decide) (fun b14 => ?_) (fun b14 => absurd b14 (by decide))
  refine v_iload_n 2 dX9_build_24 rfl rfl ?_
  refine v_i2l (v := mx.toInt64) dX9_build_25 (rfl) ?_
  refine v_lconst (v := 0) dX9_build_26 (by decide) ?_
  refine v_lconst (v := 1) dX9_build_27 (by decide) ?_
  refine v_callS (as := [.long mx.toInt64, .long 0, .long 1]) (rest := []) (ws' := fun u => [(m, .inr (9, [.int (nI 0), .int fd0, .int pc0, .int dw0, .int lt0, .ref mt, .ref mw, .ref mb, .ref ml, .ref mq, .ref mz, .ref ms, .ref mr, .int ic0, .ref mi, .int tr0, .int sg0, .int ln0, .int at0, .int rd0, .int dr0, .int ma0, .ref mk, .int en0, .ref mj, .ref mn])), (mw, .inl (cJ, 512, .inr (.inl gW))), (ms, .inl (cJ, 64, .inr (.inl gS))), (mb, .inl (cI, 8, .inl gB)), (ml, .inl (cJ, 512, .inr (.inl gL))), (mq, .inl (cI, 512, .inl gQ)), (mz, .inl (cI, 8, .inl gZ)), (mr, .inl (cI, 512, .inl gR))]) m_SampleDeskModel_58 (kX9_within X.l (v := mx.toInt64) (lo := 0) (hi := 1)) k_code_X9_within [] rfl rfl dX9_build_28 (Nat.le_of_ble_eq_true rfl) ⟨rfl, rfl, by decide, by decide⟩ ⟨Nat.zero_le _, Nat.zero_le _⟩ rfl rfl (fun _ => rfl) (v_mgU rfl (fun _ => rfl)) ?_
  intro uu c28
  try dsimp only at c28
  show V (gG D cI cJ cT) X (rmD 1) cX9_build 5 RX9 [(m, .inr (9, [.int (nI 0), .int fd0, .int pc0, .int dw0, .int lt0, .ref mt, .ref mw, .ref mb, .ref ml, .ref mq, .ref mz, .ref ms, .ref mr, .int ic0, .ref mi, .int tr0, .int sg0, .int ln0, .int at0, .int rd0, .int dr0, .int ma0, .ref mk, .int en0, .ref mj, .ref mn])), (mw, .inl (cJ, 512, .inr (.inl gW))), (ms, .inl (cJ, 64, .inr (.inl gS))), (mb, .inl (cI, 8, .inl gB)), (ml, .inl (cJ, 512, .inr (.inl gL))), (mq, .inl (cI, 512, .inl gQ)), (mz, .inl (cI, 8, .inl gZ)), (mr, .inl (cI, 512, .inl gR))] 0 0 [(0, .ref m), (1, .int t), (2, .int mx)] 31 [.int (dI (wi mx.toInt64 0 1))]
  refine v_topi (y := dI false) (congrArg dI ((show wi mx.toInt64 0 1 = up mx (nI 1) by rw [show (1 : Int64) = (1 : Int32).toInt64 by decide, wi_up]; try rfl).trans (upF1 (n := 1) (by decide) hm))) ?_
  refine v_if_ne (tgt := 41) dX9_build_31 (by decide) (fun b31 => absurd b31 (fun q => q rfl)) (fun b31 => ?_)
  refine v_aload_n 0 dX9_build_34 rfl rfl ?_
  refine v_iconst (v := nI 2) dX9_build_35 (by decide) ?_
  refine v_callV (as := [.int (nI 2)]) (rest := []) (ws' := fun u => [(m, .inr (9, [.int (nI 2), .int fd0, .int pc0, .int dw0, .int lt0, .ref mt, .ref mw, .ref mb, .ref ml, .ref mq, .ref mz, .ref ms, .ref mr, .int ic0, .ref mi, .int tr0, .int sg0, .int ln0, .int at0, .int rd0, .int dr0, .int ma0, .ref mk, .int en0, .ref mj, .ref mn])), (mw, .inl (cJ, 512, .inr (.inl gW))), (ms, .inl (cJ, 64, .inr (.inl gS))), (mb, .inl (cI, 8, .inl gB)), (ml, .inl (cJ, 512, .inr (.inl gL))), (mq, .inl (cI, 512, .inl gQ)), (mz, .inl (cI, 8, .inl gZ)), (mr, .inl (cI, 512, .inl gR))]) m_SampleDeskModel_54 (kX9_fail X.l (m := m) (mt := mt) (mw := mw) (mb := mb) (ml := ml) (mq := mq) (mz := mz) (ms := ms) (mr := mr) (mi := mi) (mk := mk) (mj := mj) (mn := mn) (th := nI 0) (fd0 := fd0) (pc0 := pc0) (dw0 := dw0) (lt0 := lt0) (ic0 := ic0) (tr0 := tr0) (sg0 := sg0) (ln0 := ln0) (at0 := at0) (rd0 := rd0) (dr0 := dr0) (ma0 := ma0) (en0 := en0) (cd := nI 2)) k_code_X9_fail [0] 0 rfl rfl rfl rfl dX9_build_36 (Nat.le_of_ble_eq_true rfl) ⟨rfl, rfl, by decide, by decide⟩ ⟨Nat.zero_le _, Nat.zero_le _⟩ rfl rfl (fun _ => rfl) (v_mgU rfl (fun _ => rfl)) ?_
  intro uu c36
  try dsimp only at c36
  show V (gG D cI cJ cT) X (rmD 1) cX9_build 5 RX9 [(m, .inr (9, [.int (nI 2), .int fd0, .int pc0, .int dw0, .int lt0, .ref mt, .ref mw, .ref mb, .ref ml, .ref mq, .ref mz, .ref ms, .ref mr, .int ic0, .ref mi, .int tr0, .int sg0, .int ln0, .int at0, .int rd0, .int dr0, .int ma0, .ref mk, .int en0, .ref mj, .ref mn])), (mw, .inl (cJ, 512, .inr (.inl gW))), (ms, .inl (cJ, 64, .inr (.inl gS))), (mb, .inl (cI, 8, .inl gB)), (ml, .inl (cJ, 512, .inr (.inl gL))), (mq, .inl (cI, 512, .inl gQ)), (mz, .inl (cI, 8, .inl gZ)), (mr, .inl (cI, 512, .inl gR))] 0 0 [(0, .ref m), (1, .int t), (2, .int mx)] 39 [.int (nI 0)]
  refine v_i2l (v := lN 0) dX9_build_39 (nI_l (by omega)) ?_
  exact v_lret hE dX9_build_40 () (trivial) rfl rfl
set_option maxRecDepth 100000 in
set_option maxHeartbeats 1000000 in
theorem kX9_build_3 {D : va_G} {cI cJ cT : ClassId} (l : Launch) {m mt mw mb ml mq mz ms mr mi mk mj mn : Nat} {th fd0 pc0 dw0 lt0 ic0 tr0 sg0 ln0 at0 rd0 dr0 ma0 en0 : Int32} {y : Nat} {W : Nat → Nat} {gW gS gL : Nat → Int64} {gB gQ gZ gR : Nat → Int32} {mx : Int32} (hW : ∀ x, x < 64 → gW (64 * y + x) = lN (W x)) (hWb : ∀ x, x < 64 → W x < 2 ^ 31) (hy : y < 8) (hm : inR mx 2) (hs : sumN W 64 = 0) : Fn (S := Unit) (gG D cI cJ cT) l yX9_build (.code yX9_build cX9_build 5 (some .long)) (rmD 1) [.ref m, .int (nI y), .int mx] [(m, .inr (9, [.int th, .int fd0, .int pc0, .int dw0, .int lt0, .ref mt, .ref mw, .ref mb, .ref ml, .ref mq, .ref mz, .ref ms, .ref mr, .int ic0, .ref mi, .int tr0, .int sg0, .int ln0, .int at0, .int rd0, .int dr0, .int ma0, .ref mk, .int en0, .ref mj, .ref mn])), (mw, .inl (cJ, 512, .inr (.inl gW))), (ms, .inl (cJ, 64, .inr (.inl gS))), (mb, .inl (cI, 8, .inl gB)), (ml, .inl (cJ, 512, .inr (.inl gL))), (mq, .inl (cI, 512, .inl gQ)), (mz, .inl (cI, 8, .inl gZ)), (mr, .inl (cI, 512, .inl gR))] (fun _ => True) (fun u => some (.long (lN 0))) (fun u => [(m, .inr (9, [.int (nI 3), .int fd0, .int pc0, .int dw0, .int lt0, .ref mt, .ref mw, .ref mb, .ref ml, .ref mq, .ref mz, .ref ms, .ref mr, .int ic0, .ref mi, .int tr0, .int sg0, .int ln0, .int at0, .int rd0, .int dr0, .int ma0, .ref mk, .int en0, .ref mj, .ref mn])), (mw, .inl (cJ, 512, .inr (.inl gW))), (ms, .inl (cJ, 64, .inr (.inl gS))), (mb, .inl (cI, 8, .inl gB)), (ml, .inl (cJ, 512, .inr (.inl gL))), (mq, .inl (cI, 512, .inl gQ)), (mz, .inl (cI, 8, .inl gZ)), (mr, .inl (cI, 512, .inl gR))]) := by
  refine Fn.intro (by decide) (Nat.le_of_ble_eq_true rfl) ?_
  intro X hX hE hin
  subst hX
  show V (gG D cI cJ cT) X _ cX9_build 5 RX9 _ 0 0 [(0, .ref m), (1, .int (nI y)), (2, .int mx)] 0 []
  refine v_aload_n 0 dX9_build_0 rfl rfl ?_
  refine v_iconst (v := nI 0) dX9_build_1 (by decide) ?_
  refine v_put (ws' := [(m, .inr (9, [.int (nI 0), .int fd0, .int pc0, .int dw0, .int lt0, .ref mt, .ref mw, .ref mb, .ref ml, .ref mq, .ref mz, .ref ms, .ref mr, .int ic0, .ref mi, .int tr0, .int sg0, .int ln0, .int at0, .int rd0, .int dr0, .int ma0, .ref mk, .int en0, .ref mj, .ref mn])), (mw, .inl (cJ, 512, .inr (.inl gW))), (ms, .inl (cJ, 64, .inr (.inl gS))), (mb, .inl (cI, 8, .inl gB)), (ml, .inl (cJ, 512, .inr (.inl gL))), (mq, .inl (cI, 512, .inl gQ)), (mz, .inl (cI, 8, .inl gZ)), (mr, .inl (cI, 512, .inl gR))]) fw_SampleDeskModel_47 0 rfl (rfl) (rfl) (Nat.le_of_ble_eq_true rfl) dX9_build_2 rfl ?_
  refine v_iload_n 1 dX9_build_5 rfl rfl ?_
  refine v_i2l (v := (nI y).toInt64) dX9_build_6 (rfl) ?_
  refine v_lconst (v := 0) dX9_build_7 (by decide) ?_
  refine v_ldc2 (v := 7) k_c_SampleDeskModel_65 dX9_build_8 ?_
  refine v_callS (as := [.long ((nI y).toInt64), .long 0, .long 7]) (rest := []) (ws' := fun u => [(m, .inr (9, [.int (nI 0), .int fd0, .int pc0, .int dw0, .int lt0, .ref mt, .ref mw, .ref mb, .ref ml, .ref mq, .ref mz, .ref ms, .ref mr, .int ic0, .ref mi, .int tr0, .int sg0, .int ln0, .int at0, .int rd0, .int dr0, .int ma0, .ref mk, .int en0, .ref mj, .ref mn])), (mw, .inl (cJ, 512, .inr (.inl gW))), (ms, .inl (cJ, 64, .inr (.inl gS))), (mb, .inl (cI, 8, .inl gB)), (ml, .inl (cJ, 512, .inr (.inl gL))), (mq, .inl (cI, 512, .inl gQ)), (mz, .inl (cI, 8, .inl gZ)), (mr, .inl (cI, 512, .inl gR))]) m_SampleDeskModel_58 (kX9_within X.l (v := (nI y).toInt64) (lo := 0) (hi := 7)) k_code_X9_within [] rfl rfl dX9_build_11 (Nat.le_of_ble_eq_true rfl) ⟨rfl, rfl, by decide, by decide⟩ ⟨Nat.zero_le _, Nat.zero_le _⟩ rfl rfl (fun _ => rfl) (v_mgU rfl (fun _ => rfl)) ?_
  intro uu c11
  try dsimp only at c11
  show V (gG D cI cJ cT) X (rmD 1) cX9_build 5 RX9 [(m, .inr (9, [.int (nI 0), .int fd0, .int pc0, .int dw0, .int lt0, .ref mt, .ref mw, .ref mb, .ref ml, .ref mq, .ref mz, .ref ms, .ref mr, .int ic0, .ref mi, .int tr0, .int sg0, .int ln0, .int at0, .int rd0, .int dr0, .int ma0, .ref mk, .int en0, .ref mj, .ref mn])), (mw, .inl (cJ, 512, .inr (.inl gW))), (ms, .inl (cJ, 64, .inr (.inl gS))), (mb, .inl (cI, 8, .inl gB)), (ml, .inl (cJ, 512, .inr (.inl gL))), (mq, .inl (cI, 512, .inl gQ)), (mz, .inl (cI, 8, .inl gZ)), (mr, .inl (cI, 512, .inl gR))] 0 0 [(0, .ref m), (1, .int (nI y)), (2, .int mx)] 14 [.int (dI (wi ((nI y).toInt64) 0 7))]
  refine v_topi (y := dI true) (congrArg dI ((show wi ((nI y).toInt64) 0 7 = up (nI y) 7 by rw [show (7 : Int64) = (7 : Int32).toInt64 by decide, wi_up]; try rfl).trans (upT1 (n := 7) (by decide) ⟨y, hy, rfl⟩))) ?_
  refine v_if_ne (tgt := 24) dX9_build_14 (by decide) (fun b14 => ?_) (fun b14 => absurd b14 (by decide))
  refine v_iload_n 2 dX9_build_24 rfl rfl ?_
  refine v_i2l (v := mx.toInt64) dX9_build_25 (rfl) ?_
  refine v_lconst (v := 0) dX9_build_26 (by decide) ?_
  refine v_lconst (v := 1) dX9_build_27 (by decide) ?_
  refine v_callS (as := [.long mx.toInt64, .long 0, .long 1]) (rest := []) (ws' := fun u => [(m, .inr (9, [.int (nI 0), .int fd0, .int pc0, .int dw0, .int lt0, .ref mt, .ref mw, .ref mb, .ref ml, .ref mq, .ref mz, .ref ms, .ref mr, .int ic0, .ref mi, .int tr0, .int sg0, .int ln0, .int at0, .int rd0, .int dr0, .int ma0, .ref mk, .int en0, .ref mj, .ref mn])), (mw, .inl (cJ, 512, .inr (.inl gW))), (ms, .inl (cJ, 64, .inr (.inl gS))), (mb, .inl (cI, 8, .inl gB)), (ml, .inl (cJ, 512, .inr (.inl gL))), (mq, .inl (cI, 512, .inl gQ)), (mz, .inl (cI, 8, .inl gZ)), (mr, .inl (cI, 512, .inl gR))]) m_SampleDeskModel_58 (kX9_within X.l (v := mx.toInt64) (lo := 0) (hi := 1)) k_code_X9_within [] rfl rfl dX9_build_28 (Nat.le_of_ble_eq_true rfl) ⟨rfl, rfl, by decide, by decide⟩ ⟨Nat.zero_le _, Nat.zero_le _⟩ rfl rfl (fun _ => rfl) (v_mgU rfl (fun _ => rfl)) ?_
  intro uu c28
  try dsimp only at c28
  show V (gG D cI cJ cT) X (rmD 1) cX9_build 5 RX9 [(m, .inr (9, [.int (nI 0), .int fd0, .int pc0, .int dw0, .int lt0, .ref mt, .ref mw, .ref mb, .ref ml, .ref mq, .ref mz, .ref ms, .ref mr, .int ic0, .ref mi, .int tr0, .int sg0, .int ln0, .int at0, .int rd0, .int dr0, .int ma0, .ref mk, .int en0, .ref mj, .ref mn])), (mw, .inl (cJ, 512, .inr (.inl gW))), (ms, .inl (cJ, 64, .inr (.inl gS))), (mb, .inl (cI, 8, .inl gB)), (ml, .inl (cJ, 512, .inr (.inl gL))), (mq, .inl (cI, 512, .inl gQ)), (mz, .inl (cI, 8, .inl gZ)), (mr, .inl (cI, 512, .inl gR))] 0 0 [(0, .ref m), (1, .int (nI y)), (2, .int mx)] 31 [.int (dI (wi mx.toInt64 0 1))]
  refine v_topi (y := dI true) (congrArg dI ((show wi mx.toInt64 0 1 = up mx (nI 1) by rw [show (1 : Int64) = (1 : Int32).toInt64 by decide, wi_up]; try rfl).trans (upT1 (n := 1) (by decide) hm))) ?_
  refine v_if_ne (tgt := 41) dX9_build_31 (by decide) (fun b31 => ?_) (fun b31 => absurd b31 (by decide))
  refine v_aload_n 0 dX9_build_41 rfl rfl ?_
  refine v_iload_n 1 dX9_build_42 rfl rfl ?_
  refine v_callV (as := [.int (nI y)]) (rest := []) (ws' := fun u => [(m, .inr (9, [.int (nI 0), .int fd0, .int pc0, .int dw0, .int lt0, .ref mt, .ref mw, .ref mb, .ref ml, .ref mq, .ref mz, .ref ms, .ref mr, .int ic0, .ref mi, .int tr0, .int sg0, .int ln0, .int at0, .int rd0, .int dr0, .int ma0, .ref mk, .int en0, .ref mj, .ref mn])), (mw, .inl (cJ, 512, .inr (.inl gW))), (ms, .inl (cJ, 64, .inr (.inl gS))), (mb, .inl (cI, 8, .inl gB)), (ml, .inl (cJ, 512, .inr (.inl gL))), (mq, .inl (cI, 512, .inl gQ)), (mz, .inl (cI, 8, .inl gZ)), (mr, .inl (cI, 512, .inl gR))]) m_SampleDeskModel_69 (kX9_sum X.l (m := m) (mt := mt) (mw := mw) (mb := mb) (ml := ml) (mq := mq) (mz := mz) (ms := ms) (mr := mr) (mi := mi) (mk := mk) (mj := mj) (mn := mn) (th := nI 0) (fd0 := fd0) (pc0 := pc0) (dw0 := dw0) (lt0 := lt0) (ic0 := ic0) (tr0 := tr0) (sg0 := sg0) (ln0 := ln0) (at0 := at0) (rd0 := rd0) (dr0 := dr0) (ma0 := ma0) (en0 := en0) (y := y) (gW := gW) (W := W) hW hWb hy) k_code_X9_sum [0, 1] 0 rfl rfl rfl rfl dX9_build_43 (Nat.le_of_ble_eq_true rfl) ⟨rfl, rfl, by decide, by decide⟩ ⟨Nat.zero_le _, Nat.zero_le _⟩ rfl rfl (fun _ => rfl) (v_mgU rfl (fun _ => rfl)) ?_
  intro uu c43
  try dsimp only at c43
  show V (gG D cI cJ cT) X (rmD 1) cX9_build 5 RX9 [(m, .inr (9, [.int (nI 0), .int fd0, .int pc0, .int dw0, .int lt0, .ref mt, .ref mw, .ref mb, .ref ml, .ref mq, .ref mz, .ref ms, .ref mr, .int ic0, .ref mi, .int tr0, .int sg0, .int ln0, .int at0, .int rd0, .int dr0, .int ma0, .ref mk, .int en0, .ref mj, .ref mn])), (mw, .inl (cJ, 512, .inr (.inl gW))), (ms, .inl (cJ, 64, .inr (.inl gS))), (mb, .inl (cI, 8, .inl gB)), (ml, .inl (cJ, 512, .inr (.inl gL))), (mq, .inl (cI, 512, .inl gQ)), (mz, .inl (cI, 8, .inl gZ)), (mr, .inl (cI, 512, .inl gR))] 0 0 [(0, .ref m), (1, .int (nI y)), (2, .int mx)] 46 [.long (lN (sumN W 64))]
  refine v_lstore_n (lv' := [(3, .long (lN (sumN W 64))), (0, .ref m), (1, .int (nI y)), (2, .int mx)]) dX9_build_46 rfl (by decide) rfl ?_
  refine v_lload_n 0 dX9_build_47 rfl rfl ?_
  refine v_lconst (v := lN 0) dX9_build_48 (by decide) ?_
  refine v_lcmp dX9_build_49 ?_
  refine v_if_ne (tgt := 60) dX9_build_50 (by decide) (fun b50 => absurd b50 (fun q => q ((z_eq (Nat.lt_trans (sum_lt hWb) (by decide)) (by decide)).mpr hs))) (fun b50 => ?_)
  refine v_aload_n 1 dX9_build_53 rfl rfl ?_
  refine v_iconst (v := nI 3) dX9_build_54 (by decide) ?_
  refine v_callV (as := [.int (nI 3)]) (rest := []) (ws' := fun u => [(m, .inr (9, [.int (nI 3), .int fd0, .int pc0, .int dw0, .int lt0, .ref mt, .ref mw, .ref mb, .ref ml, .ref mq, .ref mz, .ref ms, .ref mr, .int ic0, .ref mi, .int tr0, .int sg0, .int ln0, .int at0, .int rd0, .int dr0, .int ma0, .ref mk, .int en0, .ref mj, .ref mn])), (mw, .inl (cJ, 512, .inr (.inl gW))), (ms, .inl (cJ, 64, .inr (.inl gS))), (mb, .inl (cI, 8, .inl gB)), (ml, .inl (cJ, 512, .inr (.inl gL))), (mq, .inl (cI, 512, .inl gQ)), (mz, .inl (cI, 8, .inl gZ)), (mr, .inl (cI, 512, .inl gR))]) m_SampleDeskModel_54 (kX9_fail X.l (m := m) (mt := mt) (mw := mw) (mb := mb) (ml := ml) (mq := mq) (mz := mz) (ms := ms) (mr := mr) (mi := mi) (mk := mk) (mj := mj) (mn := mn) (th := nI 0) (fd0 := fd0) (pc0 := pc0) (dw0 := dw0) (lt0 := lt0) (ic0 := ic0) (tr0 := tr0) (sg0 := sg0) (ln0 := ln0) (at0 := at0) (rd0 := rd0) (dr0 := dr0) (ma0 := ma0) (en0 := en0) (cd := nI 3)) k_code_X9_fail [0] 0 rfl rfl rfl rfl dX9_build_55 (Nat.le_of_ble_eq_true rfl) ⟨rfl, rfl, by decide, by decide⟩ ⟨Nat.zero_le _, Nat.zero_le _⟩ rfl rfl (fun _ => rfl) (v_mgU rfl (fun _ => rfl)) ?_
  intro uu c55
  try dsimp only at c55
  show V (gG D cI cJ cT) X (rmD 1) cX9_build 5 RX9 [(m, .inr (9, [.int (nI 3), .int fd0, .int pc0, .int dw0, .int lt0, .ref mt, .ref mw, .ref mb, .ref ml, .ref mq, .ref mz, .ref ms, .ref mr, .int ic0, .ref mi, .int tr0, .int sg0, .int ln0, .int at0, .int rd0, .int dr0, .int ma0, .ref mk, .int en0, .ref mj, .ref mn])), (mw, .inl (cJ, 512, .inr (.inl gW))), (ms, .inl (cJ, 64, .inr (.inl gS))), (mb, .inl (cI, 8, .inl gB)), (ml, .inl (cJ, 512, .inr (.inl gL))), (mq, .inl (cI, 512, .inl gQ)), (mz, .inl (cI, 8, .inl gZ)), (mr, .inl (cI, 512, .inl gR))] 0 0 [(3, .long (lN (sumN W 64))), (0, .ref m), (1, .int (nI y)), (2, .int mx)] 58 [.int (nI 0)]
  refine v_i2l (v := lN 0) dX9_build_58 (nI_l (by omega)) ?_
  exact v_lret hE dX9_build_59 () (trivial) rfl rfl
set_option maxRecDepth 100000 in
set_option maxHeartbeats 1000000 in
theorem kX9_build_0a {D : va_G} {cI cJ cT : ClassId} (l : Launch) {m mt mw mb ml mq mz ms mr mi mk mj mn : Nat} {th fd0 pc0 dw0 lt0 ic0 tr0 sg0 ln0 at0 rd0 dr0 ma0 en0 : Int32} {y : Nat} {W : Nat → Nat} {gW gS gL : Nat → Int64} {gB gQ gZ gR : Nat → Int32} (hW : ∀ x, x < 64 → gW (64 * y + x) = lN (W x)) (hWb : ∀ x, x < 64 → W x < 2 ^ 31) (hy : y < 8) (hs : ¬ sumN W 64 = 0) : Fn (S := Unit) (gG D cI cJ cT) l yX9_build (.code yX9_build cX9_build 5 (some .long)) (rmD 2) [.ref m, .int (nI y), .int (nI 0)] [(m, .inr (9, [.int th, .int fd0, .int pc0, .int dw0, .int lt0, .ref mt, .ref mw, .ref mb, .ref ml, .ref mq, .ref mz, .ref ms, .ref mr, .int ic0, .ref mi, .int tr0, .int sg0, .int ln0, .int at0, .int rd0, .int dr0, .int ma0, .ref mk, .int en0, .ref mj, .ref mn])), (mw, .inl (cJ, 512, .inr (.inl gW))), (ms, .inl (cJ, 64, .inr (.inl gS))), (mb, .inl (cI, 8, .inl gB)), (ml, .inl (cJ, 512, .inr (.inl gL))), (mq, .inl (cI, 512, .inl gQ)), (mz, .inl (cI, 8, .inl gZ)), (mr, .inl (cI, 512, .inl gR))] (fun _ => True) (fun u => some (.long (lN (sumN W 64)))) (fun u => [(m, .inr (9, [.int (nI 0), .int fd0, .int pc0, .int dw0, .int lt0, .ref mt, .ref mw, .ref mb, .ref ml, .ref mq, .ref mz, .ref ms, .ref mr, .int ic0, .ref mi, .int tr0, .int sg0, .int ln0, .int at0, .int rd0, .int dr0, .int ma0, .ref mk, .int en0, .ref mj, .ref mn])), (mw, .inl (cJ, 512, .inr (.inl gW))), (ms, .inl (cJ, 64, .inr (.inl gS))), (mb, .inl (cI, 8, .inl (upd gB y (nI 1)))), (ml, .inl (cJ, 512, .inr (.inl gL))), (mq, .inl (cI, 512, .inl gQ)), (mz, .inl (cI, 8, .inl gZ)), (mr, .inl (cI, 512, .inl gR))]) := by
  refine Fn.intro (by decide) (Nat.le_of_ble_eq_true rfl) ?_
  intro X hX hE hin
  subst hX
  show V (gG D cI cJ cT) X _ cX9_build 5 RX9 _ 0 0 [(0, .ref m), (1, .int (nI y)), (2, .int (nI 0))] 0 []
  refine v_aload_n 0 dX9_build_0 rfl rfl ?_
  refine v_iconst (v := nI 0) dX9_build_1 (by decide) ?_
  refine v_put (ws' := [(m, .inr (9, [.int (nI 0), .int fd0, .int pc0, .int dw0, .int lt0, .ref mt, .ref mw, .ref mb, .ref ml, .ref mq, .ref mz, .ref ms, .ref mr, .int ic0, .ref mi, .int tr0, .int sg0, .int ln0, .int at0, .int rd0, .int dr0, .int ma0, .ref mk, .int en0, .ref mj, .ref mn])), (mw, .inl (cJ, 512, .inr (.inl gW))), (ms, .inl (cJ, 64, .inr (.inl gS))), (mb, .inl (cI, 8, .inl gB)), (ml, .inl (cJ, 512, .inr (.inl gL))), (mq, .inl (cI, 512, .inl gQ)), (mz, .inl (cI, 8, .inl gZ)), (mr, .inl (cI, 512, .inl gR))]) fw_SampleDeskModel_47 0 rfl (rfl) (rfl) (Nat.le_of_ble_eq_true rfl) dX9_build_2 rfl ?_
  refine v_iload_n 1 dX9_build_5 rfl rfl ?_
  refine v_i2l (v := (nI y).toInt64) dX9_build_6 (rfl) ?_
  refine v_lconst (v := 0) dX9_build_7 (by decide) ?_
  refine v_ldc2 (v := 7) k_c_SampleDeskModel_65 dX9_build_8 ?_
  refine v_callS (as := [.long ((nI y).toInt64), .long 0, .long 7]) (rest := []) (ws' := fun u => [(m, .inr (9, [.int (nI 0), .int fd0, .int pc0, .int dw0, .int lt0, .ref mt, .ref mw, .ref mb, .ref ml, .ref mq, .ref mz, .ref ms, .ref mr, .int ic0, .ref mi, .int tr0, .int sg0, .int ln0, .int at0, .int rd0, .int dr0, .int ma0, .ref mk, .int en0, .ref mj, .ref mn])), (mw, .inl (cJ, 512, .inr (.inl gW))), (ms, .inl (cJ, 64, .inr (.inl gS))), (mb, .inl (cI, 8, .inl gB)), (ml, .inl (cJ, 512, .inr (.inl gL))), (mq, .inl (cI, 512, .inl gQ)), (mz, .inl (cI, 8, .inl gZ)), (mr, .inl (cI, 512, .inl gR))]) m_SampleDeskModel_58 (kX9_within X.l (v := (nI y).toInt64) (lo := 0) (hi := 7)) k_code_X9_within [] rfl rfl dX9_build_11 (Nat.le_of_ble_eq_true rfl) ⟨rfl, rfl, by decide, by decide⟩ ⟨Nat.zero_le _, Nat.zero_le _⟩ rfl rfl (fun _ => rfl) (v_mgU rfl (fun _ => rfl)) ?_
  intro uu c11
  try dsimp only at c11
  show V (gG D cI cJ cT) X (rmD 2) cX9_build 5 RX9 [(m, .inr (9, [.int (nI 0), .int fd0, .int pc0, .int dw0, .int lt0, .ref mt, .ref mw, .ref mb, .ref ml, .ref mq, .ref mz, .ref ms, .ref mr, .int ic0, .ref mi, .int tr0, .int sg0, .int ln0, .int at0, .int rd0, .int dr0, .int ma0, .ref mk, .int en0, .ref mj, .ref mn])), (mw, .inl (cJ, 512, .inr (.inl gW))), (ms, .inl (cJ, 64, .inr (.inl gS))), (mb, .inl (cI, 8, .inl gB)), (ml, .inl (cJ, 512, .inr (.inl gL))), (mq, .inl (cI, 512, .inl gQ)), (mz, .inl (cI, 8, .inl gZ)), (mr, .inl (cI, 512, .inl gR))] 0 0 [(0, .ref m), (1, .int (nI y)), (2, .int (nI 0))] 14 [.int (dI (wi ((nI y).toInt64) 0 7))]
  refine v_topi (y := dI true) (congrArg dI ((show wi ((nI y).toInt64) 0 7 = up (nI y) 7 by rw [show (7 : Int64) = (7 : Int32).toInt64 by decide, wi_up]; try rfl).trans (upT1 (n := 7) (by decide) ⟨y, hy, rfl⟩))) ?_
  refine v_if_ne (tgt := 24) dX9_build_14 (by decide) (fun b14 => ?_) (fun b14 => absurd b14 (by decide))
  refine v_iload_n 2 dX9_build_24 rfl rfl ?_
  refine v_i2l (v := (nI 0).toInt64) dX9_build_25 (rfl) ?_
  refine v_lconst (v := 0) dX9_build_26 (by decide) ?_
  refine v_lconst (v := 1) dX9_build_27 (by decide) ?_
  refine v_callS (as := [.long ((nI 0).toInt64), .long 0, .long 1]) (rest := []) (ws' := fun u => [(m, .inr (9, [.int (nI 0), .int fd0, .int pc0, .int dw0, .int lt0, .ref mt, .ref mw, .ref mb, .ref ml, .ref mq, .ref mz, .ref ms, .ref mr, .int ic0, .ref mi, .int tr0, .int sg0, .int ln0, .int at0, .int rd0, .int dr0, .int ma0, .ref mk, .int en0, .ref mj, .ref mn])), (mw, .inl (cJ, 512, .inr (.inl gW))), (ms, .inl (cJ, 64, .inr (.inl gS))), (mb, .inl (cI, 8, .inl gB)), (ml, .inl (cJ, 512, .inr (.inl gL))), (mq, .inl (cI, 512, .inl gQ)), (mz, .inl (cI, 8, .inl gZ)), (mr, .inl (cI, 512, .inl gR))]) m_SampleDeskModel_58 (kX9_within X.l (v := (nI 0).toInt64) (lo := 0) (hi := 1)) k_code_X9_within [] rfl rfl dX9_build_28 (Nat.le_of_ble_eq_true rfl) ⟨rfl, rfl, by decide, by decide⟩ ⟨Nat.zero_le _, Nat.zero_le _⟩ rfl rfl (fun _ => rfl) (v_mgU rfl (fun _ => rfl)) ?_
  intro uu c28
  try dsimp only at c28
  show V (gG D cI cJ cT) X (rmD 2) cX9_build 5 RX9 [(m, .inr (9, [.int (nI 0), .int fd0, .int pc0, .int dw0, .int lt0, .ref mt, .ref mw, .ref mb, .ref ml, .ref mq, .ref mz, .ref ms, .ref mr, .int ic0, .ref mi, .int tr0, .int sg0, .int ln0, .int at0, .int rd0, .int dr0, .int ma0, .ref mk, .int en0, .ref mj, .ref mn])), (mw, .inl (cJ, 512, .inr (.inl gW))), (ms, .inl (cJ, 64, .inr (.inl gS))), (mb, .inl (cI, 8, .inl gB)), (ml, .inl (cJ, 512, .inr (.inl gL))), (mq, .inl (cI, 512, .inl gQ)), (mz, .inl (cI, 8, .inl gZ)), (mr, .inl (cI, 512, .inl gR))] 0 0 [(0, .ref m), (1, .int (nI y)), (2, .int (nI 0))] 31 [.int (dI (wi ((nI 0).toInt64) 0 1))]
  refine v_topi (y := dI true) (congrArg dI ((show wi ((nI 0).toInt64) 0 1 = up (nI 0) (nI 1) by rw [show (1 : Int64) = (1 : Int32).toInt64 by decide, wi_up]; try rfl).trans (upT1 (n := 1) (by decide) ⟨0, by decide, rfl⟩))) ?_
  refine v_if_ne (tgt := 41) dX9_build_31 (by decide) (fun b31 => ?_) (fun b31 => absurd b31 (by decide))
  refine v_aload_n 0 dX9_build_41 rfl rfl ?_
  refine v_iload_n 1 dX9_build_42 rfl rfl ?_
  refine v_callV (as := [.int (nI y)]) (rest := []) (ws' := fun u => [(m, .inr (9, [.int (nI 0), .int fd0, .int pc0, .int dw0, .int lt0, .ref mt, .ref mw, .ref mb, .ref ml, .ref mq, .ref mz, .ref ms, .ref mr, .int ic0, .ref mi, .int tr0, .int sg0, .int ln0, .int at0, .int rd0, .int dr0, .int ma0, .ref mk, .int en0, .ref mj, .ref mn])), (mw, .inl (cJ, 512, .inr (.inl gW))), (ms, .inl (cJ, 64, .inr (.inl gS))), (mb, .inl (cI, 8, .inl gB)), (ml, .inl (cJ, 512, .inr (.inl gL))), (mq, .inl (cI, 512, .inl gQ)), (mz, .inl (cI, 8, .inl gZ)), (mr, .inl (cI, 512, .inl gR))]) m_SampleDeskModel_69 (kX9_sum X.l (m := m) (mt := mt) (mw := mw) (mb := mb) (ml := ml) (mq := mq) (mz := mz) (ms := ms) (mr := mr) (mi := mi) (mk := mk) (mj := mj) (mn := mn) (th := nI 0) (fd0 := fd0) (pc0 := pc0) (dw0 := dw0) (lt0 := lt0) (ic0 := ic0) (tr0 := tr0) (sg0 := sg0) (ln0 := ln0) (at0 := at0) (rd0 := rd0) (dr0 := dr0) (ma0 := ma0) (en0 := en0) (y := y) (gW := gW) (W := W) hW hWb hy) k_code_X9_sum [0, 1] 0 rfl rfl rfl rfl dX9_build_43 (Nat.le_of_ble_eq_true rfl) ⟨rfl, rfl, by decide, by decide⟩ ⟨Nat.zero_le _, Nat.zero_le _⟩ rfl rfl (fun _ => rfl) (v_mgU rfl (fun _ => rfl)) ?_
  intro uu c43
  try dsimp only at c43
  show V (gG D cI cJ cT) X (rmD 2) cX9_build 5 RX9 [(m, .inr (9, [.int (nI 0), .int fd0, .int pc0, .int dw0, .int lt0, .ref mt, .ref mw, .ref mb, .ref ml, .ref mq, .ref mz, .ref ms, .ref mr, .int ic0, .ref mi, .int tr0, .int sg0, .int ln0, .int at0, .int rd0, .int dr0, .int ma0, .ref mk, .int en0, .ref mj, .ref mn])), (mw, .inl (cJ, 512, .inr (.inl gW))), (ms, .inl (cJ, 64, .inr (.inl gS))), (mb, .inl (cI, 8, .inl gB)), (ml, .inl (cJ, 512, .inr (.inl gL))), (mq, .inl (cI, 512, .inl gQ)), (mz, .inl (cI, 8, .inl gZ)), (mr, .inl (cI, 512, .inl gR))] 0 0 [(0, .ref m), (1, .int (nI y)), (2, .int (nI 0))] 46 [.long (lN (sumN W 64))]
  refine v_lstore_n (lv' := [(3, .long (lN (sumN W 64))), (0, .ref m), (1, .int (nI y)), (2, .int (nI 0))]) dX9_build_46 rfl (by decide) rfl ?_
  refine v_lload_n 0 dX9_build_47 rfl rfl ?_
  refine v_lconst (v := lN 0) dX9_build_48 (by decide) ?_
  refine v_lcmp dX9_build_49 ?_
  refine v_if_ne (tgt := 60) dX9_build_50 (by decide) (fun b50 => ?_) (fun b50 => absurd b50 (fun q => hs ((z_eq (Nat.lt_trans (sum_lt hWb) (by decide)) (by decide)).mp q)))
  refine v_aload_n 1 dX9_build_60 rfl rfl ?_
  refine v_get f_SampleDeskModel_17 0 rfl rfl dX9_build_61 ?_
  refine v_iload_n 2 dX9_build_64 rfl rfl ?_
  refine v_iload_n 3 dX9_build_65 rfl rfl ?_
  refine v_iconst (v := nI 1) dX9_build_66 (by decide) ?_
  refine v_iadd dX9_build_67 ?_
  refine v_topi (y := nI 1) (nI_add _ _) ?_
  refine v_iast (ws' := [(m, .inr (9, [.int (nI 0), .int fd0, .int pc0, .int dw0, .int lt0, .ref mt, .ref mw, .ref mb, .ref ml, .ref mq, .ref mz, .ref ms, .ref mr, .int ic0, .ref mi, .int tr0, .int sg0, .int ln0, .int at0, .int rd0, .int dr0, .int ma0, .ref mk, .int en0, .ref mj, .ref mn])), (mw, .inl (cJ, 512, .inr (.inl gW))), (ms, .inl (cJ, 64, .inr (.inl gS))), (mb, .inl (cI, 8, .inl (upd gB y (nI 1)))), (ml, .inl (cJ, 512, .inr (.inl gL))), (mq, .inl (cI, 512, .inl gQ)), (mz, .inl (cI, 8, .inl gZ)), (mr, .inl (cI, 512, .inl gR))]) 0 3 rfl rfl (by omega) (by omega) dX9_build_68 rfl ?_
  refine v_iload_n 3 dX9_build_69 rfl rfl ?_
  refine v_iconst (v := nI 1) dX9_build_70 (by decide) ?_
  refine v_icmp_ne (tgt := 79) dX9_build_71 (by decide) (fun b71 => ?_) (fun b71 => absurd b71 (by decide))
  refine v_lload_n 0 dX9_build_79 rfl rfl ?_
  exact v_lret hE dX9_build_80 () (trivial) rfl rfl
set_option maxRecDepth 100000 in
set_option maxHeartbeats 1000000 in
theorem kX9_build_0b {D : va_G} {cI cJ cT : ClassId} (l : Launch) {m mt mw mb ml mq mz ms mr mi mk mj mn : Nat} {th fd0 pc0 dw0 lt0 ic0 tr0 sg0 ln0 at0 rd0 dr0 ma0 en0 : Int32} {y : Nat} {W : Nat → Nat} {gW gS gL : Nat → Int64} {gB gQ gZ gR : Nat → Int32} (hW : ∀ x, x < 64 → gW (64 * y + x) = lN (W x)) (hWb : ∀ x, x < 64 → W x < 2 ^ 31) (hy : y < 8) (hs : ¬ sumN W 64 = 0) : Fn (S := (Nat → Int64) × (Nat → Int64) × (Nat → Int32) × (Nat → Int32)) (gG D cI cJ cT) l yX9_build (.code yX9_build cX9_build 5 (some .long)) (rmD 2) [.ref m, .int (nI y), .int (nI 1)] [(m, .inr (9, [.int th, .int fd0, .int pc0, .int dw0, .int lt0, .ref mt, .ref mw, .ref mb, .ref ml, .ref mq, .ref mz, .ref ms, .ref mr, .int ic0, .ref mi, .int tr0, .int sg0, .int ln0, .int at0, .int rd0, .int dr0, .int ma0, .ref mk, .int en0, .ref mj, .ref mn])), (mw, .inl (cJ, 512, .inr (.inl gW))), (ms, .inl (cJ, 64, .inr (.inl gS))), (mb, .inl (cI, 8, .inl gB)), (ml, .inl (cJ, 512, .inr (.inl gL))), (mq, .inl (cI, 512, .inl gQ)), (mz, .inl (cI, 8, .inl gZ)), (mr, .inl (cI, 512, .inl gR))] (fun u => (∀ x, x < topN W 64 → u.2.1 (64 * y + x) = lN ((alS W (topN W 64) (sumN W 64)).1 x)) ∧ (∀ x, x < topN W 64 → u.2.2.1 (64 * y + x) = nI ((alS W (topN W 64) (sumN W 64)).2 x)) ∧ (∀ z, ¬ (64 * y ≤ z ∧ z < 64 * y + 64) → u.2.1 z = gL z) ∧ ∀ z, ¬ (64 * y ≤ z ∧ z < 64 * y + 64) → u.2.2.1 z = gQ z) (fun u => some (.long (lN (sumN W 64)))) (fun u => [(m, .inr (9, [.int (nI 0), .int fd0, .int pc0, .int dw0, .int lt0, .ref mt, .ref mw, .ref mb, .ref ml, .ref mq, .ref mz, .ref ms, .ref mr, .int ic0, .ref mi, .int tr0, .int sg0, .int ln0, .int at0, .int rd0, .int dr0, .int ma0, .ref mk, .int en0, .ref mj, .ref mn])), (mw, .inl (cJ, 512, .inr (.inl gW))), (ms, .inl (cJ, 64, .inr (.inl u.1))), (mb, .inl (cI, 8, .inl (upd gB y (nI 2)))), (ml, .inl (cJ, 512, .inr (.inl u.2.1))), (mq, .inl (cI, 512, .inl u.2.2.1)), (mz, .inl (cI, 8, .inl (upd gZ y (nI (topN W 64))))), (mr, .inl (cI, 512, .inl u.2.2.2))]) := by
  refine Fn.intro (by decide) (Nat.le_of_ble_eq_true rfl) ?_
  intro X hX hE hin
  subst hX
  show V (gG D cI cJ cT) X _ cX9_build 5 RX9 _ 0 0 [(0, .ref m), (1, .int (nI y)), (2, .int (nI 1))] 0 []
  refine v_aload_n 0 dX9_build_0 rfl rfl ?_
  refine v_iconst (v := nI 0) dX9_build_1 (by decide) ?_
  refine v_put (ws' := [(m, .inr (9, [.int (nI 0), .int fd0, .int pc0, .int dw0, .int lt0, .ref mt, .ref mw, .ref mb, .ref ml, .ref mq, .ref mz, .ref ms, .ref mr, .int ic0, .ref mi, .int tr0, .int sg0, .int ln0, .int at0, .int rd0, .int dr0, .int ma0, .ref mk, .int en0, .ref mj, .ref mn])), (mw, .inl (cJ, 512, .inr (.inl gW))), (ms, .inl (cJ, 64, .inr (.inl gS))), (mb, .inl (cI, 8, .inl gB)), (ml, .inl (cJ, 512, .inr (.inl gL))), (mq, .inl (cI, 512, .inl gQ)), (mz, .inl (cI, 8, .inl gZ)), (mr, .inl (cI, 512, .inl gR))]) fw_SampleDeskModel_47 0 rfl (rfl) (rfl) (Nat.le_of_ble_eq_true rfl) dX9_build_2 rfl ?_
  refine v_iload_n 1 dX9_build_5 rfl rfl ?_
  refine v_i2l (v := (nI y).toInt64) dX9_build_6 (rfl) ?_
  refine v_lconst (v := 0) dX9_build_7 (by decide) ?_
  refine v_ldc2 (v := 7) k_c_SampleDeskModel_65 dX9_build_8 ?_
  refine v_callS (as := [.long ((nI y).toInt64), .long 0, .long 7]) (rest := []) (ws' := fun u => [(m, .inr (9, [.int (nI 0), .int fd0, .int pc0, .int dw0, .int lt0, .ref mt, .ref mw, .ref mb, .ref ml, .ref mq, .ref mz, .ref ms, .ref mr, .int ic0, .ref mi, .int tr0, .int sg0, .int ln0, .int at0, .int rd0, .int dr0, .int ma0, .ref mk, .int en0, .ref mj, .ref mn])), (mw, .inl (cJ, 512, .inr (.inl gW))), (ms, .inl (cJ, 64, .inr (.inl gS))), (mb, .inl (cI, 8, .inl gB)), (ml, .inl (cJ, 512, .inr (.inl gL))), (mq, .inl (cI, 512, .inl gQ)), (mz, .inl (cI, 8, .inl gZ)), (mr, .inl (cI, 512, .inl gR))]) m_SampleDeskModel_58 (kX9_within X.l (v := (nI y).toInt64) (lo := 0) (hi := 7)) k_code_X9_within [] rfl rfl dX9_build_11 (Nat.le_of_ble_eq_true rfl) ⟨rfl, rfl, by decide, by decide⟩ ⟨Nat.zero_le _, Nat.zero_le _⟩ rfl rfl (fun _ => rfl) (v_mgU rfl (fun _ => rfl)) ?_
  intro uu c11
  try dsimp only at c11
  show V (gG D cI cJ cT) X (rmD 2) cX9_build 5 RX9 [(m, .inr (9, [.int (nI 0), .int fd0, .int pc0, .int dw0, .int lt0, .ref mt, .ref mw, .ref mb, .ref ml, .ref mq, .ref mz, .ref ms, .ref mr, .int ic0, .ref mi, .int tr0, .int sg0, .int ln0, .int at0, .int rd0, .int dr0, .int ma0, .ref mk, .int en0, .ref mj, .ref mn])), (mw, .inl (cJ, 512, .inr (.inl gW))), (ms, .inl (cJ, 64, .inr (.inl gS))), (mb, .inl (cI, 8, .inl gB)), (ml, .inl (cJ, 512, .inr (.inl gL))), (mq, .inl (cI, 512, .inl gQ)), (mz, .inl (cI, 8, .inl gZ)), (mr, .inl (cI, 512, .inl gR))] 0 0 [(0, .ref m), (1, .int (nI y)), (2, .int (nI 1))] 14 [.int (dI (wi ((nI y).toInt64) 0 7))]
  refine v_topi (y := dI true) (congrArg dI ((show wi ((nI y).toInt64) 0 7 = up (nI y) 7 by rw [show (7 : Int64) = (7 : Int32).toInt64 by decide, wi_up]; try rfl).trans (upT1 (n := 7) (by decide) ⟨y, hy, rfl⟩))) ?_
  refine v_if_ne (tgt := 24) dX9_build_14 (by decide) (fun b14 => ?_) (fun b14 => absurd b14 (by decide))
  refine v_iload_n 2 dX9_build_24 rfl rfl ?_
  refine v_i2l (v := (nI 1).toInt64) dX9_build_25 (rfl) ?_
  refine v_lconst (v := 0) dX9_build_26 (by decide) ?_
  refine v_lconst (v := 1) dX9_build_27 (by decide) ?_
  refine v_callS (as := [.long ((nI 1).toInt64), .long 0, .long 1]) (rest := []) (ws' := fun u => [(m, .inr (9, [.int (nI 0), .int fd0, .int pc0, .int dw0, .int lt0, .ref mt, .ref mw, .ref mb, .ref ml, .ref mq, .ref mz, .ref ms, .ref mr, .int ic0, .ref mi, .int tr0, .int sg0, .int ln0, .int at0, .int rd0, .int dr0, .int ma0, .ref mk, .int en0, .ref mj, .ref mn])), (mw, .inl (cJ, 512, .inr (.inl gW))), (ms, .inl (cJ, 64, .inr (.inl gS))), (mb, .inl (cI, 8, .inl gB)), (ml, .inl (cJ, 512, .inr (.inl gL))), (mq, .inl (cI, 512, .inl gQ)), (mz, .inl (cI, 8, .inl gZ)), (mr, .inl (cI, 512, .inl gR))]) m_SampleDeskModel_58 (kX9_within X.l (v := (nI 1).toInt64) (lo := 0) (hi := 1)) k_code_X9_within [] rfl rfl dX9_build_28 (Nat.le_of_ble_eq_true rfl) ⟨rfl, rfl, by decide, by decide⟩ ⟨Nat.zero_le _, Nat.zero_le _⟩ rfl rfl (fun _ => rfl) (v_mgU rfl (fun _ => rfl)) ?_
  intro uu c28
  try dsimp only at c28
  show V (gG D cI cJ cT) X (rmD 2) cX9_build 5 RX9 [(m, .inr (9, [.int (nI 0), .int fd0, .int pc0, .int dw0, .int lt0, .ref mt, .ref mw, .ref mb, .ref ml, .ref mq, .ref mz, .ref ms, .ref mr, .int ic0, .ref mi, .int tr0, .int sg0, .int ln0, .int at0, .int rd0, .int dr0, .int ma0, .ref mk, .int en0, .ref mj, .ref mn])), (mw, .inl (cJ, 512, .inr (.inl gW))), (ms, .inl (cJ, 64, .inr (.inl gS))), (mb, .inl (cI, 8, .inl gB)), (ml, .inl (cJ, 512, .inr (.inl gL))), (mq, .inl (cI, 512, .inl gQ)), (mz, .inl (cI, 8, .inl gZ)), (mr, .inl (cI, 512, .inl gR))] 0 0 [(0, .ref m), (1, .int (nI y)), (2, .int (nI 1))] 31 [.int (dI (wi ((nI 1).toInt64) 0 1))]
  refine v_topi (y := dI true) (congrArg dI ((show wi ((nI 1).toInt64) 0 1 = up (nI 1) (nI 1) by rw [show (1 : Int64) = (1 : Int32).toInt64 by decide, wi_up]; try rfl).trans (upT1 (n := 1) (by decide) ⟨1, by decide, rfl⟩))) ?_
  refine v_if_ne (tgt := 41) dX9_build_31 (by decide) (fun b31 => ?_) (fun b31 => absurd b31 (by decide))
  refine v_aload_n 0 dX9_build_41 rfl rfl ?_
  refine v_iload_n 1 dX9_build_42 rfl rfl ?_
  refine v_callV (as := [.int (nI y)]) (rest := []) (ws' := fun u => [(m, .inr (9, [.int (nI 0), .int fd0, .int pc0, .int dw0, .int lt0, .ref mt, .ref mw, .ref mb, .ref ml, .ref mq, .ref mz, .ref ms, .ref mr, .int ic0, .ref mi, .int tr0, .int sg0, .int ln0, .int at0, .int rd0, .int dr0, .int ma0, .ref mk, .int en0, .ref mj, .ref mn])), (mw, .inl (cJ, 512, .inr (.inl gW))), (ms, .inl (cJ, 64, .inr (.inl gS))), (mb, .inl (cI, 8, .inl gB)), (ml, .inl (cJ, 512, .inr (.inl gL))), (mq, .inl (cI, 512, .inl gQ)), (mz, .inl (cI, 8, .inl gZ)), (mr, .inl (cI, 512, .inl gR))]) m_SampleDeskModel_69 (kX9_sum X.l (m := m) (mt := mt) (mw := mw) (mb := mb) (ml := ml) (mq := mq) (mz := mz) (ms := ms) (mr := mr) (mi := mi) (mk := mk) (mj := mj) (mn := mn) (th := nI 0) (fd0 := fd0) (pc0 := pc0) (dw0 := dw0) (lt0 := lt0) (ic0 := ic0) (tr0 := tr0) (sg0 := sg0) (ln0 := ln0) (at0 := at0) (rd0 := rd0) (dr0 := dr0) (ma0 := ma0) (en0 := en0) (y := y) (gW := gW) (W := W) hW hWb hy) k_code_X9_sum [0, 1] 0 rfl rfl rfl rfl dX9_build_43 (Nat.le_of_ble_eq_true rfl) ⟨rfl, rfl, by decide, by decide⟩ ⟨Nat.zero_le _, Nat.zero_le _⟩ rfl rfl (fun _ => rfl) (v_mgU rfl (fun _ => rfl)) ?_
  intro uu c43
  try dsimp only at c43
  show V (gG D cI cJ cT) X (rmD 2) cX9_build 5 RX9 [(m, .inr (9, [.int (nI 0), .int fd0, .int pc0, .int dw0, .int lt0, .ref mt, .ref mw, .ref mb, .ref ml, .ref mq, .ref mz, .ref ms, .ref mr, .int ic0, .ref mi, .int tr0, .int sg0, .int ln0, .int at0, .int rd0, .int dr0, .int ma0, .ref mk, .int en0, .ref mj, .ref mn])), (mw, .inl (cJ, 512, .inr (.inl gW))), (ms, .inl (cJ, 64, .inr (.inl gS))), (mb, .inl (cI, 8, .inl gB)), (ml, .inl (cJ, 512, .inr (.inl gL))), (mq, .inl (cI, 512, .inl gQ)), (mz, .inl (cI, 8, .inl gZ)), (mr, .inl (cI, 512, .inl gR))] 0 0 [(0, .ref m), (1, .int (nI y)), (2, .int (nI 1))] 46 [.long (lN (sumN W 64))]
  refine v_lstore_n (lv' := [(3, .long (lN (sumN W 64))), (0, .ref m), (1, .int (nI y)), (2, .int (nI 1))]) dX9_build_46 rfl (by decide) rfl ?_
  refine v_lload_n 0 dX9_build_47 rfl rfl ?_
  refine v_lconst (v := lN 0) dX9_build_48 (by decide) ?_
  refine v_lcmp dX9_build_49 ?_
  refine v_if_ne (tgt := 60) dX9_build_50 (by decide) (fun b50 => ?_) (fun b50 => absurd b50 (fun q => hs ((z_eq (Nat.lt_trans (sum_lt hWb) (by decide)) (by decide)).mp q)))
  refine v_aload_n 1 dX9_build_60 rfl rfl ?_
  refine v_get f_SampleDeskModel_17 0 rfl rfl dX9_build_61 ?_
  refine v_iload_n 2 dX9_build_64 rfl rfl ?_
  refine v_iload_n 3 dX9_build_65 rfl rfl ?_
  refine v_iconst (v := nI 1) dX9_build_66 (by decide) ?_
  refine v_iadd dX9_build_67 ?_
  refine v_topi (y := nI 2) (nI_add _ _) ?_
  refine v_iast (ws' := [(m, .inr (9, [.int (nI 0), .int fd0, .int pc0, .int dw0, .int lt0, .ref mt, .ref mw, .ref mb, .ref ml, .ref mq, .ref mz, .ref ms, .ref mr, .int ic0, .ref mi, .int tr0, .int sg0, .int ln0, .int at0, .int rd0, .int dr0, .int ma0, .ref mk, .int en0, .ref mj, .ref mn])), (mw, .inl (cJ, 512, .inr (.inl gW))), (ms, .inl (cJ, 64, .inr (.inl gS))), (mb, .inl (cI, 8, .inl (upd gB y (nI 2)))), (ml, .inl (cJ, 512, .inr (.inl gL))), (mq, .inl (cI, 512, .inl gQ)), (mz, .inl (cI, 8, .inl gZ)), (mr, .inl (cI, 512, .inl gR))]) 0 3 rfl rfl (by omega) (by omega) dX9_build_68 rfl ?_
  refine v_iload_n 3 dX9_build_69 rfl rfl ?_
  refine v_iconst (v := nI 1) dX9_build_70 (by decide) ?_
  refine v_icmp_ne (tgt := 79) dX9_build_71 (by decide) (fun b71 => absurd b71 (fun q => q rfl)) (fun b71 => ?_)
  refine v_aload_n 1 dX9_build_74 rfl rfl ?_
  refine v_iload_n 2 dX9_build_75 rfl rfl ?_
  refine v_callV (as := [.int (nI y)]) (rest := []) (ws' := fun u => [(m, .inr (9, [.int (nI 0), .int fd0, .int pc0, .int dw0, .int lt0, .ref mt, .ref mw, .ref mb, .ref ml, .ref mq, .ref mz, .ref ms, .ref mr, .int ic0, .ref mi, .int tr0, .int sg0, .int ln0, .int at0, .int rd0, .int dr0, .int ma0, .ref mk, .int en0, .ref mj, .ref mn])), (mw, .inl (cJ, 512, .inr (.inl gW))), (ms, .inl (cJ, 64, .inr (.inl u.1))), (mb, .inl (cI, 8, .inl (upd gB y (nI 2)))), (ml, .inl (cJ, 512, .inr (.inl u.2.1))), (mq, .inl (cI, 512, .inl u.2.2.1)), (mz, .inl (cI, 8, .inl (upd gZ y (nI (topN W 64))))), (mr, .inl (cI, 512, .inl u.2.2.2))]) m_SampleDeskModel_73 (kX9_findAliases X.l (m := m) (mt := mt) (mw := mw) (mb := mb) (ml := ml) (mq := mq) (mz := mz) (ms := ms) (mr := mr) (mi := mi) (mk := mk) (mj := mj) (mn := mn) (th := nI 0) (fd0 := fd0) (pc0 := pc0) (dw0 := dw0) (lt0 := lt0) (ic0 := ic0) (tr0 := tr0) (sg0 := sg0) (ln0 := ln0) (at0 := at0) (rd0 := rd0) (dr0 := dr0) (ma0 := ma0) (en0 := en0) (y := y) (gW := gW) (gL := gL) (gS := gS) (gQ := gQ) (gR := gR) (gZ := gZ) (W := W) hW hWb hy) k_code_X9_findAliases [0, 1, 2, 4, 5, 6, 7] 0 rfl rfl rfl rfl dX9_build_76 (Nat.le_of_ble_eq_true rfl) ⟨rfl, rfl, by decide, by decide⟩ ⟨Nat.zero_le _, Nat.zero_le _⟩ rfl rfl (fun _ => rfl) (v_mgU rfl (fun _ => rfl)) ?_
  intro u76 c76
  obtain ⟨g1, g2, g3, g4⟩ := u76
  try dsimp only at c76
  show V (gG D cI cJ cT) X (rmD 2) cX9_build 5 RX9 [(m, .inr (9, [.int (nI 0), .int fd0, .int pc0, .int dw0, .int lt0, .ref mt, .ref mw, .ref mb, .ref ml, .ref mq, .ref mz, .ref ms, .ref mr, .int ic0, .ref mi, .int tr0, .int sg0, .int ln0, .int at0, .int rd0, .int dr0, .int ma0, .ref mk, .int en0, .ref mj, .ref mn])), (mw, .inl (cJ, 512, .inr (.inl gW))), (ms, .inl (cJ, 64, .inr (.inl g1))), (mb, .inl (cI, 8, .inl (upd gB y (nI 2)))), (ml, .inl (cJ, 512, .inr (.inl g2))), (mq, .inl (cI, 512, .inl g3)), (mz, .inl (cI, 8, .inl (upd gZ y (nI (topN W 64))))), (mr, .inl (cI, 512, .inl g4))] 0 0 [(3, .long (lN (sumN W 64))), (0, .ref m), (1, .int (nI y)), (2, .int (nI 1))] 79 []
  refine v_lload_n 0 dX9_build_79 rfl rfl ?_
  exact v_lret hE dX9_build_80 (g1, g2, g3, g4) (c76) rfl rfl
set_option maxRecDepth 100000 in
set_option maxHeartbeats 1000000 in
theorem kX9_alias_1a {D : va_G} {cI cJ cT : ClassId} (l : Launch) {m mt mw mb ml mq mz ms mr mi mk mj mn : Nat} {th fd0 pc0 dw0 lt0 ic0 tr0 sg0 ln0 at0 rd0 dr0 ma0 en0 : Int32} {t i wh : Int32} {gL : Nat → Int64} {gB gQ gZ : Nat → Int32} (ht : ¬ inR t 8) : Fn (S := Unit) (gG D cI cJ cT) l yX9_alias (.code yX9_alias cX9_alias 4 (some .long)) (rmD 1) [.ref m, .int t, .int i, .int wh] [(m, .inr (9, [.int th, .int fd0, .int pc0, .int dw0, .int lt0, .ref mt, .ref mw, .ref mb, .ref ml, .ref mq, .ref mz, .ref ms, .ref mr, .int ic0, .ref mi, .int tr0, .int sg0, .int ln0, .int at0, .int rd0, .int dr0, .int ma0, .ref mk, .int en0, .ref mj, .ref mn])), (mb, .inl (cI, 8, .inl gB)), (ml, .inl (cJ, 512, .inr (.inl gL))), (mq, .inl (cI, 512, .inl gQ)), (mz, .inl (cI, 8, .inl gZ))] (fun _ => True) (fun u => some (.long (lN 0))) (fun u => [(m, .inr (9, [.int (nI 1), .int fd0, .int pc0, .int dw0, .int lt0, .ref mt, .ref mw, .ref mb, .ref ml, .ref mq, .ref mz, .ref ms, .ref mr, .int ic0, .ref mi, .int tr0, .int sg0, .int ln0, .int at0, .int rd0, .int dr0, .int ma0, .ref mk, .int en0, .ref mj, .ref mn])), (mb, .inl (cI, 8, .inl gB)), (ml, .inl (cJ, 512, .inr (.inl gL))), (mq, .inl (cI, 512, .inl gQ)), (mz, .inl (cI, 8, .inl gZ))]) := by
  refine Fn.intro (by decide) (Nat.le_of_ble_eq_true rfl) ?_
  intro X hX hE hin
  subst hX
  show V (gG D cI cJ cT) X _ cX9_alias 4 RX9 _ 0 0 [(0, .ref m), (1, .int t), (2, .int i), (3, .int wh)] 0 []
  refine v_aload_n 0 dX9_alias_0 rfl rfl ?_
  refine v_iconst (v := nI 0) dX9_alias_1 (by decide) ?_
  refine v_put (ws' := [(m, .inr (9, [.int (nI 0), .int fd0, .int pc0, .int dw0, .int lt0, .ref mt, .ref mw, .ref mb, .ref ml, .ref mq, .ref mz, .ref ms, .ref mr, .int ic0, .ref mi, .int tr0, .int sg0, .int ln0, .int at0, .int rd0, .int dr0, .int ma0, .ref mk, .int en0, .ref mj, .ref mn])), (mb, .inl (cI, 8, .inl gB)), (ml, .inl (cJ, 512, .inr (.inl gL))), (mq, .inl (cI, 512, .inl gQ)), (mz, .inl (cI, 8, .inl gZ))]) fw_SampleDeskModel_47 0 rfl (rfl) (rfl) (Nat.le_of_ble_eq_true rfl) dX9_alias_2 rfl ?_
  refine v_iload_n 1 dX9_alias_5 rfl rfl ?_
  refine v_i2l (v := t.toInt64) dX9_alias_6 (rfl) ?_
  refine v_lconst (v := 0) dX9_alias_7 (by decide) ?_
  refine v_ldc2 (v := 7) k_c_SampleDeskModel_65 dX9_alias_8 ?_
  refine v_callS (as := [.long t.toInt64, .long 0, .long 7]) (rest := []) (ws' := fun u => [(m, .inr (9, [.int (nI 0), .int fd0, .int pc0, .int dw0, .int lt0, .ref mt, .ref mw, .ref mb, .ref ml, .ref mq, .ref mz, .ref ms, .ref mr, .int ic0, .ref mi, .int tr0, .int sg0, .int ln0, .int at0, .int rd0, .int dr0, .int ma0, .ref mk, .int en0, .ref mj, .ref mn])), (mb, .inl (cI, 8, .inl gB)), (ml, .inl (cJ, 512, .inr (.inl gL))), (mq, .inl (cI, 512, .inl gQ)), (mz, .inl (cI, 8, .inl gZ))]) m_SampleDeskModel_58 (kX9_within X.l (v := t.toInt64) (lo := 0) (hi := 7)) k_code_X9_within [] rfl rfl dX9_alias_11 (Nat.le_of_ble_eq_true rfl) ⟨rfl, rfl, by decide, by decide⟩ ⟨Nat.zero_le _, Nat.zero_le _⟩ rfl rfl (fun _ => rfl) (v_mgU rfl (fun _ => rfl)) ?_
  intro uu c11
  try dsimp only at c11
  show V (gG D cI cJ cT) X (rmD 1) cX9_alias 4 RX9 [(m, .inr (9, [.int (nI 0), .int fd0, .int pc0, .int dw0, .int lt0, .ref mt, .ref mw, .ref mb, .ref ml, .ref mq, .ref mz, .ref ms, .ref mr, .int ic0, .ref mi, .int tr0, .int sg0, .int ln0, .int at0, .int rd0, .int dr0, .int ma0, .ref mk, .int en0, .ref mj, .ref mn])), (mb, .inl (cI, 8, .inl gB)), (ml, .inl (cJ, 512, .inr (.inl gL))), (mq, .inl (cI, 512, .inl gQ)), (mz, .inl (cI, 8, .inl gZ))] 0 0 [(0, .ref m), (1, .int t), (2, .int i), (3, .int wh)] 14 [.int (dI (wi t.toInt64 0 7))]
  refine v_topi (y := dI false) (congrArg dI ((show wi t.toInt64 0 7 = up t 7 by rw [show (7 : Int64) = (7 : Int32).toInt64 by decide, wi_up]; try rfl).trans (upF1 (n := 7) (by decide) ht))) ?_
  refine v_if_ne (tgt := 24) dX9_alias_14 (by decide) (fun b14 => absurd b14 (fun q => q rfl)) (fun b14 => ?_)
  refine v_aload_n 0 dX9_alias_17 rfl rfl ?_
  refine v_iconst (v := nI 1) dX9_alias_18 (by decide) ?_
  refine v_callV (as := [.int (nI 1)]) (rest := []) (ws' := fun u => [(m, .inr (9, [.int (nI 1), .int fd0, .int pc0, .int dw0, .int lt0, .ref mt, .ref mw, .ref mb, .ref ml, .ref mq, .ref mz, .ref ms, .ref mr, .int ic0, .ref mi, .int tr0, .int sg0, .int ln0, .int at0, .int rd0, .int dr0, .int ma0, .ref mk, .int en0, .ref mj, .ref mn])), (mb, .inl (cI, 8, .inl gB)), (ml, .inl (cJ, 512, .inr (.inl gL))), (mq, .inl (cI, 512, .inl gQ)), (mz, .inl (cI, 8, .inl gZ))]) m_SampleDeskModel_54 (kX9_fail X.l (m := m) (mt := mt) (mw := mw) (mb := mb) (ml := ml) (mq := mq) (mz := mz) (ms := ms) (mr := mr) (mi := mi) (mk := mk) (mj := mj) (mn := mn) (th := nI 0) (fd0 := fd0) (pc0 := pc0) (dw0 := dw0) (lt0 := lt0) (ic0 := ic0) (tr0 := tr0) (sg0 := sg0) (ln0 := ln0) (at0 := at0) (rd0 := rd0) (dr0 := dr0) (ma0 := ma0) (en0 := en0) (cd := nI 1)) k_code_X9_fail [0] 0 rfl rfl rfl rfl dX9_alias_19 (Nat.le_of_ble_eq_true rfl) ⟨rfl, rfl, by decide, by decide⟩ ⟨Nat.zero_le _, Nat.zero_le _⟩ rfl rfl (fun _ => rfl) (v_mgU rfl (fun _ => rfl)) ?_
  intro uu c19
  try dsimp only at c19
  show V (gG D cI cJ cT) X (rmD 1) cX9_alias 4 RX9 [(m, .inr (9, [.int (nI 1), .int fd0, .int pc0, .int dw0, .int lt0, .ref mt, .ref mw, .ref mb, .ref ml, .ref mq, .ref mz, .ref ms, .ref mr, .int ic0, .ref mi, .int tr0, .int sg0, .int ln0, .int at0, .int rd0, .int dr0, .int ma0, .ref mk, .int en0, .ref mj, .ref mn])), (mb, .inl (cI, 8, .inl gB)), (ml, .inl (cJ, 512, .inr (.inl gL))), (mq, .inl (cI, 512, .inl gQ)), (mz, .inl (cI, 8, .inl gZ))] 0 0 [(0, .ref m), (1, .int t), (2, .int i), (3, .int wh)] 22 [.int (nI 0)]
  refine v_i2l (v := lN 0) dX9_alias_22 (nI_l (by omega)) ?_
  exact v_lret hE dX9_alias_23 () (trivial) rfl rfl
set_option maxRecDepth 100000 in
set_option maxHeartbeats 1000000 in
theorem kX9_alias_2 {D : va_G} {cI cJ cT : ClassId} (l : Launch) {m mt mw mb ml mq mz ms mr mi mk mj mn : Nat} {th fd0 pc0 dw0 lt0 ic0 tr0 sg0 ln0 at0 rd0 dr0 ma0 en0 : Int32} {y M : Nat} {i wh : Int32} {gL : Nat → Int64} {gB gQ gZ : Nat → Int32} (hy : y < 8) (hB : gB y = nI M) (hM : M < 2) : Fn (S := Unit) (gG D cI cJ cT) l yX9_alias (.code yX9_alias cX9_alias 4 (some .long)) (rmD 1) [.ref m, .int (nI y), .int i, .int wh] [(m, .inr (9, [.int th, .int fd0, .int pc0, .int dw0, .int lt0, .ref mt, .ref mw, .ref mb, .ref ml, .ref mq, .ref mz, .ref ms, .ref mr, .int ic0, .ref mi, .int tr0, .int sg0, .int ln0, .int at0, .int rd0, .int dr0, .int ma0, .ref mk, .int en0, .ref mj, .ref mn])), (mb, .inl (cI, 8, .inl gB)), (ml, .inl (cJ, 512, .inr (.inl gL))), (mq, .inl (cI, 512, .inl gQ)), (mz, .inl (cI, 8, .inl gZ))] (fun _ => True) (fun u => some (.long (lN 0))) (fun u => [(m, .inr (9, [.int (nI 2), .int fd0, .int pc0, .int dw0, .int lt0, .ref mt, .ref mw, .ref mb, .ref ml, .ref mq, .ref mz, .ref ms, .ref mr, .int ic0, .ref mi, .int tr0, .int sg0, .int ln0, .int at0, .int rd0, .int dr0, .int ma0, .ref mk, .int en0, .ref mj, .ref mn])), (mb, .inl (cI, 8, .inl gB)), (ml, .inl (cJ, 512, .inr (.inl gL))), (mq, .inl (cI, 512, .inl gQ)), (mz, .inl (cI, 8, .inl gZ))]) := by
  refine Fn.intro (by decide) (Nat.le_of_ble_eq_true rfl) ?_
  intro X hX hE hin
  subst hX
  show V (gG D cI cJ cT) X _ cX9_alias 4 RX9 _ 0 0 [(0, .ref m), (1, .int (nI y)), (2, .int i), (3, .int wh)] 0 []
  refine v_aload_n 0 dX9_alias_0 rfl rfl ?_
  refine v_iconst (v := nI 0) dX9_alias_1 (by decide) ?_
  refine v_put (ws' := [(m, .inr (9, [.int (nI 0), .int fd0, .int pc0, .int dw0, .int lt0, .ref mt, .ref mw, .ref mb, .ref ml, .ref mq, .ref mz, .ref ms, .ref mr, .int ic0, .ref mi, .int tr0, .int sg0, .int ln0, .int at0, .int rd0, .int dr0, .int ma0, .ref mk, .int en0, .ref mj, .ref mn])), (mb, .inl (cI, 8, .inl gB)), (ml, .inl (cJ, 512, .inr (.inl gL))), (mq, .inl (cI, 512, .inl gQ)), (mz, .inl (cI, 8, .inl gZ))]) fw_SampleDeskModel_47 0 rfl (rfl) (rfl) (Nat.le_of_ble_eq_true rfl) dX9_alias_2 rfl ?_
  refine v_iload_n 1 dX9_alias_5 rfl rfl ?_
  refine v_i2l (v := (nI y).toInt64) dX9_alias_6 (rfl) ?_
  refine v_lconst (v := 0) dX9_alias_7 (by decide) ?_
  refine v_ldc2 (v := 7) k_c_SampleDeskModel_65 dX9_alias_8 ?_
  refine v_callS (as := [.long ((nI y).toInt64), .long 0, .long 7]) (rest := []) (ws' := fun u => [(m, .inr (9, [.int (nI 0), .int fd0, .int pc0, .int dw0, .int lt0, .ref mt, .ref mw, .ref mb, .ref ml, .ref mq, .ref mz, .ref ms, .ref mr, .int ic0, .ref mi, .int tr0, .int sg0, .int ln0, .int at0, .int rd0, .int dr0, .int ma0, .ref mk, .int en0, .ref mj, .ref mn])), (mb, .inl (cI, 8, .inl gB)), (ml, .inl (cJ, 512, .inr (.inl gL))), (mq, .inl (cI, 512, .inl gQ)), (mz, .inl (cI, 8, .inl gZ))]) m_SampleDeskModel_58 (kX9_within X.l (v := (nI y).toInt64) (lo := 0) (hi := 7)) k_code_X9_within [] rfl rfl dX9_alias_11 (Nat.le_of_ble_eq_true rfl) ⟨rfl, rfl, by decide, by decide⟩ ⟨Nat.zero_le _, Nat.zero_le _⟩ rfl rfl (fun _ => rfl) (v_mgU rfl (fun _ => rfl)) ?_
  intro uu c11
  try dsimp only at c11
  show V (gG D cI cJ cT) X (rmD 1) cX9_alias 4 RX9 [(m, .inr (9, [.int (nI 0), .int fd0, .int pc0, .int dw0, .int lt0, .ref mt, .ref mw, .ref mb, .ref ml, .ref mq, .ref mz, .ref ms, .ref mr, .int ic0, .ref mi, .int tr0, .int sg0, .int ln0, .int at0, .int rd0, .int dr0, .int ma0, .ref mk, .int en0, .ref mj, .ref mn])), (mb, .inl (cI, 8, .inl gB)), (ml, .inl (cJ, 512, .inr (.inl gL))), (mq, .inl (cI, 512, .inl gQ)), (mz, .inl (cI, 8, .inl gZ))] 0 0 [(0, .ref m), (1, .int (nI y)), (2, .int i), (3, .int wh)] 14 [.int (dI (wi ((nI y).toInt64) 0 7))]
  refine v_topi (y := dI true) (congrArg dI ((show wi ((nI y).toInt64) 0 7 = up (nI y) 7 by rw [show (7 : Int64) = (7 : Int32).toInt64 by decide, wi_up]; try rfl).trans (upT1 (n := 7) (by decide) ⟨y, hy, rfl⟩))) ?_
  refine v_if_ne (tgt := 24) dX9_alias_14 (by decide) (fun b14 => ?_) (fun b14 => absurd b14 (by decide))
  refine v_aload_n 0 dX9_alias_24 rfl rfl ?_
  refine v_get f_SampleDeskModel_17 0 rfl rfl dX9_alias_25 ?_
  refine v_iload_n 1 dX9_alias_28 rfl rfl ?_
  refine v_iald 0 1 rfl rfl (by omega) (by omega) dX9_alias_29 ?_
  refine v_topi (y := nI M) (hB) ?_
  refine v_iconst (v := nI 2) dX9_alias_30 (by decide) ?_
  refine v_icmp_eq (tgt := 41) dX9_alias_31 (by decide) (fun b31 => absurd b31 (fun q => absurd ((nI_eq (by omega) (by decide)).mp q) (by omega))) (fun b31 => ?_)
  refine v_aload_n 0 dX9_alias_34 rfl rfl ?_
  refine v_iconst (v := nI 2) dX9_alias_35 (by decide) ?_
  refine v_callV (as := [.int (nI 2)]) (rest := []) (ws' := fun u => [(m, .inr (9, [.int (nI 2), .int fd0, .int pc0, .int dw0, .int lt0, .ref mt, .ref mw, .ref mb, .ref ml, .ref mq, .ref mz, .ref ms, .ref mr, .int ic0, .ref mi, .int tr0, .int sg0, .int ln0, .int at0, .int rd0, .int dr0, .int ma0, .ref mk, .int en0, .ref mj, .ref mn])), (mb, .inl (cI, 8, .inl gB)), (ml, .inl (cJ, 512, .inr (.inl gL))), (mq, .inl (cI, 512, .inl gQ)), (mz, .inl (cI, 8, .inl gZ))]) m_SampleDeskModel_54 (kX9_fail X.l (m := m) (mt := mt) (mw := mw) (mb := mb) (ml := ml) (mq := mq) (mz := mz) (ms := ms) (mr := mr) (mi := mi) (mk := mk) (mj := mj) (mn := mn) (th := nI 0) (fd0 := fd0) (pc0 := pc0) (dw0 := dw0) (lt0 := lt0) (ic0 := ic0) (tr0 := tr0) (sg0 := sg0) (ln0 := ln0) (at0 := at0) (rd0 := rd0) (dr0 := dr0) (ma0 := ma0) (en0 := en0) (cd := nI 2)) k_code_X9_fail [0] 0 rfl rfl rfl rfl dX9_alias_36 (Nat.le_of_ble_eq_true rfl) ⟨rfl, rfl, by decide, by decide⟩ ⟨Nat.zero_le _, Nat.zero_le _⟩ rfl rfl (fun _ => rfl) (v_mgU rfl (fun _ => rfl)) ?_
  intro uu c36
  try dsimp only at c36
  show V (gG D cI cJ cT) X (rmD 1) cX9_alias 4 RX9 [(m, .inr (9, [.int (nI 2), .int fd0, .int pc0, .int dw0, .int lt0, .ref mt, .ref mw, .ref mb, .ref ml, .ref mq, .ref mz, .ref ms, .ref mr, .int ic0, .ref mi, .int tr0, .int sg0, .int ln0, .int at0, .int rd0, .int dr0, .int ma0, .ref mk, .int en0, .ref mj, .ref mn])), (mb, .inl (cI, 8, .inl gB)), (ml, .inl (cJ, 512, .inr (.inl gL))), (mq, .inl (cI, 512, .inl gQ)), (mz, .inl (cI, 8, .inl gZ))] 0 0 [(0, .ref m), (1, .int (nI y)), (2, .int i), (3, .int wh)] 39 [.int (nI 0)]
  refine v_i2l (v := lN 0) dX9_alias_39 (nI_l (by omega)) ?_
  exact v_lret hE dX9_alias_40 () (trivial) rfl rfl
set_option maxRecDepth 100000 in
set_option maxHeartbeats 1000000 in
theorem kX9_alias_1b {D : va_G} {cI cJ cT : ClassId} (l : Launch) {m mt mw mb ml mq mz ms mr mi mk mj mn : Nat} {th fd0 pc0 dw0 lt0 ic0 tr0 sg0 ln0 at0 rd0 dr0 ma0 en0 : Int32} {y : Nat} {i wh : Int32} {gL : Nat → Int64} {gB gQ gZ : Nat → Int32} (hy : y < 8) (hB : gB y = nI 2) (hw : ¬ inR wh 2) : Fn (S := Unit) (gG D cI cJ cT) l yX9_alias (.code yX9_alias cX9_alias 4 (some .long)) (rmD 1) [.ref m, .int (nI y), .int i, .int wh] [(m, .inr (9, [.int th, .int fd0, .int pc0, .int dw0, .int lt0, .ref mt, .ref mw, .ref mb, .ref ml, .ref mq, .ref mz, .ref ms, .ref mr, .int ic0, .ref mi, .int tr0, .int sg0, .int ln0, .int at0, .int rd0, .int dr0, .int ma0, .ref mk, .int en0, .ref mj, .ref mn])), (mb, .inl (cI, 8, .inl gB)), (ml, .inl (cJ, 512, .inr (.inl gL))), (mq, .inl (cI, 512, .inl gQ)), (mz, .inl (cI, 8, .inl gZ))] (fun _ => True) (fun u => some (.long (lN 0))) (fun u => [(m, .inr (9, [.int (nI 1), .int fd0, .int pc0, .int dw0, .int lt0, .ref mt, .ref mw, .ref mb, .ref ml, .ref mq, .ref mz, .ref ms, .ref mr, .int ic0, .ref mi, .int tr0, .int sg0, .int ln0, .int at0, .int rd0, .int dr0, .int ma0, .ref mk, .int en0, .ref mj, .ref mn])), (mb, .inl (cI, 8, .inl gB)), (ml, .inl (cJ, 512, .inr (.inl gL))), (mq, .inl (cI, 512, .inl gQ)), (mz, .inl (cI, 8, .inl gZ))]) := by
  refine Fn.intro (by decide) (Nat.le_of_ble_eq_true rfl) ?_
  intro X hX hE hin
  subst hX
  show V (gG D cI cJ cT) X _ cX9_alias 4 RX9 _ 0 0 [(0, .ref m), (1, .int (nI y)), (2, .int i), (3, .int wh)] 0 []
  refine v_aload_n 0 dX9_alias_0 rfl rfl ?_
  refine v_iconst (v := nI 0) dX9_alias_1 (by decide) ?_
  refine v_put (ws' := [(m, .inr (9, [.int (nI 0), .int fd0, .int pc0, .int dw0, .int lt0, .ref mt, .ref mw, .ref mb, .ref ml, .ref mq, .ref mz, .ref ms, .ref mr, .int ic0, .ref mi, .int tr0, .int sg0, .int ln0, .int at0, .int rd0, .int dr0, .int ma0, .ref mk, .int en0, .ref mj, .ref mn])), (mb, .inl (cI, 8, .inl gB)), (ml, .inl (cJ, 512, .inr (.inl gL))), (mq, .inl (cI, 512, .inl gQ)), (mz, .inl (cI, 8, .inl gZ))]) fw_SampleDeskModel_47 0 rfl (rfl) (rfl) (Nat.le_of_ble_eq_true rfl) dX9_alias_2 rfl ?_
  refine v_iload_n 1 dX9_alias_5 rfl rfl ?_
  refine v_i2l (v := (nI y).toInt64) dX9_alias_6 (rfl) ?_
  refine v_lconst (v := 0) dX9_alias_7 (by decide) ?_
  refine v_ldc2 (v := 7) k_c_SampleDeskModel_65 dX9_alias_8 ?_
  refine v_callS (as := [.long ((nI y).toInt64), .long 0, .long 7]) (rest := []) (ws' := fun u => [(m, .inr (9, [.int (nI 0), .int fd0, .int pc0, .int dw0, .int lt0, .ref mt, .ref mw, .ref mb, .ref ml, .ref mq, .ref mz, .ref ms, .ref mr, .int ic0, .ref mi, .int tr0, .int sg0, .int ln0, .int at0, .int rd0, .int dr0, .int ma0, .ref mk, .int en0, .ref mj, .ref mn])), (mb, .inl (cI, 8, .inl gB)), (ml, .inl (cJ, 512, .inr (.inl gL))), (mq, .inl (cI, 512, .inl gQ)), (mz, .inl (cI, 8, .inl gZ))]) m_SampleDeskModel_58 (kX9_within X.l (v := (nI y).toInt64) (lo := 0) (hi := 7)) k_code_X9_within [] rfl rfl dX9_alias_11 (Nat.le_of_ble_eq_true rfl) ⟨rfl, rfl, by decide, by decide⟩ ⟨Nat.zero_le _, Nat.zero_le _⟩ rfl rfl (fun _ => rfl) (v_mgU rfl (fun _ => rfl)) ?_
  intro uu c11
  try dsimp only at c11
  show V (gG D cI cJ cT) X (rmD 1) cX9_alias 4 RX9 [(m, .inr (9, [.int (nI 0), .int fd0, .int pc0, .int dw0, .int lt0, .ref mt, .ref mw, .ref mb, .ref ml, .ref mq, .ref mz, .ref ms, .ref mr, .int ic0, .ref mi, .int tr0, .int sg0, .int ln0, .int at0, .int rd0, .int dr0, .int ma0, .ref mk, .int en0, .ref mj, .ref mn])), (mb, .inl (cI, 8, .inl gB)), (ml, .inl (cJ, 512, .inr (.inl gL))), (mq, .inl (cI, 512, .inl gQ)), (mz, .inl (cI, 8, .inl gZ))] 0 0 [(0, .ref m), (1, .int (nI y)), (2, .int i), (3, .int wh)] 14 [.int (dI (wi ((nI y).toInt64) 0 7))]
  refine v_topi (y := dI true) (congrArg dI ((show wi ((nI y).toInt64) 0 7 = up (nI y) 7 by rw [show (7 : Int64) = (7 : Int32).toInt64 by decide, wi_up]; try rfl).trans (upT1 (n := 7) (by decide) ⟨y, hy, rfl⟩))) ?_
  refine v_if_ne (tgt := 24) dX9_alias_14 (by decide) (fun b14 => ?_) (fun b14 => absurd b14 (by decide))
  refine v_aload_n 0 dX9_alias_24 rfl rfl ?_
  refine v_get f_SampleDeskModel_17 0 rfl rfl dX9_alias_25 ?_
  refine v_iload_n 1 dX9_alias_28 rfl rfl ?_
  refine v_iald 0 1 rfl rfl (by omega) (by omega) dX9_alias_29 ?_
  refine v_topi (y := nI 2) (hB) ?_
  refine v_iconst (v := nI 2) dX9_alias_30 (by decide) ?_
  refine v_icmp_eq (tgt := 41) dX9_alias_31 (by decide) (fun b31 => ?_) (fun b31 => absurd (rfl) b31)
  refine v_iload_n 3 dX9_alias_41 rfl rfl ?_
  refine v_i2l (v := wh.toInt64) dX9_alias_42 (rfl) ?_
  refine v_lconst (v := 0) dX9_alias_43 (by decide) ?_
  refine v_lconst (v := 1) dX9_alias_44 (by decide) ?_
  refine v_callS (as := [.long wh.toInt64, .long 0, .long 1]) (rest := []) (ws' := fun u => [(m, .inr (9, [.int (nI 0), .int fd0, .int pc0, .int dw0, .int lt0, .ref mt, .ref mw, .ref mb, .ref ml, .ref mq, .ref mz, .ref ms, .ref mr, .int ic0, .ref mi, .int tr0, .int sg0, .int ln0, .int at0, .int rd0, .int dr0, .int ma0, .ref mk, .int en0, .ref mj, .ref mn])), (mb, .inl (cI, 8, .inl gB)), (ml, .inl (cJ, 512, .inr (.inl gL))), (mq, .inl (cI, 512, .inl gQ)), (mz, .inl (cI, 8, .inl gZ))]) m_SampleDeskModel_58 (kX9_within X.l (v := wh.toInt64) (lo := 0) (hi := 1)) k_code_X9_within [] rfl rfl dX9_alias_45 (Nat.le_of_ble_eq_true rfl) ⟨rfl, rfl, by decide, by decide⟩ ⟨Nat.zero_le _, Nat.zero_le _⟩ rfl rfl (fun _ => rfl) (v_mgU rfl (fun _ => rfl)) ?_
  intro uu c45
  try dsimp only at c45
  show V (gG D cI cJ cT) X (rmD 1) cX9_alias 4 RX9 [(m, .inr (9, [.int (nI 0), .int fd0, .int pc0, .int dw0, .int lt0, .ref mt, .ref mw, .ref mb, .ref ml, .ref mq, .ref mz, .ref ms, .ref mr, .int ic0, .ref mi, .int tr0, .int sg0, .int ln0, .int at0, .int rd0, .int dr0, .int ma0, .ref mk, .int en0, .ref mj, .ref mn])), (mb, .inl (cI, 8, .inl gB)), (ml, .inl (cJ, 512, .inr (.inl gL))), (mq, .inl (cI, 512, .inl gQ)), (mz, .inl (cI, 8, .inl gZ))] 0 0 [(0, .ref m), (1, .int (nI y)), (2, .int i), (3, .int wh)] 48 [.int (dI (wi wh.toInt64 0 1))]
  refine v_topi (y := dI false) (congrArg dI ((show wi wh.toInt64 0 1 = up wh (nI 1) by rw [show (1 : Int64) = (1 : Int32).toInt64 by decide, wi_up]; try rfl).trans (upF1 (n := 1) (by decide) hw))) ?_
  refine v_if_eq (tgt := 69) dX9_alias_48 (by decide) (fun b48 => ?_) (fun b48 => absurd (rfl) b48)
  refine v_aload_n 0 dX9_alias_69 rfl rfl ?_
  refine v_iconst (v := nI 1) dX9_alias_70 (by decide) ?_
  refine v_callV (as := [.int (nI 1)]) (rest := []) (ws' := fun u => [(m, .inr (9, [.int (nI 1), .int fd0, .int pc0, .int dw0, .int lt0, .ref mt, .ref mw, .ref mb, .ref ml, .ref mq, .ref mz, .ref ms, .ref mr, .int ic0, .ref mi, .int tr0, .int sg0, .int ln0, .int at0, .int rd0, .int dr0, .int ma0, .ref mk, .int en0, .ref mj, .ref mn])), (mb, .inl (cI, 8, .inl gB)), (ml, .inl (cJ, 512, .inr (.inl gL))), (mq, .inl (cI, 512, .inl gQ)), (mz, .inl (cI, 8, .inl gZ))]) m_SampleDeskModel_54 (kX9_fail X.l (m := m) (mt := mt) (mw := mw) (mb := mb) (ml := ml) (mq := mq) (mz := mz) (ms := ms) (mr := mr) (mi := mi) (mk := mk) (mj := mj) (mn := mn) (th := nI 0) (fd0 := fd0) (pc0 := pc0) (dw0 := dw0) (lt0 := lt0) (ic0 := ic0) (tr0 := tr0) (sg0 := sg0) (ln0 := ln0) (at0 := at0) (rd0 := rd0) (dr0 := dr0) (ma0 := ma0) (en0 := en0) (cd := nI 1)) k_code_X9_fail [0] 0 rfl rfl rfl rfl dX9_alias_71 (Nat.le_of_ble_eq_true rfl) ⟨rfl, rfl, by decide, by decide⟩ ⟨Nat.zero_le _, Nat.zero_le _⟩ rfl rfl (fun _ => rfl) (v_mgU rfl (fun _ => rfl)) ?_
  intro uu c71
  try dsimp only at c71
  show V (gG D cI cJ cT) X (rmD 1) cX9_alias 4 RX9 [(m, .inr (9, [.int (nI 1), .int fd0, .int pc0, .int dw0, .int lt0, .ref mt, .ref mw, .ref mb, .ref ml, .ref mq, .ref mz, .ref ms, .ref mr, .int ic0, .ref mi, .int tr0, .int sg0, .int ln0, .int at0, .int rd0, .int dr0, .int ma0, .ref mk, .int en0, .ref mj, .ref mn])), (mb, .inl (cI, 8, .inl gB)), (ml, .inl (cJ, 512, .inr (.inl gL))), (mq, .inl (cI, 512, .inl gQ)), (mz, .inl (cI, 8, .inl gZ))] 0 0 [(0, .ref m), (1, .int (nI y)), (2, .int i), (3, .int wh)] 74 [.int (nI 0)]
  refine v_i2l (v := lN 0) dX9_alias_74 (nI_l (by omega)) ?_
  exact v_lret hE dX9_alias_75 () (trivial) rfl rfl
set_option maxRecDepth 100000 in
set_option maxHeartbeats 1000000 in
theorem kX9_alias_1c {D : va_G} {cI cJ cT : ClassId} (l : Launch) {m mt mw mb ml mq mz ms mr mi mk mj mn : Nat} {th fd0 pc0 dw0 lt0 ic0 tr0 sg0 ln0 at0 rd0 dr0 ma0 en0 : Int32} {y tpn : Nat} {i wh : Int32} {gL : Nat → Int64} {gB gQ gZ : Nat → Int32} (hy : y < 8) (hB : gB y = nI 2) (hw : inR wh 2) (hZ : gZ y = nI tpn) (ht : tpn ≤ 64) (hi : ¬ inR i tpn) : Fn (S := Unit) (gG D cI cJ cT) l yX9_alias (.code yX9_alias cX9_alias 4 (some .long)) (rmD 1) [.ref m, .int (nI y), .int i, .int wh] [(m, .inr (9, [.int th, .int fd0, .int pc0, .int dw0, .int lt0, .ref mt, .ref mw, .ref mb, .ref ml, .ref mq, .ref mz, .ref ms, .ref mr, .int ic0, .ref mi, .int tr0, .int sg0, .int ln0, .int at0, .int rd0, .int dr0, .int ma0, .ref mk, .int en0, .ref mj, .ref mn])), (mb, .inl (cI, 8, .inl gB)), (ml, .inl (cJ, 512, .inr (.inl gL))), (mq, .inl (cI, 512, .inl gQ)), (mz, .inl (cI, 8, .inl gZ))] (fun _ => True) (fun u => some (.long (lN 0))) (fun u => [(m, .inr (9, [.int (nI 1), .int fd0, .int pc0, .int dw0, .int lt0, .ref mt, .ref mw, .ref mb, .ref ml, .ref mq, .ref mz, .ref ms, .ref mr, .int ic0, .ref mi, .int tr0, .int sg0, .int ln0, .int at0, .int rd0, .int dr0, .int ma0, .ref mk, .int en0, .ref mj, .ref mn])), (mb, .inl (cI, 8, .inl gB)), (ml, .inl (cJ, 512, .inr (.inl gL))), (mq, .inl (cI, 512, .inl gQ)), (mz, .inl (cI, 8, .inl gZ))]) := by
  refine Fn.intro (by decide) (Nat.le_of_ble_eq_true rfl) ?_
  intro X hX hE hin
  subst hX
  show V (gG D cI cJ cT) X _ cX9_alias 4 RX9 _ 0 0 [(0, .ref m), (1, .int (nI y)), (2, .int i), (3, .int wh)] 0 []
  refine v_aload_n 0 dX9_alias_0 rfl rfl ?_
  refine v_iconst (v := nI 0) dX9_alias_1 (by decide) ?_
  refine v_put (ws' := [(m, .inr (9, [.int (nI 0), .int fd0, .int pc0, .int dw0, .int lt0, .ref mt, .ref mw, .ref mb, .ref ml, .ref mq, .ref mz, .ref ms, .ref mr, .int ic0, .ref mi, .int tr0, .int sg0, .int ln0, .int at0, .int rd0, .int dr0, .int ma0, .ref mk, .int en0, .ref mj, .ref mn])), (mb, .inl (cI, 8, .inl gB)), (ml, .inl (cJ, 512, .inr (.inl gL))), (mq, .inl (cI, 512, .inl gQ)), (mz, .inl (cI, 8, .inl gZ))]) fw_SampleDeskModel_47 0 rfl (rfl) (rfl) (Nat.le_of_ble_eq_true rfl) dX9_alias_2 rfl ?_
  refine v_iload_n 1 dX9_alias_5 rfl rfl ?_
  refine v_i2l (v := (nI y).toInt64) dX9_alias_6 (rfl) ?_
  refine v_lconst (v := 0) dX9_alias_7 (by decide) ?_
  refine v_ldc2 (v := 7) k_c_SampleDeskModel_65 dX9_alias_8 ?_
  refine v_callS (as := [.long ((nI y).toInt64), .long 0, .long 7]) (rest := []) (ws' := fun u => [(m, .inr (9, [.int (nI 0), .int fd0, .int pc0, .int dw0, .int lt0, .ref mt, .ref mw, .ref mb, .ref ml, .ref mq, .ref mz, .ref ms, .ref mr, .int ic0, .ref mi, .int tr0, .int sg0, .int ln0, .int at0, .int rd0, .int dr0, .int ma0, .ref mk, .int en0, .ref mj, .ref mn])), (mb, .inl (cI, 8, .inl gB)), (ml, .inl (cJ, 512, .inr (.inl gL))), (mq, .inl (cI, 512, .inl gQ)), (mz, .inl (cI, 8, .inl gZ))]) m_SampleDeskModel_58 (kX9_within X.l (v := (nI y).toInt64) (lo := 0) (hi := 7)) k_code_X9_within [] rfl rfl dX9_alias_11 (Nat.le_of_ble_eq_true rfl) ⟨rfl, rfl, by decide, by decide⟩ ⟨Nat.zero_le _, Nat.zero_le _⟩ rfl rfl (fun _ => rfl) (v_mgU rfl (fun _ => rfl)) ?_
  intro uu c11
  try dsimp only at c11
  show V (gG D cI cJ cT) X (rmD 1) cX9_alias 4 RX9 [(m, .inr (9, [.int (nI 0), .int fd0, .int pc0, .int dw0, .int lt0, .ref mt, .ref mw, .ref mb, .ref ml, .ref mq, .ref mz, .ref ms, .ref mr, .int ic0, .ref mi, .int tr0, .int sg0, .int ln0, .int at0, .int rd0, .int dr0, .int ma0, .ref mk, .int en0, .ref mj, .ref mn])), (mb, .inl (cI, 8, .inl gB)), (ml, .inl (cJ, 512, .inr (.inl gL))), (mq, .inl (cI, 512, .inl gQ)), (mz, .inl (cI, 8, .inl gZ))] 0 0 [(0, .ref m), (1, .int (nI y)), (2, .int i), (3, .int wh)] 14 [.int (dI (wi ((nI y).toInt64) 0 7))]
  refine v_topi (y := dI true) (congrArg dI ((show wi ((nI y).toInt64) 0 7 = up (nI y) 7 by rw [show (7 : Int64) = (7 : Int32).toInt64 by decide, wi_up]; try rfl).trans (upT1 (n := 7) (by decide) ⟨y, hy, rfl⟩))) ?_
  refine v_if_ne (tgt := 24) dX9_alias_14 (by decide) (fun b14 => ?_) (fun b14 => absurd b14 (by decide))
  refine v_aload_n 0 dX9_alias_24 rfl rfl ?_
  refine v_get f_SampleDeskModel_17 0 rfl rfl dX9_alias_25 ?_
  refine v_iload_n 1 dX9_alias_28 rfl rfl ?_
  refine v_iald 0 1 rfl rfl (by omega) (by omega) dX9_alias_29 ?_
  refine v_topi (y := nI 2) (hB) ?_
  refine v_iconst (v := nI 2) dX9_alias_30 (by decide) ?_
  refine v_icmp_eq (tgt := 41) dX9_alias_31 (by decide) (fun b31 => ?_) (fun b31 => absurd (rfl) b31)
  refine v_iload_n 3 dX9_alias_41 rfl rfl ?_
  refine v_i2l (v := wh.toInt64) dX9_alias_42 (rfl) ?_
  refine v_lconst (v := 0) dX9_alias_43 (by decide) ?_
  refine v_lconst (v := 1) dX9_alias_44 (by decide) ?_
  refine v_callS (as := [.long wh.toInt64, .long 0, .long 1]) (rest := []) (ws' := fun u => [(m, .inr (9, [.int (nI 0), .int fd0, .int pc0, .int dw0, .int lt0, .ref mt, .ref mw, .ref mb, .ref ml, .ref mq, .ref mz, .ref ms, .ref mr, .int ic0, .ref mi, .int tr0, .int sg0, .int ln0, .int at0, .int rd0, .int dr0, .int ma0, .ref mk, .int en0, .ref mj, .ref mn])), (mb, .inl (cI, 8, .inl gB)), (ml, .inl (cJ, 512, .inr (.inl gL))), (mq, .inl (cI, 512, .inl gQ)), (mz, .inl (cI, 8, .inl gZ))]) m_SampleDeskModel_58 (kX9_within X.l (v := wh.toInt64) (lo := 0) (hi := 1)) k_code_X9_within [] rfl rfl dX9_alias_45 (Nat.le_of_ble_eq_true rfl) ⟨rfl, rfl, by decide, by decide⟩ ⟨Nat.zero_le _, Nat.zero_le _⟩ rfl rfl (fun _ => rfl) (v_mgU rfl (fun _ => rfl)) ?_
  intro uu c45
  try dsimp only at c45
  show V (gG D cI cJ cT) X (rmD 1) cX9_alias 4 RX9 [(m, .inr (9, [.int (nI 0), .int fd0, .int pc0, .int dw0, .int lt0, .ref mt, .ref mw, .ref mb, .ref ml, .ref mq, .ref mz, .ref ms, .ref mr, .int ic0, .ref mi, .int tr0, .int sg0, .int ln0, .int at0, .int rd0, .int dr0, .int ma0, .ref mk, .int en0, .ref mj, .ref mn])), (mb, .inl (cI, 8, .inl gB)), (ml, .inl (cJ, 512, .inr (.inl gL))), (mq, .inl (cI, 512, .inl gQ)), (mz, .inl (cI, 8, .inl gZ))] 0 0 [(0, .ref m), (1, .int (nI y)), (2, .int i), (3, .int wh)] 48 [.int (dI (wi wh.toInt64 0 1))]
  refine v_topi (y := dI true) (congrArg dI ((show wi wh.toInt64 0 1 = up wh (nI 1) by rw [show (1 : Int64) = (1 : Int32).toInt64 by decide, wi_up]; try rfl).trans (upT1 (n := 1) (by decide) hw))) ?_
  refine v_if_eq (tgt := 69) dX9_alias_48 (by decide) (fun b48 => absurd b48 (by decide)) (fun b48 => ?_)
  refine v_iload_n 2 dX9_alias_51 rfl rfl ?_
  refine v_i2l (v := i.toInt64) dX9_alias_52 (rfl) ?_
  refine v_lconst (v := 0) dX9_alias_53 (by decide) ?_
  refine v_aload_n 0 dX9_alias_54 rfl rfl ?_
  refine v_get f_SampleDeskModel_26 0 rfl rfl dX9_alias_55 ?_
  refine v_iload_n 1 dX9_alias_58 rfl rfl ?_
  refine v_iald 0 4 rfl rfl (by omega) (by omega) dX9_alias_59 ?_
  refine v_topi (y := nI tpn) (hZ) ?_
  refine v_iconst (v := nI 1) dX9_alias_60 (by decide) ?_
  refine v_isub dX9_alias_61 ?_
  refine v_i2l (v := (nI tpn - nI 1).toInt64) dX9_alias_62 (rfl) ?_
  refine v_callS (as := [.long i.toInt64, .long 0, .long ((nI tpn - nI 1).toInt64)]) (rest := []) (ws' := fun u => [(m, .inr (9, [.int (nI 0), .int fd0, .int pc0, .int dw0, .int lt0, .ref mt, .ref mw, .ref mb, .ref ml, .ref mq, .ref mz, .ref ms, .ref mr, .int ic0, .ref mi, .int tr0, .int sg0, .int ln0, .int at0, .int rd0, .int dr0, .int ma0, .ref mk, .int en0, .ref mj, .ref mn])), (mb, .inl (cI, 8, .inl gB)), (ml, .inl (cJ, 512, .inr (.inl gL))), (mq, .inl (cI, 512, .inl gQ)), (mz, .inl (cI, 8, .inl gZ))]) m_SampleDeskModel_58 (kX9_within X.l (v := i.toInt64) (lo := 0) (hi := (nI tpn - nI 1).toInt64)) k_code_X9_within [] rfl rfl dX9_alias_63 (Nat.le_of_ble_eq_true rfl) ⟨rfl, rfl, by decide, by decide⟩ ⟨Nat.zero_le _, Nat.zero_le _⟩ rfl rfl (fun _ => rfl) (v_mgU rfl (fun _ => rfl)) ?_
  intro uu c63
  try dsimp only at c63
  show V (gG D cI cJ cT) X (rmD 1) cX9_alias 4 RX9 [(m, .inr (9, [.int (nI 0), .int fd0, .int pc0, .int dw0, .int lt0, .ref mt, .ref mw, .ref mb, .ref ml, .ref mq, .ref mz, .ref ms, .ref mr, .int ic0, .ref mi, .int tr0, .int sg0, .int ln0, .int at0, .int rd0, .int dr0, .int ma0, .ref mk, .int en0, .ref mj, .ref mn])), (mb, .inl (cI, 8, .inl gB)), (ml, .inl (cJ, 512, .inr (.inl gL))), (mq, .inl (cI, 512, .inl gQ)), (mz, .inl (cI, 8, .inl gZ))] 0 0 [(0, .ref m), (1, .int (nI y)), (2, .int i), (3, .int wh)] 66 [.int (dI (wi i.toInt64 0 ((nI tpn - nI 1).toInt64)))]
  refine v_topi (y := dI false) (congrArg dI ((show wi i.toInt64 0 ((nI tpn - nI 1).toInt64) = up i (nI tpn - nI 1) by exact wi_up _ _).trans (upF (by omega) hi))) ?_
  refine v_if_ne (tgt := 76) dX9_alias_66 (by decide) (fun b66 => absurd b66 (fun q => q rfl)) (fun b66 => ?_)
  refine v_aload_n 0 dX9_alias_69 rfl rfl ?_
  refine v_iconst (v := nI 1) dX9_alias_70 (by decide) ?_
  refine v_callV (as := [.int (nI 1)]) (rest := []) (ws' := fun u => [(m, .inr (9, [.int (nI 1), .int fd0, .int pc0, .int dw0, .int lt0, .ref mt, .ref mw, .ref mb, .ref ml, .ref mq, .ref mz, .ref ms, .ref mr, .int ic0, .ref mi, .int tr0, .int sg0, .int ln0, .int at0, .int rd0, .int dr0, .int ma0, .ref mk, .int en0, .ref mj, .ref mn])), (mb, .inl (cI, 8, .inl gB)), (ml, .inl (cJ, 512, .inr (.inl gL))), (mq, .inl (cI, 512, .inl gQ)), (mz, .inl (cI, 8, .inl gZ))]) m_SampleDeskModel_54 (kX9_fail X.l (m := m) (mt := mt) (mw := mw) (mb := mb) (ml := ml) (mq := mq) (mz := mz) (ms := ms) (mr := mr) (mi := mi) (mk := mk) (mj := mj) (mn := mn) (th := nI 0) (fd0 := fd0) (pc0 := pc0) (dw0 := dw0) (lt0 := lt0) (ic0 := ic0) (tr0 := tr0) (sg0 := sg0) (ln0 := ln0) (at0 := at0) (rd0 := rd0) (dr0 := dr0) (ma0 := ma0) (en0 := en0) (cd := nI 1)) k_code_X9_fail [0] 0 rfl rfl rfl rfl dX9_alias_71 (Nat.le_of_ble_eq_true rfl) ⟨rfl, rfl, by decide, by decide⟩ ⟨Nat.zero_le _, Nat.zero_le _⟩ rfl rfl (fun _ => rfl) (v_mgU rfl (fun _ => rfl)) ?_
  intro uu c71
  try dsimp only at c71
  show V (gG D cI cJ cT) X (rmD 1) cX9_alias 4 RX9 [(m, .inr (9, [.int (nI 1), .int fd0, .int pc0, .int dw0, .int lt0, .ref mt, .ref mw, .ref mb, .ref ml, .ref mq, .ref mz, .ref ms, .ref mr, .int ic0, .ref mi, .int tr0, .int sg0, .int ln0, .int at0, .int rd0, .int dr0, .int ma0, .ref mk, .int en0, .ref mj, .ref mn])), (mb, .inl (cI, 8, .inl gB)), (ml, .inl (cJ, 512, .inr (.inl gL))), (mq, .inl (cI, 512, .inl gQ)), (mz, .inl (cI, 8, .inl gZ))] 0 0 [(0, .ref m), (1, .int (nI y)), (2, .int i), (3, .int wh)] 74 [.int (nI 0)]
  refine v_i2l (v := lN 0) dX9_alias_74 (nI_l (by omega)) ?_
  exact v_lret hE dX9_alias_75 () (trivial) rfl rfl
set_option maxRecDepth 100000 in
set_option maxHeartbeats 1000000 in
theorem kX9_alias_0 {D : va_G} {cI cJ cT : ClassId} (l : Launch) {m mt mw mb ml mq mz ms mr mi mk mj mn : Nat} {th fd0 pc0 dw0 lt0 ic0 tr0 sg0 ln0 at0 rd0 dr0 ma0 en0 : Int32} {y tpn i qq : Nat} {gL : Nat → Int64} {gB gQ gZ : Nat → Int32} (hy : y < 8) (hB : gB y = nI 2) (hw : qq < 2) (hZ : gZ y = nI tpn) (ht : tpn ≤ 64) (hi : i < tpn) : Fn (S := Unit) (gG D cI cJ cT) l yX9_alias (.code yX9_alias cX9_alias 4 (some .long)) (rmD 1) [.ref m, .int (nI y), .int (nI i), .int (nI qq)] [(m, .inr (9, [.int th, .int fd0, .int pc0, .int dw0, .int lt0, .ref mt, .ref mw, .ref mb, .ref ml, .ref mq, .ref mz, .ref ms, .ref mr, .int ic0, .ref mi, .int tr0, .int sg0, .int ln0, .int at0, .int rd0, .int dr0, .int ma0, .ref mk, .int en0, .ref mj, .ref mn])), (mb, .inl (cI, 8, .inl gB)), (ml, .inl (cJ, 512, .inr (.inl gL))), (mq, .inl (cI, 512, .inl gQ)), (mz, .inl (cI, 8, .inl gZ))] (fun _ => True) (fun u => some (.long (alV gQ gL (64 * y + i) qq))) (fun u => [(m, .inr (9, [.int (nI 0), .int fd0, .int pc0, .int dw0, .int lt0, .ref mt, .ref mw, .ref mb, .ref ml, .ref mq, .ref mz, .ref ms, .ref mr, .int ic0, .ref mi, .int tr0, .int sg0, .int ln0, .int at0, .int rd0, .int dr0, .int ma0, .ref mk, .int en0, .ref mj, .ref mn])), (mb, .inl (cI, 8, .inl gB)), (ml, .inl (cJ, 512, .inr (.inl gL))), (mq, .inl (cI, 512, .inl gQ)), (mz, .inl (cI, 8, .inl gZ))]) := by
  refine Fn.intro (by decide) (Nat.le_of_ble_eq_true rfl) ?_
  intro X hX hE hin
  subst hX
  show V (gG D cI cJ cT) X _ cX9_alias 4 RX9 _ 0 0 [(0, .ref m), (1, .int (nI y)), (2, .int (nI i)), (3, .int (nI qq))] 0 []
  refine v_aload_n 0 dX9_alias_0 rfl rfl ?_
  refine v_iconst (v := nI 0) dX9_alias_1 (by decide) ?_
  refine v_put (ws' := [(m, .inr (9, [.int (nI 0), .int fd0, .int pc0, .int dw0, .int lt0, .ref mt, .ref mw, .ref mb, .ref ml, .ref mq, .ref mz, .ref ms, .ref mr, .int ic0, .ref mi, .int tr0, .int sg0, .int ln0, .int at0, .int rd0, .int dr0, .int ma0, .ref mk, .int en0, .ref mj, .ref mn])), (mb, .inl (cI, 8, .inl gB)), (ml, .inl (cJ, 512, .inr (.inl gL))), (mq, .inl (cI, 512, .inl gQ)), (mz, .inl (cI, 8, .inl gZ))]) fw_SampleDeskModel_47 0 rfl (rfl) (rfl) (Nat.le_of_ble_eq_true rfl) dX9_alias_2 rfl ?_
  refine v_iload_n 1 dX9_alias_5 rfl rfl ?_
  refine v_i2l (v := (nI y).toInt64) dX9_alias_6 (rfl) ?_
  refine v_lconst (v := 0) dX9_alias_7 (by decide) ?_
  refine v_ldc2 (v := 7) k_c_SampleDeskModel_65 dX9_alias_8 ?_
  refine v_callS (as := [.long ((nI y).toInt64), .long 0, .long 7]) (rest := []) (ws' := fun u => [(m, .inr (9, [.int (nI 0), .int fd0, .int pc0, .int dw0, .int lt0, .ref mt, .ref mw, .ref mb, .ref ml, .ref mq, .ref mz, .ref ms, .ref mr, .int ic0, .ref mi, .int tr0, .int sg0, .int ln0, .int at0, .int rd0, .int dr0, .int ma0, .ref mk, .int en0, .ref mj, .ref mn])), (mb, .inl (cI, 8, .inl gB)), (ml, .inl (cJ, 512, .inr (.inl gL))), (mq, .inl (cI, 512, .inl gQ)), (mz, .inl (cI, 8, .inl gZ))]) m_SampleDeskModel_58 (kX9_within X.l (v := (nI y).toInt64) (lo := 0) (hi := 7)) k_code_X9_within [] rfl rfl dX9_alias_11 (Nat.le_of_ble_eq_true rfl) ⟨rfl, rfl, by decide, by decide⟩ ⟨Nat.zero_le _, Nat.zero_le _⟩ rfl rfl (fun _ => rfl) (v_mgU rfl (fun _ => rfl)) ?_
  intro uu c11
  try dsimp only at c11
  show V (gG D cI cJ cT) X (rmD 1) cX9_alias 4 RX9 [(m, .inr (9, [.int (nI 0), .int fd0, .int pc0, .int dw0, .int lt0, .ref mt, .ref mw, .ref mb, .ref ml, .ref mq, .ref mz, .ref ms, .ref mr, .int ic0, .ref mi, .int tr0, .int sg0, .int ln0, .int at0, .int rd0, .int dr0, .int ma0, .ref mk, .int en0, .ref mj, .ref mn])), (mb, .inl (cI, 8, .inl gB)), (ml, .inl (cJ, 512, .inr (.inl gL))), (mq, .inl (cI, 512, .inl gQ)), (mz, .inl (cI, 8, .inl gZ))] 0 0 [(0, .ref m), (1, .int (nI y)), (2, .int (nI i)), (3, .int (nI qq))] 14 [.int (dI (wi ((nI y).toInt64) 0 7))]
  refine v_topi (y := dI true) (congrArg dI ((show wi ((nI y).toInt64) 0 7 = up (nI y) 7 by rw [show (7 : Int64) = (7 : Int32).toInt64 by decide, wi_up]; try rfl).trans (upT1 (n := 7) (by decide) ⟨y, hy, rfl⟩))) ?_
  refine v_if_ne (tgt := 24) dX9_alias_14 (by decide) (fun b14 => ?_) (fun b14 => absurd b14 (by decide))
  refine v_aload_n 0 dX9_alias_24 rfl rfl ?_
  refine v_get f_SampleDeskModel_17 0 rfl rfl dX9_alias_25 ?_
  refine v_iload_n 1 dX9_alias_28 rfl rfl ?_
  refine v_iald 0 1 rfl rfl (by omega) (by omega) dX9_alias_29 ?_
  refine v_topi (y := nI 2) (hB) ?_
  refine v_iconst (v := nI 2) dX9_alias_30 (by decide) ?_
  refine v_icmp_eq (tgt := 41) dX9_alias_31 (by decide) (fun b31 => ?_) (fun b31 => absurd (rfl) b31)
  refine v_iload_n 3 dX9_alias_41 rfl rfl ?_
  refine v_i2l (v := (nI qq).toInt64) dX9_alias_42 (rfl) ?_
  refine v_lconst (v := 0) dX9_alias_43 (by decide) ?_
  refine v_lconst (v := 1) dX9_alias_44 (by decide) ?_
  refine v_callS (as := [.long ((nI qq).toInt64), .long 0, .long 1]) (rest := []) (ws' := fun u => [(m, .inr (9, [.int (nI 0), .int fd0, .int pc0, .int dw0, .int lt0, .ref mt, .ref mw, .ref mb, .ref ml, .ref mq, .ref mz, .ref ms, .ref mr, .int ic0, .ref mi, .int tr0, .int sg0, .int ln0, .int at0, .int rd0, .int dr0, .int ma0, .ref mk, .int en0, .ref mj, .ref mn])), (mb, .inl (cI, 8, .inl gB)), (ml, .inl (cJ, 512, .inr (.inl gL))), (mq, .inl (cI, 512, .inl gQ)), (mz, .inl (cI, 8, .inl gZ))]) m_SampleDeskModel_58 (kX9_within X.l (v := (nI qq).toInt64) (lo := 0) (hi := 1)) k_code_X9_within [] rfl rfl dX9_alias_45 (Nat.le_of_ble_eq_true rfl) ⟨rfl, rfl, by decide, by decide⟩ ⟨Nat.zero_le _, Nat.zero_le _⟩ rfl rfl (fun _ => rfl) (v_mgU rfl (fun _ => rfl)) ?_
  intro uu c45
  try dsimp only at c45
  show V (gG D cI cJ cT) X (rmD 1) cX9_alias 4 RX9 [(m, .inr (9, [.int (nI 0), .int fd0, .int pc0, .int dw0, .int lt0, .ref mt, .ref mw, .ref mb, .ref ml, .ref mq, .ref mz, .ref ms, .ref mr, .int ic0, .ref mi, .int tr0, .int sg0, .int ln0, .int at0, .int rd0, .int dr0, .int ma0, .ref mk, .int en0, .ref mj, .ref mn])), (mb, .inl (cI, 8, .inl gB)), (ml, .inl (cJ, 512, .inr (.inl gL))), (mq, .inl (cI, 512, .inl gQ)), (mz, .inl (cI, 8, .inl gZ))] 0 0 [(0, .ref m), (1, .int (nI y)), (2, .int (nI i)), (3, .int (nI qq))] 48 [.int (dI (wi ((nI qq).toInt64) 0 1))]
  refine v_topi (y := dI true) (congrArg dI ((show wi ((nI qq).toInt64) 0 1 = up (nI qq) (nI 1) by rw [show (1 : Int64) = (1 : Int32).toInt64 by decide, wi_up]; try rfl).trans (upT1 (n := 1) (by decide) ⟨qq, hw, rfl⟩))) ?_
  refine v_if_eq (tgt := 69) dX9_alias_48 (by decide) (fun b48 => absurd b48 (by decide)) (fun b48 => ?_)
  refine v_iload_n 2 dX9_alias_51 rfl rfl ?_
  refine v_i2l (v := (nI i).toInt64) dX9_alias_52 (rfl) ?_
  refine v_lconst (v := 0) dX9_alias_53 (by decide) ?_
  refine v_aload_n 0 dX9_alias_54 rfl rfl ?_
  refine v_get f_SampleDeskModel_26 0 rfl rfl dX9_alias_55 ?_
  refine v_iload_n 1 dX9_alias_58 rfl rfl ?_
  refine v_iald 0 4 rfl rfl (by omega) (by omega) dX9_alias_59 ?_
  refine v_topi (y := nI tpn) (hZ) ?_
  refine v_iconst (v := nI 1) dX9_alias_60 (by decide) ?_
  refine v_isub dX9_alias_61 ?_
  refine v_i2l (v := (nI tpn - nI 1).toInt64) dX9_alias_62 (rfl) ?_
  refine v_callS (as := [.long ((nI i).toInt64), .long 0, .long ((nI tpn - nI 1).toInt64)]) (rest := []) (ws' := fun u => [(m, .inr (9, [.int (nI 0), .int fd0, .int pc0, .int dw0, .int lt0, .ref mt, .ref mw, .ref mb, .ref ml, .ref mq, .ref mz, .ref ms, .ref mr, .int ic0, .ref mi, .int tr0, .int sg0, .int ln0, .int at0, .int rd0, .int dr0, .int ma0, .ref mk, .int en0, .ref mj, .ref mn])), (mb, .inl (cI, 8, .inl gB)), (ml, .inl (cJ, 512, .inr (.inl gL))), (mq, .inl (cI, 512, .inl gQ)), (mz, .inl (cI, 8, .inl gZ))]) m_SampleDeskModel_58 (kX9_within X.l (v := (nI i).toInt64) (lo := 0) (hi := (nI tpn - nI 1).toInt64)) k_code_X9_within [] rfl rfl dX9_alias_63 (Nat.le_of_ble_eq_true rfl) ⟨rfl, rfl, by decide, by decide⟩ ⟨Nat.zero_le _, Nat.zero_le _⟩ rfl rfl (fun _ => rfl) (v_mgU rfl (fun _ => rfl)) ?_
  intro uu c63
  try dsimp only at c63
  show V (gG D cI cJ cT) X (rmD 1) cX9_alias 4 RX9 [(m, .inr (9, [.int (nI 0), .int fd0, .int pc0, .int dw0, .int lt0, .ref mt, .ref mw, .ref mb, .ref ml, .ref mq, .ref mz, .ref ms, .ref mr, .int ic0, .ref mi, .int tr0, .int sg0, .int ln0, .int at0, .int rd0, .int dr0, .int ma0, .ref mk, .int en0, .ref mj, .ref mn])), (mb, .inl (cI, 8, .inl gB)), (ml, .inl (cJ, 512, .inr (.inl gL))), (mq, .inl (cI, 512, .inl gQ)), (mz, .inl (cI, 8, .inl gZ))] 0 0 [(0, .ref m), (1, .int (nI y)), (2, .int (nI i)), (3, .int (nI qq))] 66 [.int (dI (wi ((nI i).toInt64) 0 ((nI tpn - nI 1).toInt64)))]
  refine v_topi (y := dI true) (congrArg dI ((show wi ((nI i).toInt64) 0 ((nI tpn - nI 1).toInt64) = up (nI i) (nI tpn - nI 1) by exact wi_up _ _).trans (upT (by omega) ⟨i, hi, rfl⟩))) ?_
  refine v_if_ne (tgt := 76) dX9_alias_66 (by decide) (fun b66 => ?_) (fun b66 => absurd b66 (by decide))
  refine v_iload_n 3 dX9_alias_76 rfl rfl ?_
  refine v_if_ne (tgt := 94) dX9_alias_77 (by decide) (fun b77 => ?_) (fun b77 => ?_)
  · have b77 : ¬ (qq = 0) := fun q => b77 (((show nI qq = 0 ↔ qq = 0 from nI_eq (b := 0) (by omega) (by decide))).mpr q)
    refine v_aload_n 0 dX9_alias_94 rfl rfl ?_
    refine v_get f_SampleDeskModel_23 0 rfl rfl dX9_alias_95 ?_
    refine v_bipush (v := nI 64) dX9_alias_98 (by decide) ?_
    refine v_iload_n 1 dX9_alias_100 rfl rfl ?_
    refine v_imul dX9_alias_101 ?_
    refine v_topi (y := nI (64 * y)) (pk_mul _ _) ?_
    refine v_iload_n 2 dX9_alias_102 rfl rfl ?_
    refine v_iadd dX9_alias_103 ?_
    refine v_topi (y := nI (64 * y + i)) (nI_add _ _) ?_
    refine v_iald 0 3 rfl rfl (by omega) (by omega) dX9_alias_104 ?_
    refine v_i2l (v := (gQ (64 * y + i)).toInt64) dX9_alias_105 (rfl) ?_
    exact v_lret hE dX9_alias_106 () trivial (by unfold alV; first | rw [if_pos b77] | rw [if_neg b77]) rfl
  · have b77 : qq = 0 := ((show nI qq = 0 ↔ qq = 0 from nI_eq (b := 0) (by omega) (by decide))).mp b77
    refine v_aload_n 0 dX9_alias_80 rfl rfl ?_
    refine v_get f_SampleDeskModel_20 0 rfl rfl dX9_alias_81 ?_
    refine v_bipush (v := nI 64) dX9_alias_84 (by decide) ?_
    refine v_iload_n 1 dX9_alias_86 rfl rfl ?_
    refine v_imul dX9_alias_87 ?_
    refine v_topi (y := nI (64 * y)) (pk_mul _ _) ?_
    refine v_iload_n 2 dX9_alias_88 rfl rfl ?_
    refine v_iadd dX9_alias_89 ?_
    refine v_topi (y := nI (64 * y + i)) (nI_add _ _) ?_
    refine v_lald 1 2 rfl rfl (by omega) (by omega) dX9_alias_90 ?_
    refine v_goto (tgt := 106) dX9_alias_91 (by decide) ?_
    exact v_lret hE dX9_alias_106 () trivial (by unfold alV; first | rw [if_pos b77] | rw [if_neg b77]) rfl
set_option maxRecDepth 100000 in
set_option maxHeartbeats 1000000 in
theorem kX9_item_1 {D : va_G} {cI cJ cT : ClassId} (l : Launch) {m mt mw mb ml mq mz ms mr mi mk mj mn : Nat} {th fd0 pc0 dw0 lt0 ic0 tr0 sg0 ln0 at0 rd0 dr0 ma0 en0 : Int32} {ic : Nat} {at0q : Int32} {gI : Nat → Int32} (hic : ic ≤ 256) (hn : ¬ inR at0q ic) : Fn (S := Unit) (gG D cI cJ cT) l yX9_item (.code yX9_item cX9_item 2 (some .int)) (rmD 1) [.ref m, .int at0q] [(m, .inr (9, [.int th, .int fd0, .int pc0, .int dw0, .int lt0, .ref mt, .ref mw, .ref mb, .ref ml, .ref mq, .ref mz, .ref ms, .ref mr, .int (nI ic), .ref mi, .int tr0, .int sg0, .int ln0, .int at0, .int rd0, .int dr0, .int ma0, .ref mk, .int en0, .ref mj, .ref mn])), (mi, .inl (cI, 256, .inl gI))] (fun _ => True) (fun u => some (.int (nI 0))) (fun u => [(m, .inr (9, [.int (nI 1), .int fd0, .int pc0, .int dw0, .int lt0, .ref mt, .ref mw, .ref mb, .ref ml, .ref mq, .ref mz, .ref ms, .ref mr, .int (nI ic), .ref mi, .int tr0, .int sg0, .int ln0, .int at0, .int rd0, .int dr0, .int ma0, .ref mk, .int en0, .ref mj, .ref mn])), (mi, .inl (cI, 256, .inl gI))]) := by
  refine Fn.intro (by decide) (Nat.le_of_ble_eq_true rfl) ?_
  intro X hX hE hin
  subst hX
  show V (gG D cI cJ cT) X _ cX9_item 2 RX9 _ 0 0 [(0, .ref m), (1, .int at0q)] 0 []
  refine v_aload_n 0 dX9_item_0 rfl rfl ?_
  refine v_iconst (v := nI 0) dX9_item_1 (by decide) ?_
  refine v_put (ws' := [(m, .inr (9, [.int (nI 0), .int fd0, .int pc0, .int dw0, .int lt0, .ref mt, .ref mw, .ref mb, .ref ml, .ref mq, .ref mz, .ref ms, .ref mr, .int (nI ic), .ref mi, .int tr0, .int sg0, .int ln0, .int at0, .int rd0, .int dr0, .int ma0, .ref mk, .int en0, .ref mj, .ref mn])), (mi, .inl (cI, 256, .inl gI))]) fw_SampleDeskModel_47 0 rfl (rfl) (rfl) (Nat.le_of_ble_eq_true rfl) dX9_item_2 rfl ?_
  refine v_iload_n 1 dX9_item_5 rfl rfl ?_
  refine v_i2l (v := at0q.toInt64) dX9_item_6 (rfl) ?_
  refine v_lconst (v := 0) dX9_item_7 (by decide) ?_
  refine v_aload_n 0 dX9_item_8 rfl rfl ?_
  refine v_get f_SampleDeskModel_212 0 rfl rfl dX9_item_9 ?_
  refine v_iconst (v := nI 1) dX9_item_12 (by decide) ?_
  refine v_isub dX9_item_13 ?_
  refine v_i2l (v := (nI ic - nI 1).toInt64) dX9_item_14 (rfl) ?_
  refine v_callS (as := [.long at0q.toInt64, .long 0, .long ((nI ic - nI 1).toInt64)]) (rest := []) (ws' := fun u => [(m, .inr (9, [.int (nI 0), .int fd0, .int pc0, .int dw0, .int lt0, .ref mt, .ref mw, .ref mb, .ref ml, .ref mq, .ref mz, .ref ms, .ref mr, .int (nI ic), .ref mi, .int tr0, .int sg0, .int ln0, .int at0, .int rd0, .int dr0, .int ma0, .ref mk, .int en0, .ref mj, .ref mn])), (mi, .inl (cI, 256, .inl gI))]) m_SampleDeskModel_58 (kX9_within X.l (v := at0q.toInt64) (lo := 0) (hi := (nI ic - nI 1).toInt64)) k_code_X9_within [] rfl rfl dX9_item_15 (Nat.le_of_ble_eq_true rfl) ⟨rfl, rfl, by decide, by decide⟩ ⟨Nat.zero_le _, Nat.zero_le _⟩ rfl rfl (fun _ => rfl) (v_mgU rfl (fun _ => rfl)) ?_
  intro uu c15
  try dsimp only at c15
  show V (gG D cI cJ cT) X (rmD 1) cX9_item 2 RX9 [(m, .inr (9, [.int (nI 0), .int fd0, .int pc0, .int dw0, .int lt0, .ref mt, .ref mw, .ref mb, .ref ml, .ref mq, .ref mz, .ref ms, .ref mr, .int (nI ic), .ref mi, .int tr0, .int sg0, .int ln0, .int at0, .int rd0, .int dr0, .int ma0, .ref mk, .int en0, .ref mj, .ref mn])), (mi, .inl (cI, 256, .inl gI))] 0 0 [(0, .ref m), (1, .int at0q)] 18 [.int (dI (wi at0q.toInt64 0 ((nI ic - nI 1).toInt64)))]
  refine v_topi (y := dI false) (congrArg dI ((show wi at0q.toInt64 0 ((nI ic - nI 1).toInt64) = up at0q (nI ic - nI 1) by exact wi_up _ _).trans (upF (by omega) hn))) ?_
  refine v_if_eq (tgt := 30) dX9_item_18 (by decide) (fun b18 => ?_) (fun b18 => absurd (rfl) b18)
  refine v_aload_n 0 dX9_item_30 rfl rfl ?_
  refine v_iconst (v := nI 1) dX9_item_31 (by decide) ?_
  refine v_callV (as := [.int (nI 1)]) (rest := []) (ws' := fun u => [(m, .inr (9, [.int (nI 1), .int fd0, .int pc0, .int dw0, .int lt0, .ref mt, .ref mw, .ref mb, .ref ml, .ref mq, .ref mz, .ref ms, .ref mr, .int (nI ic), .ref mi, .int tr0, .int sg0, .int ln0, .int at0, .int rd0, .int dr0, .int ma0, .ref mk, .int en0, .ref mj, .ref mn])), (mi, .inl (cI, 256, .inl gI))]) m_SampleDeskModel_54 (kX9_fail X.l (m := m) (mt := mt) (mw := mw) (mb := mb) (ml := ml) (mq := mq) (mz := mz) (ms := ms) (mr := mr) (mi := mi) (mk := mk) (mj := mj) (mn := mn) (th := nI 0) (fd0 := fd0) (pc0 := pc0) (dw0 := dw0) (lt0 := lt0) (ic0 := nI ic) (tr0 := tr0) (sg0 := sg0) (ln0 := ln0) (at0 := at0) (rd0 := rd0) (dr0 := dr0) (ma0 := ma0) (en0 := en0) (cd := nI 1)) k_code_X9_fail [0] 0 rfl rfl rfl rfl dX9_item_32 (Nat.le_of_ble_eq_true rfl) ⟨rfl, rfl, by decide, by decide⟩ ⟨Nat.zero_le _, Nat.zero_le _⟩ rfl rfl (fun _ => rfl) (v_mgU rfl (fun _ => rfl)) ?_
  intro uu c32
  try dsimp only at c32
  show V (gG D cI cJ cT) X (rmD 1) cX9_item 2 RX9 [(m, .inr (9, [.int (nI 1), .int fd0, .int pc0, .int dw0, .int lt0, .ref mt, .ref mw, .ref mb, .ref ml, .ref mq, .ref mz, .ref ms, .ref mr, .int (nI ic), .ref mi, .int tr0, .int sg0, .int ln0, .int at0, .int rd0, .int dr0, .int ma0, .ref mk, .int en0, .ref mj, .ref mn])), (mi, .inl (cI, 256, .inl gI))] 0 0 [(0, .ref m), (1, .int at0q)] 35 [.int (nI 0)]
  exact v_iret hE dX9_item_35 () (trivial) rfl rfl
set_option maxRecDepth 100000 in
set_option maxHeartbeats 1000000 in
theorem kX9_item_0 {D : va_G} {cI cJ cT : ClassId} (l : Launch) {m mt mw mb ml mq mz ms mr mi mk mj mn : Nat} {th fd0 pc0 dw0 lt0 ic0 tr0 sg0 ln0 at0 rd0 dr0 ma0 en0 : Int32} {ic i : Nat} {gI : Nat → Int32} (hic : ic ≤ 256) (hi : i < ic) : Fn (S := Unit) (gG D cI cJ cT) l yX9_item (.code yX9_item cX9_item 2 (some .int)) (rmD 1) [.ref m, .int (nI i)] [(m, .inr (9, [.int th, .int fd0, .int pc0, .int dw0, .int lt0, .ref mt, .ref mw, .ref mb, .ref ml, .ref mq, .ref mz, .ref ms, .ref mr, .int (nI ic), .ref mi, .int tr0, .int sg0, .int ln0, .int at0, .int rd0, .int dr0, .int ma0, .ref mk, .int en0, .ref mj, .ref mn])), (mi, .inl (cI, 256, .inl gI))] (fun _ => True) (fun u => some (.int (gI i))) (fun u => [(m, .inr (9, [.int (nI 0), .int fd0, .int pc0, .int dw0, .int lt0, .ref mt, .ref mw, .ref mb, .ref ml, .ref mq, .ref mz, .ref ms, .ref mr, .int (nI ic), .ref mi, .int tr0, .int sg0, .int ln0, .int at0, .int rd0, .int dr0, .int ma0, .ref mk, .int en0, .ref mj, .ref mn])), (mi, .inl (cI, 256, .inl gI))]) := by
  refine Fn.intro (by decide) (Nat.le_of_ble_eq_true rfl) ?_
  intro X hX hE hin
  subst hX
  show V (gG D cI cJ cT) X _ cX9_item 2 RX9 _ 0 0 [(0, .ref m), (1, .int (nI i))] 0 []
  refine v_aload_n 0 dX9_item_0 rfl rfl ?_
  refine v_iconst (v := nI 0) dX9_item_1 (by decide) ?_
  refine v_put (ws' := [(m, .inr (9, [.int (nI 0), .int fd0, .int pc0, .int dw0, .int lt0, .ref mt, .ref mw, .ref mb, .ref ml, .ref mq, .ref mz, .ref ms, .ref mr, .int (nI ic), .ref mi, .int tr0, .int sg0, .int ln0, .int at0, .int rd0, .int dr0, .int ma0, .ref mk, .int en0, .ref mj, .ref mn])), (mi, .inl (cI, 256, .inl gI))]) fw_SampleDeskModel_47 0 rfl (rfl) (rfl) (Nat.le_of_ble_eq_true rfl) dX9_item_2 rfl ?_
  refine v_iload_n 1 dX9_item_5 rfl rfl ?_
  refine v_i2l (v := (nI i).toInt64) dX9_item_6 (rfl) ?_
  refine v_lconst (v := 0) dX9_item_7 (by decide) ?_
  refine v_aload_n 0 dX9_item_8 rfl rfl ?_
  refine v_get f_SampleDeskModel_212 0 rfl rfl dX9_item_9 ?_
  refine v_iconst (v := nI 1) dX9_item_12 (by decide) ?_
  refine v_isub dX9_item_13 ?_
  refine v_i2l (v := (nI ic - nI 1).toInt64) dX9_item_14 (rfl) ?_
  refine v_callS (as := [.long ((nI i).toInt64), .long 0, .long ((nI ic - nI 1).toInt64)]) (rest := []) (ws' := fun u => [(m, .inr (9, [.int (nI 0), .int fd0, .int pc0, .int dw0, .int lt0, .ref mt, .ref mw, .ref mb, .ref ml, .ref mq, .ref mz, .ref ms, .ref mr, .int (nI ic), .ref mi, .int tr0, .int sg0, .int ln0, .int at0, .int rd0, .int dr0, .int ma0, .ref mk, .int en0, .ref mj, .ref mn])), (mi, .inl (cI, 256, .inl gI))]) m_SampleDeskModel_58 (kX9_within X.l (v := (nI i).toInt64) (lo := 0) (hi := (nI ic - nI 1).toInt64)) k_code_X9_within [] rfl rfl dX9_item_15 (Nat.le_of_ble_eq_true rfl) ⟨rfl, rfl, by decide, by decide⟩ ⟨Nat.zero_le _, Nat.zero_le _⟩ rfl rfl (fun _ => rfl) (v_mgU rfl (fun _ => rfl)) ?_
  intro uu c15
  try dsimp only at c15
  show V (gG D cI cJ cT) X (rmD 1) cX9_item 2 RX9 [(m, .inr (9, [.int (nI 0), .int fd0, .int pc0, .int dw0, .int lt0, .ref mt, .ref mw, .ref mb, .ref ml, .ref mq, .ref mz, .ref ms, .ref mr, .int (nI ic), .ref mi, .int tr0, .int sg0, .int ln0, .int at0, .int rd0, .int dr0, .int ma0, .ref mk, .int en0, .ref mj, .ref mn])), (mi, .inl (cI, 256, .inl gI))] 0 0 [(0, .ref m), (1, .int (nI i))] 18 [.int (dI (wi ((nI i).toInt64) 0 ((nI ic - nI 1).toInt64)))]
  refine v_topi (y := dI true) (congrArg dI ((show wi ((nI i).toInt64) 0 ((nI ic - nI 1).toInt64) = up (nI i) (nI ic - nI 1) by exact wi_up _ _).trans (upT (by omega) ⟨i, hi, rfl⟩))) ?_
  refine v_if_eq (tgt := 30) dX9_item_18 (by decide) (fun b18 => absurd b18 (by decide)) (fun b18 => ?_)
  refine v_aload_n 0 dX9_item_21 rfl rfl ?_
  refine v_get f_SampleDeskModel_35 0 rfl rfl dX9_item_22 ?_
  refine v_iload_n 1 dX9_item_25 rfl rfl ?_
  refine v_iald 0 1 rfl rfl (by omega) (by omega) dX9_item_26 ?_
  refine v_goto (tgt := 35) dX9_item_27 (by decide) ?_
  exact v_iret hE dX9_item_35 () (trivial) rfl rfl
set_option maxRecDepth 100000 in
set_option maxHeartbeats 1000000 in
theorem kX9_journal_1a {D : va_G} {cI cJ cT : ClassId} (l : Launch) {m mt mw mb ml mq mz ms mr mi mk mj mn : Nat} {th fd0 pc0 dw0 lt0 ic0 tr0 sg0 ln0 at0 rd0 dr0 ma0 en0 : Int32} {en : Nat} {at0q wh : Int32} {gJ : Nat → Int32} {gN : Nat → Int64} (hen : en ≤ 100) (hn : ¬ inR at0q en) : Fn (S := Unit) (gG D cI cJ cT) l yX9_journal (.code yX9_journal cX9_journal 3 (some .long)) (rmD 1) [.ref m, .int at0q, .int wh] [(m, .inr (9, [.int th, .int fd0, .int pc0, .int dw0, .int lt0, .ref mt, .ref mw, .ref mb, .ref ml, .ref mq, .ref mz, .ref ms, .ref mr, .int ic0, .ref mi, .int tr0, .int sg0, .int ln0, .int at0, .int rd0, .int dr0, .int ma0, .ref mk, .int (nI en), .ref mj, .ref mn])), (mj, .inl (cI, 700, .inl gJ)), (mn, .inl (cJ, 100, .inr (.inl gN)))] (fun _ => True) (fun u => some (.long (lN 0))) (fun u => [(m, .inr (9, [.int (nI 1), .int fd0, .int pc0, .int dw0, .int lt0, .ref mt, .ref mw, .ref mb, .ref ml, .ref mq, .ref mz, .ref ms, .ref mr, .int ic0, .ref mi, .int tr0, .int sg0, .int ln0, .int at0, .int rd0, .int dr0, .int ma0, .ref mk, .int (nI en), .ref mj, .ref mn])), (mj, .inl (cI, 700, .inl gJ)), (mn, .inl (cJ, 100, .inr (.inl gN)))]) := by
  refine Fn.intro (by decide) (Nat.le_of_ble_eq_true rfl) ?_
  intro X hX hE hin
  subst hX
  show V (gG D cI cJ cT) X _ cX9_journal 3 RX9 _ 0 0 [(0, .ref m), (1, .int at0q), (2, .int wh)] 0 []
  refine v_aload_n 0 dX9_journal_0 rfl rfl ?_
  refine v_iconst (v := nI 0) dX9_journal_1 (by decide) ?_
  refine v_put (ws' := [(m, .inr (9, [.int (nI 0), .int fd0, .int pc0, .int dw0, .int lt0, .ref mt, .ref mw, .ref mb, .ref ml, .ref mq, .ref mz, .ref ms, .ref mr, .int ic0, .ref mi, .int tr0, .int sg0, .int ln0, .int at0, .int rd0, .int dr0, .int ma0, .ref mk, .int (nI en), .ref mj, .ref mn])), (mj, .inl (cI, 700, .inl gJ)), (mn, .inl (cJ, 100, .inr (.inl gN)))]) fw_SampleDeskModel_47 0 rfl (rfl) (rfl) (Nat.le_of_ble_eq_true rfl) dX9_journal_2 rfl ?_
  refine v_iload_n 1 dX9_journal_5 rfl rfl ?_
  refine v_i2l (v := at0q.toInt64) dX9_journal_6 (rfl) ?_
  refine v_lconst (v := 0) dX9_journal_7 (by decide) ?_
  refine v_aload_n 0 dX9_journal_8 rfl rfl ?_
  refine v_get f_SampleDeskModel_191 0 rfl rfl dX9_journal_9 ?_
  refine v_iconst (v := nI 1) dX9_journal_12 (by decide) ?_
  refine v_isub dX9_journal_13 ?_
  refine v_i2l (v := (nI en - nI 1).toInt64) dX9_journal_14 (rfl) ?_
  refine v_callS (as := [.long at0q.toInt64, .long 0, .long ((nI en - nI 1).toInt64)]) (rest := []) (ws' := fun u => [(m, .inr (9, [.int (nI 0), .int fd0, .int pc0, .int dw0, .int lt0, .ref mt, .ref mw, .ref mb, .ref ml, .ref mq, .ref mz, .ref ms, .ref mr, .int ic0, .ref mi, .int tr0, .int sg0, .int ln0, .int at0, .int rd0, .int dr0, .int ma0, .ref mk, .int (nI en), .ref mj, .ref mn])), (mj, .inl (cI, 700, .inl gJ)), (mn, .inl (cJ, 100, .inr (.inl gN)))]) m_SampleDeskModel_58 (kX9_within X.l (v := at0q.toInt64) (lo := 0) (hi := (nI en - nI 1).toInt64)) k_code_X9_within [] rfl rfl dX9_journal_15 (Nat.le_of_ble_eq_true rfl) ⟨rfl, rfl, by decide, by decide⟩ ⟨Nat.zero_le _, Nat.zero_le _⟩ rfl rfl (fun _ => rfl) (v_mgU rfl (fun _ => rfl)) ?_
  intro uu c15
  try dsimp only at c15
  show V (gG D cI cJ cT) X (rmD 1) cX9_journal 3 RX9 [(m, .inr (9, [.int (nI 0), .int fd0, .int pc0, .int dw0, .int lt0, .ref mt, .ref mw, .ref mb, .ref ml, .ref mq, .ref mz, .ref ms, .ref mr, .int ic0, .ref mi, .int tr0, .int sg0, .int ln0, .int at0, .int rd0, .int dr0, .int ma0, .ref mk, .int (nI en), .ref mj, .ref mn])), (mj, .inl (cI, 700, .inl gJ)), (mn, .inl (cJ, 100, .inr (.inl gN)))] 0 0 [(0, .ref m), (1, .int at0q), (2, .int wh)] 18 [.int (dI (wi at0q.toInt64 0 ((nI en - nI 1).toInt64)))]
  refine v_topi (y := dI false) (congrArg dI ((show wi at0q.toInt64 0 ((nI en - nI 1).toInt64) = up at0q (nI en - nI 1) by exact wi_up _ _).trans (upF (by omega) hn))) ?_
  refine v_if_eq (tgt := 33) dX9_journal_18 (by decide) (fun b18 => ?_) (fun b18 => absurd (rfl) b18)
  refine v_aload_n 0 dX9_journal_33 rfl rfl ?_
  refine v_iconst (v := nI 1) dX9_journal_34 (by decide) ?_
  refine v_callV (as := [.int (nI 1)]) (rest := []) (ws' := fun u => [(m, .inr (9, [.int (nI 1), .int fd0, .int pc0, .int dw0, .int lt0, .ref mt, .ref mw, .ref mb, .ref ml, .ref mq, .ref mz, .ref ms, .ref mr, .int ic0, .ref mi, .int tr0, .int sg0, .int ln0, .int at0, .int rd0, .int dr0, .int ma0, .ref mk, .int (nI en), .ref mj, .ref mn])), (mj, .inl (cI, 700, .inl gJ)), (mn, .inl (cJ, 100, .inr (.inl gN)))]) m_SampleDeskModel_54 (kX9_fail X.l (m := m) (mt := mt) (mw := mw) (mb := mb) (ml := ml) (mq := mq) (mz := mz) (ms := ms) (mr := mr) (mi := mi) (mk := mk) (mj := mj) (mn := mn) (th := nI 0) (fd0 := fd0) (pc0 := pc0) (dw0 := dw0) (lt0 := lt0) (ic0 := ic0) (tr0 := tr0) (sg0 := sg0) (ln0 := ln0) (at0 := at0) (rd0 := rd0) (dr0 := dr0) (ma0 := ma0) (en0 := nI en) (cd := nI 1)) k_code_X9_fail [0] 0 rfl rfl rfl rfl dX9_journal_35 (Nat.le_of_ble_eq_true rfl) ⟨rfl, rfl, by decide, by decide⟩ ⟨Nat.zero_le _, Nat.zero_le _⟩ rfl rfl (fun _ => rfl) (v_mgU rfl (fun _ => rfl)) ?_
  intro uu c35
  try dsimp only at c35
  show V (gG D cI cJ cT) X (rmD 1) cX9_journal 3 RX9 [(m, .inr (9, [.int (nI 1), .int fd0, .int pc0, .int dw0, .int lt0, .ref mt, .ref mw, .ref mb, .ref ml, .ref mq, .ref mz, .ref ms, .ref mr, .int ic0, .ref mi, .int tr0, .int sg0, .int ln0, .int at0, .int rd0, .int dr0, .int ma0, .ref mk, .int (nI en), .ref mj, .ref mn])), (mj, .inl (cI, 700, .inl gJ)), (mn, .inl (cJ, 100, .inr (.inl gN)))] 0 0 [(0, .ref m), (1, .int at0q), (2, .int wh)] 38 [.int (nI 0)]
  refine v_i2l (v := lN 0) dX9_journal_38 (nI_l (by omega)) ?_
  exact v_lret hE dX9_journal_39 () (trivial) rfl rfl
set_option maxRecDepth 100000 in
set_option maxHeartbeats 1000000 in
theorem kX9_journal_1b {D : va_G} {cI cJ cT : ClassId} (l : Launch) {m mt mw mb ml mq mz ms mr mi mk mj mn : Nat} {th fd0 pc0 dw0 lt0 ic0 tr0 sg0 ln0 at0 rd0 dr0 ma0 en0 : Int32} {en : Nat} {at0q wh : Int32} {gJ : Nat → Int32} {gN : Nat → Int64} (hen : en ≤ 100) (hn : inR at0q en) (hw : ¬ inR wh 7) : Fn (S := Unit) (gG D cI cJ cT) l yX9_journal (.code yX9_journal cX9_journal 3 (some .long)) (rmD 1) [.ref m, .int at0q, .int wh] [(m, .inr (9, [.int th, .int fd0, .int pc0, .int dw0, .int lt0, .ref mt, .ref mw, .ref mb, .ref ml, .ref mq, .ref mz, .ref ms, .ref mr, .int ic0, .ref mi, .int tr0, .int sg0, .int ln0, .int at0, .int rd0, .int dr0, .int ma0, .ref mk, .int (nI en), .ref mj, .ref mn])), (mj, .inl (cI, 700, .inl gJ)), (mn, .inl (cJ, 100, .inr (.inl gN)))] (fun _ => True) (fun u => some (.long (lN 0))) (fun u => [(m, .inr (9, [.int (nI 1), .int fd0, .int pc0, .int dw0, .int lt0, .ref mt, .ref mw, .ref mb, .ref ml, .ref mq, .ref mz, .ref ms, .ref mr, .int ic0, .ref mi, .int tr0, .int sg0, .int ln0, .int at0, .int rd0, .int dr0, .int ma0, .ref mk, .int (nI en), .ref mj, .ref mn])), (mj, .inl (cI, 700, .inl gJ)), (mn, .inl (cJ, 100, .inr (.inl gN)))]) := by
  refine Fn.intro (by decide) (Nat.le_of_ble_eq_true rfl) ?_
  intro X hX hE hin
  subst hX
  show V (gG D cI cJ cT) X _ cX9_journal 3 RX9 _ 0 0 [(0, .ref m), (1, .int at0q), (2, .int wh)] 0 []
  refine v_aload_n 0 dX9_journal_0 rfl rfl ?_
  refine v_iconst (v := nI 0) dX9_journal_1 (by decide) ?_
  refine v_put (ws' := [(m, .inr (9, [.int (nI 0), .int fd0, .int pc0, .int dw0, .int lt0, .ref mt, .ref mw, .ref mb, .ref ml, .ref mq, .ref mz, .ref ms, .ref mr, .int ic0, .ref mi, .int tr0, .int sg0, .int ln0, .int at0, .int rd0, .int dr0, .int ma0, .ref mk, .int (nI en), .ref mj, .ref mn])), (mj, .inl (cI, 700, .inl gJ)), (mn, .inl (cJ, 100, .inr (.inl gN)))]) fw_SampleDeskModel_47 0 rfl (rfl) (rfl) (Nat.le_of_ble_eq_true rfl) dX9_journal_2 rfl ?_
  refine v_iload_n 1 dX9_journal_5 rfl rfl ?_
  refine v_i2l (v := at0q.toInt64) dX9_journal_6 (rfl) ?_
  refine v_lconst (v := 0) dX9_journal_7 (by decide) ?_
  refine v_aload_n 0 dX9_journal_8 rfl rfl ?_
  refine v_get f_SampleDeskModel_191 0 rfl rfl dX9_journal_9 ?_
  refine v_iconst (v := nI 1) dX9_journal_12 (by decide) ?_
  refine v_isub dX9_journal_13 ?_
  refine v_i2l (v := (nI en - nI 1).toInt64) dX9_journal_14 (rfl) ?_
  refine v_callS (as := [.long at0q.toInt64, .long 0, .long ((nI en - nI 1).toInt64)]) (rest := []) (ws' := fun u => [(m, .inr (9, [.int (nI 0), .int fd0, .int pc0, .int dw0, .int lt0, .ref mt, .ref mw, .ref mb, .ref ml, .ref mq, .ref mz, .ref ms, .ref mr, .int ic0, .ref mi, .int tr0, .int sg0, .int ln0, .int at0, .int rd0, .int dr0, .int ma0, .ref mk, .int (nI en), .ref mj, .ref mn])), (mj, .inl (cI, 700, .inl gJ)), (mn, .inl (cJ, 100, .inr (.inl gN)))]) m_SampleDeskModel_58 (kX9_within X.l (v := at0q.toInt64) (lo := 0) (hi := (nI en - nI 1).toInt64)) k_code_X9_within [] rfl rfl dX9_journal_15 (Nat.le_of_ble_eq_true rfl) ⟨rfl, rfl, by decide, by decide⟩ ⟨Nat.zero_le _, Nat.zero_le _⟩ rfl rfl (fun _ => rfl) (v_mgU rfl (fun _ => rfl)) ?_
  intro uu c15
  try dsimp only at c15
  show V (gG D cI cJ cT) X (rmD 1) cX9_journal 3 RX9 [(m, .inr (9, [.int (nI 0), .int fd0, .int pc0, .int dw0, .int lt0, .ref mt, .ref mw, .ref mb, .ref ml, .ref mq, .ref mz, .ref ms, .ref mr, .int ic0, .ref mi, .int tr0, .int sg0, .int ln0, .int at0, .int rd0, .int dr0, .int ma0, .ref mk, .int (nI en), .ref mj, .ref mn])), (mj, .inl (cI, 700, .inl gJ)), (mn, .inl (cJ, 100, .inr (.inl gN)))] 0 0 [(0, .ref m), (1, .int at0q), (2, .int wh)] 18 [.int (dI (wi at0q.toInt64 0 ((nI en - nI 1).toInt64)))]
  refine v_topi (y := dI true) (congrArg dI ((show wi at0q.toInt64 0 ((nI en - nI 1).toInt64) = up at0q (nI en - nI 1) by exact wi_up _ _).trans (upT (by omega) hn))) ?_
  refine v_if_eq (tgt := 33) dX9_journal_18 (by decide) (fun b18 => absurd b18 (by decide)) (fun b18 => ?_)
  refine v_iload_n 2 dX9_journal_21 rfl rfl ?_
  refine v_i2l (v := wh.toInt64) dX9_journal_22 (rfl) ?_
  refine v_lconst (v := 0) dX9_journal_23 (by decide) ?_
  refine v_ldc2 (v := 6) k_c_SampleDeskModel_231 dX9_journal_24 ?_
  refine v_callS (as := [.long wh.toInt64, .long 0, .long 6]) (rest := []) (ws' := fun u => [(m, .inr (9, [.int (nI 0), .int fd0, .int pc0, .int dw0, .int lt0, .ref mt, .ref mw, .ref mb, .ref ml, .ref mq, .ref mz, .ref ms, .ref mr, .int ic0, .ref mi, .int tr0, .int sg0, .int ln0, .int at0, .int rd0, .int dr0, .int ma0, .ref mk, .int (nI en), .ref mj, .ref mn])), (mj, .inl (cI, 700, .inl gJ)), (mn, .inl (cJ, 100, .inr (.inl gN)))]) m_SampleDeskModel_58 (kX9_within X.l (v := wh.toInt64) (lo := 0) (hi := 6)) k_code_X9_within [] rfl rfl dX9_journal_27 (Nat.le_of_ble_eq_true rfl) ⟨rfl, rfl, by decide, by decide⟩ ⟨Nat.zero_le _, Nat.zero_le _⟩ rfl rfl (fun _ => rfl) (v_mgU rfl (fun _ => rfl)) ?_
  intro uu c27
  try dsimp only at c27
  show V (gG D cI cJ cT) X (rmD 1) cX9_journal 3 RX9 [(m, .inr (9, [.int (nI 0), .int fd0, .int pc0, .int dw0, .int lt0, .ref mt, .ref mw, .ref mb, .ref ml, .ref mq, .ref mz, .ref ms, .ref mr, .int ic0, .ref mi, .int tr0, .int sg0, .int ln0, .int at0, .int rd0, .int dr0, .int ma0, .ref mk, .int (nI en), .ref mj, .ref mn])), (mj, .inl (cI, 700, .inl gJ)), (mn, .inl (cJ, 100, .inr (.inl gN)))] 0 0 [(0, .ref m), (1, .int at0q), (2, .int wh)] 30 [.int (dI (wi wh.toInt64 0 6))]
  refine v_topi (y := dI false) (congrArg dI ((show wi wh.toInt64 0 6 = up wh 6 by rw [show (6 : Int64) = (6 : Int32).toInt64 by decide, wi_up]; try rfl).trans (upF1 (n := 6) (by decide) hw))) ?_
  refine v_if_ne (tgt := 40) dX9_journal_30 (by decide) (fun b30 => absurd b30 (fun q => q rfl)) (fun b30 => ?_)
  refine v_aload_n 0 dX9_journal_33 rfl rfl ?_
  refine v_iconst (v := nI 1) dX9_journal_34 (by decide) ?_
  refine v_callV (as := [.int (nI 1)]) (rest := []) (ws' := fun u => [(m, .inr (9, [.int (nI 1), .int fd0, .int pc0, .int dw0, .int lt0, .ref mt, .ref mw, .ref mb, .ref ml, .ref mq, .ref mz, .ref ms, .ref mr, .int ic0, .ref mi, .int tr0, .int sg0, .int ln0, .int at0, .int rd0, .int dr0, .int ma0, .ref mk, .int (nI en), .ref mj, .ref mn])), (mj, .inl (cI, 700, .inl gJ)), (mn, .inl (cJ, 100, .inr (.inl gN)))]) m_SampleDeskModel_54 (kX9_fail X.l (m := m) (mt := mt) (mw := mw) (mb := mb) (ml := ml) (mq := mq) (mz := mz) (ms := ms) (mr := mr) (mi := mi) (mk := mk) (mj := mj) (mn := mn) (th := nI 0) (fd0 := fd0) (pc0 := pc0) (dw0 := dw0) (lt0 := lt0) (ic0 := ic0) (tr0 := tr0) (sg0 := sg0) (ln0 := ln0) (at0 := at0) (rd0 := rd0) (dr0 := dr0) (ma0 := ma0) (en0 := nI en) (cd := nI 1)) k_code_X9_fail [0] 0 rfl rfl rfl rfl dX9_journal_35 (Nat.le_of_ble_eq_true rfl) ⟨rfl, rfl, by decide, by decide⟩ ⟨Nat.zero_le _, Nat.zero_le _⟩ rfl rfl (fun _ => rfl) (v_mgU rfl (fun _ => rfl)) ?_
  intro uu c35
  try dsimp only at c35
  show V (gG D cI cJ cT) X (rmD 1) cX9_journal 3 RX9 [(m, .inr (9, [.int (nI 1), .int fd0, .int pc0, .int dw0, .int lt0, .ref mt, .ref mw, .ref mb, .ref ml, .ref mq, .ref mz, .ref ms, .ref mr, .int ic0, .ref mi, .int tr0, .int sg0, .int ln0, .int at0, .int rd0, .int dr0, .int ma0, .ref mk, .int (nI en), .ref mj, .ref mn])), (mj, .inl (cI, 700, .inl gJ)), (mn, .inl (cJ, 100, .inr (.inl gN)))] 0 0 [(0, .ref m), (1, .int at0q), (2, .int wh)] 38 [.int (nI 0)]
  refine v_i2l (v := lN 0) dX9_journal_38 (nI_l (by omega)) ?_
  exact v_lret hE dX9_journal_39 () (trivial) rfl rfl
set_option maxRecDepth 100000 in
set_option maxHeartbeats 1000000 in
theorem kX9_journal_0 {D : va_G} {cI cJ cT : ClassId} (l : Launch) {m mt mw mb ml mq mz ms mr mi mk mj mn : Nat} {th fd0 pc0 dw0 lt0 ic0 tr0 sg0 ln0 at0 rd0 dr0 ma0 en0 : Int32} {en i q : Nat} {gJ : Nat → Int32} {gN : Nat → Int64} (hen : en ≤ 100) (hi : i < en) (hw : q < 7) : Fn (S := Unit) (gG D cI cJ cT) l yX9_journal (.code yX9_journal cX9_journal 3 (some .long)) (rmD 1) [.ref m, .int (nI i), .int (nI q)] [(m, .inr (9, [.int th, .int fd0, .int pc0, .int dw0, .int lt0, .ref mt, .ref mw, .ref mb, .ref ml, .ref mq, .ref mz, .ref ms, .ref mr, .int ic0, .ref mi, .int tr0, .int sg0, .int ln0, .int at0, .int rd0, .int dr0, .int ma0, .ref mk, .int (nI en), .ref mj, .ref mn])), (mj, .inl (cI, 700, .inl gJ)), (mn, .inl (cJ, 100, .inr (.inl gN)))] (fun _ => True) (fun u => some (.long (if q = 6 then gN i else (gJ (7 * i + q)).toInt64))) (fun u => [(m, .inr (9, [.int (nI 0), .int fd0, .int pc0, .int dw0, .int lt0, .ref mt, .ref mw, .ref mb, .ref ml, .ref mq, .ref mz, .ref ms, .ref mr, .int ic0, .ref mi, .int tr0, .int sg0, .int ln0, .int at0, .int rd0, .int dr0, .int ma0, .ref mk, .int (nI en), .ref mj, .ref mn])), (mj, .inl (cI, 700, .inl gJ)), (mn, .inl (cJ, 100, .inr (.inl gN)))]) := by
  refine Fn.intro (by decide) (Nat.le_of_ble_eq_true rfl) ?_
  intro X hX hE hin
  subst hX
  show V (gG D cI cJ cT) X _ cX9_journal 3 RX9 _ 0 0 [(0, .ref m), (1, .int (nI i)), (2, .int (nI q))] 0 []
  refine v_aload_n 0 dX9_journal_0 rfl rfl ?_
  refine v_iconst (v := nI 0) dX9_journal_1 (by decide) ?_
  refine v_put (ws' := [(m, .inr (9, [.int (nI 0), .int fd0, .int pc0, .int dw0, .int lt0, .ref mt, .ref mw, .ref mb, .ref ml, .ref mq, .ref mz, .ref ms, .ref mr, .int ic0, .ref mi, .int tr0, .int sg0, .int ln0, .int at0, .int rd0, .int dr0, .int ma0, .ref mk, .int (nI en), .ref mj, .ref mn])), (mj, .inl (cI, 700, .inl gJ)), (mn, .inl (cJ, 100, .inr (.inl gN)))]) fw_SampleDeskModel_47 0 rfl (rfl) (rfl) (Nat.le_of_ble_eq_true rfl) dX9_journal_2 rfl ?_
  refine v_iload_n 1 dX9_journal_5 rfl rfl ?_
  refine v_i2l (v := (nI i).toInt64) dX9_journal_6 (rfl) ?_
  refine v_lconst (v := 0) dX9_journal_7 (by decide) ?_
  refine v_aload_n 0 dX9_journal_8 rfl rfl ?_
  refine v_get f_SampleDeskModel_191 0 rfl rfl dX9_journal_9 ?_
  refine v_iconst (v := nI 1) dX9_journal_12 (by decide) ?_
  refine v_isub dX9_journal_13 ?_
  refine v_i2l (v := (nI en - nI 1).toInt64) dX9_journal_14 (rfl) ?_
  refine v_callS (as := [.long ((nI i).toInt64), .long 0, .long ((nI en - nI 1).toInt64)]) (rest := []) (ws' := fun u => [(m, .inr (9, [.int (nI 0), .int fd0, .int pc0, .int dw0, .int lt0, .ref mt, .ref mw, .ref mb, .ref ml, .ref mq, .ref mz, .ref ms, .ref mr, .int ic0, .ref mi, .int tr0, .int sg0, .int ln0, .int at0, .int rd0, .int dr0, .int ma0, .ref mk, .int (nI en), .ref mj, .ref mn])), (mj, .inl (cI, 700, .inl gJ)), (mn, .inl (cJ, 100, .inr (.inl gN)))]) m_SampleDeskModel_58 (kX9_within X.l (v := (nI i).toInt64) (lo := 0) (hi := (nI en - nI 1).toInt64)) k_code_X9_within [] rfl rfl dX9_journal_15 (Nat.le_of_ble_eq_true rfl) ⟨rfl, rfl, by decide, by decide⟩ ⟨Nat.zero_le _, Nat.zero_le _⟩ rfl rfl (fun _ => rfl) (v_mgU rfl (fun _ => rfl)) ?_
  intro uu c15
  try dsimp only at c15
  show V (gG D cI cJ cT) X (rmD 1) cX9_journal 3 RX9 [(m, .inr (9, [.int (nI 0), .int fd0, .int pc0, .int dw0, .int lt0, .ref mt, .ref mw, .ref mb, .ref ml, .ref mq, .ref mz, .ref ms, .ref mr, .int ic0, .ref mi, .int tr0, .int sg0, .int ln0, .int at0, .int rd0, .int dr0, .int ma0, .ref mk, .int (nI en), .ref mj, .ref mn])), (mj, .inl (cI, 700, .inl gJ)), (mn, .inl (cJ, 100, .inr (.inl gN)))] 0 0 [(0, .ref m), (1, .int (nI i)), (2, .int (nI q))] 18 [.int (dI (wi ((nI i).toInt64) 0 ((nI en - nI 1).toInt64)))]
  refine v_topi (y := dI true) (congrArg dI ((show wi ((nI i).toInt64) 0 ((nI en - nI 1).toInt64) = up (nI i) (nI en - nI 1) by exact wi_up _ _).trans (upT (by omega) ⟨i, hi, rfl⟩))) ?_
  refine v_if_eq (tgt := 33) dX9_journal_18 (by decide) (fun b18 => absurd b18 (by decide)) (fun b18 => ?_)
  refine v_iload_n 2 dX9_journal_21 rfl rfl ?_
  refine v_i2l (v := (nI q).toInt64) dX9_journal_22 (rfl) ?_
  refine v_lconst (v := 0) dX9_journal_23 (by decide) ?_
  refine v_ldc2 (v := 6) k_c_SampleDeskModel_231 dX9_journal_24 ?_
  refine v_callS (as := [.long ((nI q).toInt64), .long 0, .long 6]) (rest := []) (ws' := fun u => [(m, .inr (9, [.int (nI 0), .int fd0, .int pc0, .int dw0, .int lt0, .ref mt, .ref mw, .ref mb, .ref ml, .ref mq, .ref mz, .ref ms, .ref mr, .int ic0, .ref mi, .int tr0, .int sg0, .int ln0, .int at0, .int rd0, .int dr0, .int ma0, .ref mk, .int (nI en), .ref mj, .ref mn])), (mj, .inl (cI, 700, .inl gJ)), (mn, .inl (cJ, 100, .inr (.inl gN)))]) m_SampleDeskModel_58 (kX9_within X.l (v := (nI q).toInt64) (lo := 0) (hi := 6)) k_code_X9_within [] rfl rfl dX9_journal_27 (Nat.le_of_ble_eq_true rfl) ⟨rfl, rfl, by decide, by decide⟩ ⟨Nat.zero_le _, Nat.zero_le _⟩ rfl rfl (fun _ => rfl) (v_mgU rfl (fun _ => rfl)) ?_
  intro uu c27
  try dsimp only at c27
  show V (gG D cI cJ cT) X (rmD 1) cX9_journal 3 RX9 [(m, .inr (9, [.int (nI 0), .int fd0, .int pc0, .int dw0, .int lt0, .ref mt, .ref mw, .ref mb, .ref ml, .ref mq, .ref mz, .ref ms, .ref mr, .int ic0, .ref mi, .int tr0, .int sg0, .int ln0, .int at0, .int rd0, .int dr0, .int ma0, .ref mk, .int (nI en), .ref mj, .ref mn])), (mj, .inl (cI, 700, .inl gJ)), (mn, .inl (cJ, 100, .inr (.inl gN)))] 0 0 [(0, .ref m), (1, .int (nI i)), (2, .int (nI q))] 30 [.int (dI (wi ((nI q).toInt64) 0 6))]
  refine v_topi (y := dI true) (congrArg dI ((show wi ((nI q).toInt64) 0 6 = up (nI q) 6 by rw [show (6 : Int64) = (6 : Int32).toInt64 by decide, wi_up]; try rfl).trans (upT1 (n := 6) (by decide) ⟨q, hw, rfl⟩))) ?_
  refine v_if_ne (tgt := 40) dX9_journal_30 (by decide) (fun b30 => ?_) (fun b30 => absurd b30 (by decide))
  refine v_iload_n 2 dX9_journal_40 rfl rfl ?_
  refine v_bipush (v := nI 6) dX9_journal_41 (by decide) ?_
  refine v_icmp_ne (tgt := 55) dX9_journal_43 (by decide) (fun b43 => ?_) (fun b43 => ?_)
  · have b43 : ¬ (q = 6) := fun q => b43 ((nI_eq (by omega) (by decide)).mpr q)
    refine v_aload_n 0 dX9_journal_55 rfl rfl ?_
    refine v_get f_SampleDeskModel_41 0 rfl rfl dX9_journal_56 ?_
    refine v_bipush (v := nI 7) dX9_journal_59 (by decide) ?_
    refine v_iload_n 1 dX9_journal_61 rfl rfl ?_
    refine v_imul dX9_journal_62 ?_
    refine v_topi (y := nI (7 * i)) (pk_mul _ _) ?_
    refine v_iload_n 2 dX9_journal_63 rfl rfl ?_
    refine v_iadd dX9_journal_64 ?_
    refine v_topi (y := nI (7 * i + q)) (nI_add _ _) ?_
    refine v_iald 0 1 rfl rfl (by omega) (by omega) dX9_journal_65 ?_
    refine v_i2l (v := (gJ (7 * i + q)).toInt64) dX9_journal_66 (rfl) ?_
    exact v_lret hE dX9_journal_67 () trivial (by first | rw [if_pos b43] | rw [if_neg b43]) rfl
  · have b43 : q = 6 := (nI_eq (by omega) (by decide)).mp b43
    refine v_aload_n 0 dX9_journal_46 rfl rfl ?_
    refine v_get f_SampleDeskModel_44 0 rfl rfl dX9_journal_47 ?_
    refine v_iload_n 1 dX9_journal_50 rfl rfl ?_
    refine v_lald 1 2 rfl rfl (by omega) (by omega) dX9_journal_51 ?_
    refine v_goto (tgt := 67) dX9_journal_52 (by decide) ?_
    exact v_lret hE dX9_journal_67 () trivial (by first | rw [if_pos b43] | rw [if_neg b43]) rfl
set_option maxRecDepth 100000 in
set_option maxHeartbeats 1000000 in
theorem kX9_count_x {D : va_G} {cI cJ cT : ClassId} (l : Launch) {m mt mw mb ml mq mz ms mr mi mk mj mn : Nat} {th fd0 pc0 dw0 lt0 ic0 tr0 sg0 ln0 at0 rd0 dr0 ma0 en0 : Int32} {wh : Int32} (hn : ¬ inR wh 5) : Fn (S := Unit) (gG D cI cJ cT) l yX9_count (.code yX9_count cX9_count 2 (some .int)) (rmD 1) [.ref m, .int wh] [(m, .inr (9, [.int th, .int fd0, .int pc0, .int dw0, .int lt0, .ref mt, .ref mw, .ref mb, .ref ml, .ref mq, .ref mz, .ref ms, .ref mr, .int ic0, .ref mi, .int tr0, .int sg0, .int ln0, .int at0, .int rd0, .int dr0, .int ma0, .ref mk, .int en0, .ref mj, .ref mn]))] (fun _ => True) (fun u => some (.int (-1))) (fun u => [(m, .inr (9, [.int (nI 0), .int fd0, .int pc0, .int dw0, .int lt0, .ref mt, .ref mw, .ref mb, .ref ml, .ref mq, .ref mz, .ref ms, .ref mr, .int ic0, .ref mi, .int tr0, .int sg0, .int ln0, .int at0, .int rd0, .int dr0, .int ma0, .ref mk, .int en0, .ref mj, .ref mn]))]) := by
  refine Fn.intro (by decide) (Nat.le_of_ble_eq_true rfl) ?_
  intro X hX hE hin
  subst hX
  show V (gG D cI cJ cT) X _ cX9_count 2 RX9 _ 0 0 [(0, .ref m), (1, .int wh)] 0 []
  refine v_aload_n 0 dX9_count_0 rfl rfl ?_
  refine v_iconst (v := nI 0) dX9_count_1 (by decide) ?_
  refine v_put (ws' := [(m, .inr (9, [.int (nI 0), .int fd0, .int pc0, .int dw0, .int lt0, .ref mt, .ref mw, .ref mb, .ref ml, .ref mq, .ref mz, .ref ms, .ref mr, .int ic0, .ref mi, .int tr0, .int sg0, .int ln0, .int at0, .int rd0, .int dr0, .int ma0, .ref mk, .int en0, .ref mj, .ref mn]))]) fw_SampleDeskModel_47 0 rfl (rfl) (rfl) (Nat.le_of_ble_eq_true rfl) dX9_count_2 rfl ?_
  refine v_iload_n 1 dX9_count_5 rfl rfl ?_
  refine v_i2l (v := wh.toInt64) dX9_count_6 (rfl) ?_
  refine v_lconst (v := 0) dX9_count_7 (by decide) ?_
  refine v_ldc2 (v := 4) k_c_SampleDeskModel_233 dX9_count_8 ?_
  refine v_callS (as := [.long wh.toInt64, .long 0, .long 4]) (rest := []) (ws' := fun u => [(m, .inr (9, [.int (nI 0), .int fd0, .int pc0, .int dw0, .int lt0, .ref mt, .ref mw, .ref mb, .ref ml, .ref mq, .ref mz, .ref ms, .ref mr, .int ic0, .ref mi, .int tr0, .int sg0, .int ln0, .int at0, .int rd0, .int dr0, .int ma0, .ref mk, .int en0, .ref mj, .ref mn]))]) m_SampleDeskModel_58 (kX9_within X.l (v := wh.toInt64) (lo := 0) (hi := 4)) k_code_X9_within [] rfl rfl dX9_count_11 (Nat.le_of_ble_eq_true rfl) ⟨rfl, rfl, by decide, by decide⟩ ⟨Nat.zero_le _, Nat.zero_le _⟩ rfl rfl (fun _ => rfl) (v_mgU rfl (fun _ => rfl)) ?_
  intro uu c11
  try dsimp only at c11
  show V (gG D cI cJ cT) X (rmD 1) cX9_count 2 RX9 [(m, .inr (9, [.int (nI 0), .int fd0, .int pc0, .int dw0, .int lt0, .ref mt, .ref mw, .ref mb, .ref ml, .ref mq, .ref mz, .ref ms, .ref mr, .int ic0, .ref mi, .int tr0, .int sg0, .int ln0, .int at0, .int rd0, .int dr0, .int ma0, .ref mk, .int en0, .ref mj, .ref mn]))] 0 0 [(0, .ref m), (1, .int wh)] 14 [.int (dI (wi wh.toInt64 0 4))]
  refine v_topi (y := dI false) (congrArg dI ((show wi wh.toInt64 0 4 = up wh 4 by rw [show (4 : Int64) = (4 : Int32).toInt64 by decide, wi_up]; try rfl).trans (upF1 (n := 4) (by decide) hn))) ?_
  refine v_if_ne (tgt := 19) dX9_count_14 (by decide) (fun b14 => absurd b14 (fun q => q rfl)) (fun b14 => ?_)
  refine v_iconst (v := (-1)) dX9_count_17 (by decide) ?_
  exact v_iret hE dX9_count_18 () (trivial) rfl rfl
set_option maxRecDepth 100000 in
set_option maxHeartbeats 1000000 in
theorem kX9_count_0 {D : va_G} {cI cJ cT : ClassId} (l : Launch) {m mt mw mb ml mq mz ms mr mi mk mj mn : Nat} {th fd0 pc0 dw0 lt0 ic0 tr0 sg0 ln0 at0 rd0 dr0 ma0 en0 : Int32}   : Fn (S := Unit) (gG D cI cJ cT) l yX9_count (.code yX9_count cX9_count 2 (some .int)) (rmD 1) [.ref m, .int (nI 0)] [(m, .inr (9, [.int th, .int fd0, .int pc0, .int dw0, .int lt0, .ref mt, .ref mw, .ref mb, .ref ml, .ref mq, .ref mz, .ref ms, .ref mr, .int ic0, .ref mi, .int tr0, .int sg0, .int ln0, .int at0, .int rd0, .int dr0, .int ma0, .ref mk, .int en0, .ref mj, .ref mn]))] (fun _ => True) (fun u => some (.int fd0)) (fun u => [(m, .inr (9, [.int (nI 0), .int fd0, .int pc0, .int dw0, .int lt0, .ref mt, .ref mw, .ref mb, .ref ml, .ref mq, .ref mz, .ref ms, .ref mr, .int ic0, .ref mi, .int tr0, .int sg0, .int ln0, .int at0, .int rd0, .int dr0, .int ma0, .ref mk, .int en0, .ref mj, .ref mn]))]) := by
  refine Fn.intro (by decide) (Nat.le_of_ble_eq_true rfl) ?_
  intro X hX hE hin
  subst hX
  show V (gG D cI cJ cT) X _ cX9_count 2 RX9 _ 0 0 [(0, .ref m), (1, .int (nI 0))] 0 []
  refine v_aload_n 0 dX9_count_0 rfl rfl ?_
  refine v_iconst (v := nI 0) dX9_count_1 (by decide) ?_
  refine v_put (ws' := [(m, .inr (9, [.int (nI 0), .int fd0, .int pc0, .int dw0, .int lt0, .ref mt, .ref mw, .ref mb, .ref ml, .ref mq, .ref mz, .ref ms, .ref mr, .int ic0, .ref mi, .int tr0, .int sg0, .int ln0, .int at0, .int rd0, .int dr0, .int ma0, .ref mk, .int en0, .ref mj, .ref mn]))]) fw_SampleDeskModel_47 0 rfl (rfl) (rfl) (Nat.le_of_ble_eq_true rfl) dX9_count_2 rfl ?_
  refine v_iload_n 1 dX9_count_5 rfl rfl ?_
  refine v_i2l (v := (nI 0).toInt64) dX9_count_6 (rfl) ?_
  refine v_lconst (v := 0) dX9_count_7 (by decide) ?_
  refine v_ldc2 (v := 4) k_c_SampleDeskModel_233 dX9_count_8 ?_
  refine v_callS (as := [.long ((nI 0).toInt64), .long 0, .long 4]) (rest := []) (ws' := fun u => [(m, .inr (9, [.int (nI 0), .int fd0, .int pc0, .int dw0, .int lt0, .ref mt, .ref mw, .ref mb, .ref ml, .ref mq, .ref mz, .ref ms, .ref mr, .int ic0, .ref mi, .int tr0, .int sg0, .int ln0, .int at0, .int rd0, .int dr0, .int ma0, .ref mk, .int en0, .ref mj, .ref mn]))]) m_SampleDeskModel_58 (kX9_within X.l (v := (nI 0).toInt64) (lo := 0) (hi := 4)) k_code_X9_within [] rfl rfl dX9_count_11 (Nat.le_of_ble_eq_true rfl) ⟨rfl, rfl, by decide, by decide⟩ ⟨Nat.zero_le _, Nat.zero_le _⟩ rfl rfl (fun _ => rfl) (v_mgU rfl (fun _ => rfl)) ?_
  intro uu c11
  try dsimp only at c11
  show V (gG D cI cJ cT) X (rmD 1) cX9_count 2 RX9 [(m, .inr (9, [.int (nI 0), .int fd0, .int pc0, .int dw0, .int lt0, .ref mt, .ref mw, .ref mb, .ref ml, .ref mq, .ref mz, .ref ms, .ref mr, .int ic0, .ref mi, .int tr0, .int sg0, .int ln0, .int at0, .int rd0, .int dr0, .int ma0, .ref mk, .int en0, .ref mj, .ref mn]))] 0 0 [(0, .ref m), (1, .int (nI 0))] 14 [.int (dI (wi ((nI 0).toInt64) 0 4))]
  refine v_topi (y := dI true) (congrArg dI ((show wi ((nI 0).toInt64) 0 4 = up (nI 0) 4 by rw [show (4 : Int64) = (4 : Int32).toInt64 by decide, wi_up]; try rfl).trans (upT1 (n := 4) (by decide) ⟨0, by decide, rfl⟩))) ?_
  refine v_if_ne (tgt := 19) dX9_count_14 (by decide) (fun b14 => ?_) (fun b14 => absurd b14 (by decide))
  refine v_iload_n 1 dX9_count_19 rfl rfl ?_
  refine v_iconst (v := nI 2) dX9_count_20 (by decide) ?_
  refine v_icmp_ge (tgt := 40) dX9_count_21 (by decide) (fun b21 => absurd b21 (by decide)) (fun b21 => ?_)
  refine v_iload_n 1 dX9_count_24 rfl rfl ?_
  refine v_if_ne (tgt := 35) dX9_count_25 (by decide) (fun b25 => absurd b25 (fun q => q rfl)) (fun b25 => ?_)
  refine v_aload_n 0 dX9_count_28 rfl rfl ?_
  refine v_get f_SampleDeskModel_51 0 rfl rfl dX9_count_29 ?_
  refine v_goto (tgt := 39) dX9_count_32 (by decide) ?_
  exact v_iret hE dX9_count_39 () (trivial) rfl rfl
set_option maxRecDepth 100000 in
set_option maxHeartbeats 1000000 in
theorem kX9_count_1 {D : va_G} {cI cJ cT : ClassId} (l : Launch) {m mt mw mb ml mq mz ms mr mi mk mj mn : Nat} {th fd0 pc0 dw0 lt0 ic0 tr0 sg0 ln0 at0 rd0 dr0 ma0 en0 : Int32}   : Fn (S := Unit) (gG D cI cJ cT) l yX9_count (.code yX9_count cX9_count 2 (some .int)) (rmD 1) [.ref m, .int (nI 1)] [(m, .inr (9, [.int th, .int fd0, .int pc0, .int dw0, .int lt0, .ref mt, .ref mw, .ref mb, .ref ml, .ref mq, .ref mz, .ref ms, .ref mr, .int ic0, .ref mi, .int tr0, .int sg0, .int ln0, .int at0, .int rd0, .int dr0, .int ma0, .ref mk, .int en0, .ref mj, .ref mn]))] (fun _ => True) (fun u => some (.int pc0)) (fun u => [(m, .inr (9, [.int (nI 0), .int fd0, .int pc0, .int dw0, .int lt0, .ref mt, .ref mw, .ref mb, .ref ml, .ref mq, .ref mz, .ref ms, .ref mr, .int ic0, .ref mi, .int tr0, .int sg0, .int ln0, .int at0, .int rd0, .int dr0, .int ma0, .ref mk, .int en0, .ref mj, .ref mn]))]) := by
  refine Fn.intro (by decide) (Nat.le_of_ble_eq_true rfl) ?_
  intro X hX hE hin
  subst hX
  show V (gG D cI cJ cT) X _ cX9_count 2 RX9 _ 0 0 [(0, .ref m), (1, .int (nI 1))] 0 []
  refine v_aload_n 0 dX9_count_0 rfl rfl ?_
  refine v_iconst (v := nI 0) dX9_count_1 (by decide) ?_
  refine v_put (ws' := [(m, .inr (9, [.int (nI 0), .int fd0, .int pc0, .int dw0, .int lt0, .ref mt, .ref mw, .ref mb, .ref ml, .ref mq, .ref mz, .ref ms, .ref mr, .int ic0, .ref mi, .int tr0, .int sg0, .int ln0, .int at0, .int rd0, .int dr0, .int ma0, .ref mk, .int en0, .ref mj, .ref mn]))]) fw_SampleDeskModel_47 0 rfl (rfl) (rfl) (Nat.le_of_ble_eq_true rfl) dX9_count_2 rfl ?_
  refine v_iload_n 1 dX9_count_5 rfl rfl ?_
  refine v_i2l (v := (nI 1).toInt64) dX9_count_6 (rfl) ?_
  refine v_lconst (v := 0) dX9_count_7 (by decide) ?_
  refine v_ldc2 (v := 4) k_c_SampleDeskModel_233 dX9_count_8 ?_
  refine v_callS (as := [.long ((nI 1).toInt64), .long 0, .long 4]) (rest := []) (ws' := fun u => [(m, .inr (9, [.int (nI 0), .int fd0, .int pc0, .int dw0, .int lt0, .ref mt, .ref mw, .ref mb, .ref ml, .ref mq, .ref mz, .ref ms, .ref mr, .int ic0, .ref mi, .int tr0, .int sg0, .int ln0, .int at0, .int rd0, .int dr0, .int ma0, .ref mk, .int en0, .ref mj, .ref mn]))]) m_SampleDeskModel_58 (kX9_within X.l (v := (nI 1).toInt64) (lo := 0) (hi := 4)) k_code_X9_within [] rfl rfl dX9_count_11 (Nat.le_of_ble_eq_true rfl) ⟨rfl, rfl, by decide, by decide⟩ ⟨Nat.zero_le _, Nat.zero_le _⟩ rfl rfl (fun _ => rfl) (v_mgU rfl (fun _ => rfl)) ?_
  intro uu c11
  try dsimp only at c11
  show V (gG D cI cJ cT) X (rmD 1) cX9_count 2 RX9 [(m, .inr (9, [.int (nI 0), .int fd0, .int pc0, .int dw0, .int lt0, .ref mt, .ref mw, .ref mb, .ref ml, .ref mq, .ref mz, .ref ms, .ref mr, .int ic0, .ref mi, .int tr0, .int sg0, .int ln0, .int at0, .int rd0, .int dr0, .int ma0, .ref mk, .int en0, .ref mj, .ref mn]))] 0 0 [(0, .ref m), (1, .int (nI 1))] 14 [.int (dI (wi ((nI 1).toInt64) 0 4))]
  refine v_topi (y := dI true) (congrArg dI ((show wi ((nI 1).toInt64) 0 4 = up (nI 1) 4 by rw [show (4 : Int64) = (4 : Int32).toInt64 by decide, wi_up]; try rfl).trans (upT1 (n := 4) (by decide) ⟨1, by decide, rfl⟩))) ?_
  refine v_if_ne (tgt := 19) dX9_count_14 (by decide) (fun b14 => ?_) (fun b14 => absurd b14 (by decide))
  refine v_iload_n 1 dX9_count_19 rfl rfl ?_
  refine v_iconst (v := nI 2) dX9_count_20 (by decide) ?_
  refine v_icmp_ge (tgt := 40) dX9_count_21 (by decide) (fun b21 => absurd b21 (by decide)) (fun b21 => ?_)
  refine v_iload_n 1 dX9_count_24 rfl rfl ?_
  refine v_if_ne (tgt := 35) dX9_count_25 (by decide) (fun b25 => ?_) (fun b25 => absurd b25 (by decide))
  refine v_aload_n 0 dX9_count_35 rfl rfl ?_
  refine v_get f_SampleDeskModel_62 0 rfl rfl dX9_count_36 ?_
  exact v_iret hE dX9_count_39 () (trivial) rfl rfl
set_option maxRecDepth 100000 in
set_option maxHeartbeats 1000000 in
theorem kX9_count_2 {D : va_G} {cI cJ cT : ClassId} (l : Launch) {m mt mw mb ml mq mz ms mr mi mk mj mn : Nat} {th fd0 pc0 dw0 lt0 ic0 tr0 sg0 ln0 at0 rd0 dr0 ma0 en0 : Int32}   : Fn (S := Unit) (gG D cI cJ cT) l yX9_count (.code yX9_count cX9_count 2 (some .int)) (rmD 1) [.ref m, .int (nI 2)] [(m, .inr (9, [.int th, .int fd0, .int pc0, .int dw0, .int lt0, .ref mt, .ref mw, .ref mb, .ref ml, .ref mq, .ref mz, .ref ms, .ref mr, .int ic0, .ref mi, .int tr0, .int sg0, .int ln0, .int at0, .int rd0, .int dr0, .int ma0, .ref mk, .int en0, .ref mj, .ref mn]))] (fun _ => True) (fun u => some (.int lt0)) (fun u => [(m, .inr (9, [.int (nI 0), .int fd0, .int pc0, .int dw0, .int lt0, .ref mt, .ref mw, .ref mb, .ref ml, .ref mq, .ref mz, .ref ms, .ref mr, .int ic0, .ref mi, .int tr0, .int sg0, .int ln0, .int at0, .int rd0, .int dr0, .int ma0, .ref mk, .int en0, .ref mj, .ref mn]))]) := by
  refine Fn.intro (by decide) (Nat.le_of_ble_eq_true rfl) ?_
  intro X hX hE hin
  subst hX
  show V (gG D cI cJ cT) X _ cX9_count 2 RX9 _ 0 0 [(0, .ref m), (1, .int (nI 2))] 0 []
  refine v_aload_n 0 dX9_count_0 rfl rfl ?_
  refine v_iconst (v := nI 0) dX9_count_1 (by decide) ?_
  refine v_put (ws' := [(m, .inr (9, [.int (nI 0), .int fd0, .int pc0, .int dw0, .int lt0, .ref mt, .ref mw, .ref mb, .ref ml, .ref mq, .ref mz, .ref ms, .ref mr, .int ic0, .ref mi, .int tr0, .int sg0, .int ln0, .int at0, .int rd0, .int dr0, .int ma0, .ref mk, .int en0, .ref mj, .ref mn]))]) fw_SampleDeskModel_47 0 rfl (rfl) (rfl) (Nat.le_of_ble_eq_true rfl) dX9_count_2 rfl ?_
  refine v_iload_n 1 dX9_count_5 rfl rfl ?_
  refine v_i2l (v := (nI 2).toInt64) dX9_count_6 (rfl) ?_
  refine v_lconst (v := 0) dX9_count_7 (by decide) ?_
  refine v_ldc2 (v := 4) k_c_SampleDeskModel_233 dX9_count_8 ?_
  refine v_callS (as := [.long ((nI 2).toInt64), .long 0, .long 4]) (rest := []) (ws' := fun u => [(m, .inr (9, [.int (nI 0), .int fd0, .int pc0, .int dw0, .int lt0, .ref mt, .ref mw, .ref mb, .ref ml, .ref mq, .ref mz, .ref ms, .ref mr, .int ic0, .ref mi, .int tr0, .int sg0, .int ln0, .int at0, .int rd0, .int dr0, .int ma0, .ref mk, .int en0, .ref mj, .ref mn]))]) m_SampleDeskModel_58 (kX9_within X.l (v := (nI 2).toInt64) (lo := 0) (hi := 4)) k_code_X9_within [] rfl rfl dX9_count_11 (Nat.le_of_ble_eq_true rfl) ⟨rfl, rfl, by decide, by decide⟩ ⟨Nat.zero_le _, Nat.zero_le _⟩ rfl rfl (fun _ => rfl) (v_mgU rfl (fun _ => rfl)) ?_
  intro uu c11
  try dsimp only at c11
  show V (gG D cI cJ cT) X (rmD 1) cX9_count 2 RX9 [(m, .inr (9, [.int (nI 0), .int fd0, .int pc0, .int dw0, .int lt0, .ref mt, .ref mw, .ref mb, .ref ml, .ref mq, .ref mz, .ref ms, .ref mr, .int ic0, .ref mi, .int tr0, .int sg0, .int ln0, .int at0, .int rd0, .int dr0, .int ma0, .ref mk, .int en0, .ref mj, .ref mn]))] 0 0 [(0, .ref m), (1, .int (nI 2))] 14 [.int (dI (wi ((nI 2).toInt64) 0 4))]
  refine v_topi (y := dI true) (congrArg dI ((show wi ((nI 2).toInt64) 0 4 = up (nI 2) 4 by rw [show (4 : Int64) = (4 : Int32).toInt64 by decide, wi_up]; try rfl).trans (upT1 (n := 4) (by decide) ⟨2, by decide, rfl⟩))) ?_
  refine v_if_ne (tgt := 19) dX9_count_14 (by decide) (fun b14 => ?_) (fun b14 => absurd b14 (by decide))
  refine v_iload_n 1 dX9_count_19 rfl rfl ?_
  refine v_iconst (v := nI 2) dX9_count_20 (by decide) ?_
  refine v_icmp_ge (tgt := 40) dX9_count_21 (by decide) (fun b21 => ?_) (fun b21 => absurd (by decide) b21)
  refine v_iload_n 1 dX9_count_40 rfl rfl ?_
  refine v_iconst (v := nI 2) dX9_count_41 (by decide) ?_
  refine v_icmp_ne (tgt := 52) dX9_count_42 (by decide) (fun b42 => absurd b42 (fun q => q rfl)) (fun b42 => ?_)
  refine v_aload_n 0 dX9_count_45 rfl rfl ?_
  refine v_get f_SampleDeskModel_215 0 rfl rfl dX9_count_46 ?_
  refine v_goto (tgt := 68) dX9_count_49 (by decide) ?_
  exact v_iret hE dX9_count_68 () (trivial) rfl rfl
set_option maxRecDepth 100000 in
set_option maxHeartbeats 1000000 in
theorem kX9_count_3 {D : va_G} {cI cJ cT : ClassId} (l : Launch) {m mt mw mb ml mq mz ms mr mi mk mj mn : Nat} {th fd0 pc0 dw0 lt0 ic0 tr0 sg0 ln0 at0 rd0 dr0 ma0 en0 : Int32}   : Fn (S := Unit) (gG D cI cJ cT) l yX9_count (.code yX9_count cX9_count 2 (some .int)) (rmD 1) [.ref m, .int (nI 3)] [(m, .inr (9, [.int th, .int fd0, .int pc0, .int dw0, .int lt0, .ref mt, .ref mw, .ref mb, .ref ml, .ref mq, .ref mz, .ref ms, .ref mr, .int ic0, .ref mi, .int tr0, .int sg0, .int ln0, .int at0, .int rd0, .int dr0, .int ma0, .ref mk, .int en0, .ref mj, .ref mn]))] (fun _ => True) (fun u => some (.int en0)) (fun u => [(m, .inr (9, [.int (nI 0), .int fd0, .int pc0, .int dw0, .int lt0, .ref mt, .ref mw, .ref mb, .ref ml, .ref mq, .ref mz, .ref ms, .ref mr, .int ic0, .ref mi, .int tr0, .int sg0, .int ln0, .int at0, .int rd0, .int dr0, .int ma0, .ref mk, .int en0, .ref mj, .ref mn]))]) := by
  refine Fn.intro (by decide) (Nat.le_of_ble_eq_true rfl) ?_
  intro X hX hE hin
  subst hX
  show V (gG D cI cJ cT) X _ cX9_count 2 RX9 _ 0 0 [(0, .ref m), (1, .int (nI 3))] 0 []
  refine v_aload_n 0 dX9_count_0 rfl rfl ?_
  refine v_iconst (v := nI 0) dX9_count_1 (by decide) ?_
  refine v_put (ws' := [(m, .inr (9, [.int (nI 0), .int fd0, .int pc0, .int dw0, .int lt0, .ref mt, .ref mw, .ref mb, .ref ml, .ref mq, .ref mz, .ref ms, .ref mr, .int ic0, .ref mi, .int tr0, .int sg0, .int ln0, .int at0, .int rd0, .int dr0, .int ma0, .ref mk, .int en0, .ref mj, .ref mn]))]) fw_SampleDeskModel_47 0 rfl (rfl) (rfl) (Nat.le_of_ble_eq_true rfl) dX9_count_2 rfl ?_
  refine v_iload_n 1 dX9_count_5 rfl rfl ?_
  refine v_i2l (v := (nI 3).toInt64) dX9_count_6 (rfl) ?_
  refine v_lconst (v := 0) dX9_count_7 (by decide) ?_
  refine v_ldc2 (v := 4) k_c_SampleDeskModel_233 dX9_count_8 ?_
  refine v_callS (as := [.long ((nI 3).toInt64), .long 0, .long 4]) (rest := []) (ws' := fun u => [(m, .inr (9, [.int (nI 0), .int fd0, .int pc0, .int dw0, .int lt0, .ref mt, .ref mw, .ref mb, .ref ml, .ref mq, .ref mz, .ref ms, .ref mr, .int ic0, .ref mi, .int tr0, .int sg0, .int ln0, .int at0, .int rd0, .int dr0, .int ma0, .ref mk, .int en0, .ref mj, .ref mn]))]) m_SampleDeskModel_58 (kX9_within X.l (v := (nI 3).toInt64) (lo := 0) (hi := 4)) k_code_X9_within [] rfl rfl dX9_count_11 (Nat.le_of_ble_eq_true rfl) ⟨rfl, rfl, by decide, by decide⟩ ⟨Nat.zero_le _, Nat.zero_le _⟩ rfl rfl (fun _ => rfl) (v_mgU rfl (fun _ => rfl)) ?_
  intro uu c11
  try dsimp only at c11
  show V (gG D cI cJ cT) X (rmD 1) cX9_count 2 RX9 [(m, .inr (9, [.int (nI 0), .int fd0, .int pc0, .int dw0, .int lt0, .ref mt, .ref mw, .ref mb, .ref ml, .ref mq, .ref mz, .ref ms, .ref mr, .int ic0, .ref mi, .int tr0, .int sg0, .int ln0, .int at0, .int rd0, .int dr0, .int ma0, .ref mk, .int en0, .ref mj, .ref mn]))] 0 0 [(0, .ref m), (1, .int (nI 3))] 14 [.int (dI (wi ((nI 3).toInt64) 0 4))]
  refine v_topi (y := dI true) (congrArg dI ((show wi ((nI 3).toInt64) 0 4 = up (nI 3) 4 by rw [show (4 : Int64) = (4 : Int32).toInt64 by decide, wi_up]; try rfl).trans (upT1 (n := 4) (by decide) ⟨3, by decide, rfl⟩))) ?_
  refine v_if_ne (tgt := 19) dX9_count_14 (by decide) (fun b14 => ?_) (fun b14 => absurd b14 (by decide))
  refine v_iload_n 1 dX9_count_19 rfl rfl ?_
  refine v_iconst (v := nI 2) dX9_count_20 (by decide) ?_
  refine v_icmp_ge (tgt := 40) dX9_count_21 (by decide) (fun b21 => ?_) (fun b21 => absurd (by decide) b21)
  refine v_iload_n 1 dX9_count_40 rfl rfl ?_
  refine v_iconst (v := nI 2) dX9_count_41 (by decide) ?_
  refine v_icmp_ne (tgt := 52) dX9_count_42 (by decide) (fun b42 => ?_) (fun b42 => absurd b42 (by decide))
  refine v_iload_n 1 dX9_count_52 rfl rfl ?_
  refine v_iconst (v := nI 3) dX9_count_53 (by decide) ?_
  refine v_icmp_ne (tgt := 64) dX9_count_54 (by decide) (fun b54 => absurd b54 (fun q => q rfl)) (fun b54 => ?_)
  refine v_aload_n 0 dX9_count_57 rfl rfl ?_
  refine v_get f_SampleDeskModel_191 0 rfl rfl dX9_count_58 ?_
  refine v_goto (tgt := 68) dX9_count_61 (by decide) ?_
  exact v_iret hE dX9_count_68 () (trivial) rfl rfl
set_option maxRecDepth 100000 in
set_option maxHeartbeats 1000000 in
theorem kX9_count_4 {D : va_G} {cI cJ cT : ClassId} (l : Launch) {m mt mw mb ml mq mz ms mr mi mk mj mn : Nat} {th fd0 pc0 dw0 lt0 ic0 tr0 sg0 ln0 at0 rd0 dr0 ma0 en0 : Int32}   : Fn (S := Unit) (gG D cI cJ cT) l yX9_count (.code yX9_count cX9_count 2 (some .int)) (rmD 1) [.ref m, .int (nI 4)] [(m, .inr (9, [.int th, .int fd0, .int pc0, .int dw0, .int lt0, .ref mt, .ref mw, .ref mb, .ref ml, .ref mq, .ref mz, .ref ms, .ref mr, .int ic0, .ref mi, .int tr0, .int sg0, .int ln0, .int at0, .int rd0, .int dr0, .int ma0, .ref mk, .int en0, .ref mj, .ref mn]))] (fun _ => True) (fun u => some (.int dw0)) (fun u => [(m, .inr (9, [.int (nI 0), .int fd0, .int pc0, .int dw0, .int lt0, .ref mt, .ref mw, .ref mb, .ref ml, .ref mq, .ref mz, .ref ms, .ref mr, .int ic0, .ref mi, .int tr0, .int sg0, .int ln0, .int at0, .int rd0, .int dr0, .int ma0, .ref mk, .int en0, .ref mj, .ref mn]))]) := by
  refine Fn.intro (by decide) (Nat.le_of_ble_eq_true rfl) ?_
  intro X hX hE hin
  subst hX
  show V (gG D cI cJ cT) X _ cX9_count 2 RX9 _ 0 0 [(0, .ref m), (1, .int (nI 4))] 0 []
  refine v_aload_n 0 dX9_count_0 rfl rfl ?_
  refine v_iconst (v := nI 0) dX9_count_1 (by decide) ?_
  refine v_put (ws' := [(m, .inr (9, [.int (nI 0), .int fd0, .int pc0, .int dw0, .int lt0, .ref mt, .ref mw, .ref mb, .ref ml, .ref mq, .ref mz, .ref ms, .ref mr, .int ic0, .ref mi, .int tr0, .int sg0, .int ln0, .int at0, .int rd0, .int dr0, .int ma0, .ref mk, .int en0, .ref mj, .ref mn]))]) fw_SampleDeskModel_47 0 rfl (rfl) (rfl) (Nat.le_of_ble_eq_true rfl) dX9_count_2 rfl ?_
  refine v_iload_n 1 dX9_count_5 rfl rfl ?_
  refine v_i2l (v := (nI 4).toInt64) dX9_count_6 (rfl) ?_
  refine v_lconst (v := 0) dX9_count_7 (by decide) ?_
  refine v_ldc2 (v := 4) k_c_SampleDeskModel_233 dX9_count_8 ?_
  refine v_callS (as := [.long ((nI 4).toInt64), .long 0, .long 4]) (rest := []) (ws' := fun u => [(m, .inr (9, [.int (nI 0), .int fd0, .int pc0, .int dw0, .int lt0, .ref mt, .ref mw, .ref mb, .ref ml, .ref mq, .ref mz, .ref ms, .ref mr, .int ic0, .ref mi, .int tr0, .int sg0, .int ln0, .int at0, .int rd0, .int dr0, .int ma0, .ref mk, .int en0, .ref mj, .ref mn]))]) m_SampleDeskModel_58 (kX9_within X.l (v := (nI 4).toInt64) (lo := 0) (hi := 4)) k_code_X9_within [] rfl rfl dX9_count_11 (Nat.le_of_ble_eq_true rfl) ⟨rfl, rfl, by decide, by decide⟩ ⟨Nat.zero_le _, Nat.zero_le _⟩ rfl rfl (fun _ => rfl) (v_mgU rfl (fun _ => rfl)) ?_
  intro uu c11
  try dsimp only at c11
  show V (gG D cI cJ cT) X (rmD 1) cX9_count 2 RX9 [(m, .inr (9, [.int (nI 0), .int fd0, .int pc0, .int dw0, .int lt0, .ref mt, .ref mw, .ref mb, .ref ml, .ref mq, .ref mz, .ref ms, .ref mr, .int ic0, .ref mi, .int tr0, .int sg0, .int ln0, .int at0, .int rd0, .int dr0, .int ma0, .ref mk, .int en0, .ref mj, .ref mn]))] 0 0 [(0, .ref m), (1, .int (nI 4))] 14 [.int (dI (wi ((nI 4).toInt64) 0 4))]
  refine v_topi (y := dI true) (congrArg dI ((show wi ((nI 4).toInt64) 0 4 = up (nI 4) 4 by rw [show (4 : Int64) = (4 : Int32).toInt64 by decide, wi_up]; try rfl).trans (upT1 (n := 4) (by decide) ⟨4, by decide, rfl⟩))) ?_
  refine v_if_ne (tgt := 19) dX9_count_14 (by decide) (fun b14 => ?_) (fun b14 => absurd b14 (by decide))
  refine v_iload_n 1 dX9_count_19 rfl rfl ?_
  refine v_iconst (v := nI 2) dX9_count_20 (by decide) ?_
  refine v_icmp_ge (tgt := 40) dX9_count_21 (by decide) (fun b21 => ?_) (fun b21 => absurd (by decide) b21)
  refine v_iload_n 1 dX9_count_40 rfl rfl ?_
  refine v_iconst (v := nI 2) dX9_count_41 (by decide) ?_
  refine v_icmp_ne (tgt := 52) dX9_count_42 (by decide) (fun b42 => ?_) (fun b42 => absurd b42 (by decide))
  refine v_iload_n 1 dX9_count_52 rfl rfl ?_
  refine v_iconst (v := nI 3) dX9_count_53 (by decide) ?_
  refine v_icmp_ne (tgt := 64) dX9_count_54 (by decide) (fun b54 => ?_) (fun b54 => absurd b54 (by decide))
  refine v_aload_n 0 dX9_count_64 rfl rfl ?_
  refine v_get f_SampleDeskModel_218 0 rfl rfl dX9_count_65 ?_
  exact v_iret hE dX9_count_68 () (trivial) rfl rfl
