set_option maxRecDepth 100000 in
set_option maxHeartbeats 1000000 in
theorem kX9_replay_1 {D : va_G} {cI cJ cT : ClassId} (l : Launch) {m mt mw mb ml mq mz ms mr mi mk mj mn : Nat} {th fd0 pc0 dw0 lt0 ic0 tr0 sg0 ln0 at0 rd0 dr0 ma0 en0 : Int32} {en : Nat} {at0q : Int32} (hen : en ≤ 100) (hn : ¬ inR at0q en) : Fn (S := Unit) (gG D cI cJ cT) l yX9_replay (.code yX9_replay cX9_replay 6 (some .boolean)) (rmD 1) [.ref m, .int at0q] [(m, .inr (9, [.int th, .int fd0, .int pc0, .int dw0, .int lt0, .ref mt, .ref mw, .ref mb, .ref ml, .ref mq, .ref mz, .ref ms, .ref mr, .int ic0, .ref mi, .int tr0, .int sg0, .int ln0, .int at0, .int rd0, .int dr0, .int ma0, .ref mk, .int (nI en), .ref mj, .ref mn]))] (fun _ => True) (fun u => some (.int (dI false))) (fun u => [(m, .inr (9, [.int (nI 1), .int fd0, .int pc0, .int dw0, .int lt0, .ref mt, .ref mw, .ref mb, .ref ml, .ref mq, .ref mz, .ref ms, .ref mr, .int ic0, .ref mi, .int tr0, .int sg0, .int ln0, .int at0, .int rd0, .int dr0, .int ma0, .ref mk, .int (nI en), .ref mj, .ref mn]))]) := by
  refine Fn.intro (by decide) (Nat.le_of_ble_eq_true rfl) ?_
  intro X hX hE hin
  subst hX
  show V (gG D cI cJ cT) X _ cX9_replay 6 RX9 _ 0 0 [(0, .ref m), (1, .int at0q)] 0 []
  refine v_aload_n 0 dX9_replay_0 rfl rfl ?_
  refine v_iconst (v := nI 0) dX9_replay_1 (by decide) ?_
  refine v_put (ws' := [(m, .inr (9, [.int (nI 0), .int fd0, .int pc0, .int dw0, .int lt0, .ref mt, .ref mw, .ref mb, .ref ml, .ref mq, .ref mz, .ref ms, .ref mr, .int ic0, .ref mi, .int tr0, .int sg0, .int ln0, .int at0, .int rd0, .int dr0, .int ma0, .ref mk, .int (nI en), .ref mj, .ref mn]))]) fw_SampleDeskModel_47 0 rfl (rfl) (rfl) (Nat.le_of_ble_eq_true rfl) dX9_replay_2 rfl ?_
  refine v_iload_n 1 dX9_replay_5 rfl rfl ?_
  refine v_i2l (v := at0q.toInt64) dX9_replay_6 (rfl) ?_
  refine v_lconst (v := 0) dX9_replay_7 (by decide) ?_
  refine v_aload_n 0 dX9_replay_8 rfl rfl ?_
  refine v_get f_SampleDeskModel_191 0 rfl rfl dX9_replay_9 ?_
  refine v_iconst (v := nI 1) dX9_replay_12 (by decide) ?_
  refine v_isub dX9_replay_13 ?_
  refine v_i2l (v := (nI en - nI 1).toInt64) dX9_replay_14 (rfl) ?_
  refine v_callS (as := [.long at0q.toInt64, .long 0, .long ((nI en - nI 1).toInt64)]) (rest := []) (ws' := fun u => [(m, .inr (9, [.int (nI 0), .int fd0, .int pc0, .int dw0, .int lt0, .ref mt, .ref mw, .ref mb, .ref ml, .ref mq, .ref mz, .ref ms, .ref mr, .int ic0, .ref mi, .int tr0, .int sg0, .int ln0, .int at0, .int rd0, .int dr0, .int ma0, .ref mk, .int (nI en), .ref mj, .ref mn]))]) m_SampleDeskModel_58 (kX9_within X.l (v := at0q.toInt64) (lo := 0) (hi := (nI en - nI 1).toInt64)) k_code_X9_within [] rfl rfl dX9_replay_15 (Nat.le_of_ble_eq_true rfl) ⟨rfl, rfl, by decide, by decide⟩ ⟨Nat.zero_le _, Nat.zero_le _⟩ rfl rfl (fun _ => rfl) (v_mgU rfl (fun _ => rfl)) ?_
  intro uu c15
  try dsimp only at c15
  show V (gG D cI cJ cT) X (rmD 1) cX9_replay 6 RX9 [(m, .inr (9, [.int (nI 0), .int fd0, .int pc0, .int dw0, .int lt0, .ref mt, .ref mw, .ref mb, .ref ml, .ref mq, .ref mz, .ref ms, .ref mr, .int ic0, .ref mi, .int tr0, .int sg0, .int ln0, .int at0, .int rd0, .int dr0, .int ma0, .ref mk, .int (nI en), .ref mj, .ref mn]))] 0 0 [(0, .ref m), (1, .int at0q)] 18 [.int (dI (wi at0q.toInt64 0 ((nI en - nI 1).toInt64)))]
  refine v_topi (y := dI false) (congrArg dI ((show wi at0q.toInt64 0 ((nI en - nI 1).toInt64) = up at0q (nI en - nI 1) by exact wi_up _ _).trans (upF (by omega) hn))) ?_
  refine v_if_ne (tgt := 35) dX9_replay_18 (by decide) (fun b18 => absurd b18 (fun q => q rfl)) (fun b18 => ?_)
  refine v_aload_n 0 dX9_replay_21 rfl rfl ?_
  refine v_iconst (v := nI 1) dX9_replay_22 (by decide) ?_
  refine v_callV (as := [.int (nI 1)]) (rest := []) (ws' := fun u => [(m, .inr (9, [.int (nI 1), .int fd0, .int pc0, .int dw0, .int lt0, .ref mt, .ref mw, .ref mb, .ref ml, .ref mq, .ref mz, .ref ms, .ref mr, .int ic0, .ref mi, .int tr0, .int sg0, .int ln0, .int at0, .int rd0, .int dr0, .int ma0, .ref mk, .int (nI en), .ref mj, .ref mn]))]) m_SampleDeskModel_54 (kX9_fail X.l (m := m) (mt := mt) (mw := mw) (mb := mb) (ml := ml) (mq := mq) (mz := mz) (ms := ms) (mr := mr) (mi := mi) (mk := mk) (mj := mj) (mn := mn) (th := nI 0) (fd0 := fd0) (pc0 := pc0) (dw0 := dw0) (lt0 := lt0) (ic0 := ic0) (tr0 := tr0) (sg0 := sg0) (ln0 := ln0) (at0 := at0) (rd0 := rd0) (dr0 := dr0) (ma0 := ma0) (en0 := nI en) (cd := nI 1)) k_code_X9_fail [0] 0 rfl rfl rfl rfl dX9_replay_23 (Nat.le_of_ble_eq_true rfl) ⟨rfl, rfl, by decide, by decide⟩ ⟨Nat.zero_le _, Nat.zero_le _⟩ rfl rfl (fun _ => rfl) (v_mgU rfl (fun _ => rfl)) ?_
  intro uu c23
  try dsimp only at c23
  show V (gG D cI cJ cT) X (rmD 1) cX9_replay 6 RX9 [(m, .inr (9, [.int (nI 1), .int fd0, .int pc0, .int dw0, .int lt0, .ref mt, .ref mw, .ref mb, .ref ml, .ref mq, .ref mz, .ref ms, .ref mr, .int ic0, .ref mi, .int tr0, .int sg0, .int ln0, .int at0, .int rd0, .int dr0, .int ma0, .ref mk, .int (nI en), .ref mj, .ref mn]))] 0 0 [(0, .ref m), (1, .int at0q)] 26 [.int (nI 0)]
  refine v_if_le (tgt := 33) dX9_replay_26 (by decide) (fun b26 => ?_) (fun b26 => absurd (by decide) b26)
  refine v_iconst (v := dI false) dX9_replay_33 (by decide) ?_
  exact v_zret hE rfl dX9_replay_34 () trivial rfl rfl
set_option maxRecDepth 100000 in
set_option maxHeartbeats 1000000 in
theorem kX9_replay_0 {D : va_G} {cI cJ cT : ClassId} (l : Launch) {m mt mw mb ml mq mz ms mr mi mk mj mn : Nat} {th pc0 dw0 : Int32} {kd a b1 c : Int32} {y M : Nat} {W : Nat → Nat} {gB gZ gQ : Nat → Int32} {gL : Nat → Int64} {fd pl sg ln : Nat} {tp : Nat → Int32} {b : Nat → Nat} {gW gS : Nat → Int64} {gK gR : Nat → Int32} {tr0 at0 rd0 dr0 ma0 lt0 ic0 : Int32} {i en bi su : Nat} {an0 : Int64} {gJ : Nat → Int32} {gN : Nat → Int64} (hfd : fd ≤ 16384) (hb : ∀ p, b p < 2) (htp : ∀ p, p < fd → tp p = nI (b p)) (hpl : pl ≤ fd) (hok : okD kd a b1 c = true) (hW : ∀ x, x < 64 → gW (64 * y + x) = lN (W x)) (hWb : ∀ x, x < 64 → W x < 2 ^ 31) (hz : kd = nI 0 → a = nI y) (hy : y < 8) (hT : TBm M y W gB gZ gQ gL) (hen : en ≤ 100) (hi : i < en) (h0 : gJ (7 * i) = kd) (h1 : gJ (7 * i + 1) = a) (h2 : gJ (7 * i + 2) = b1) (h3 : gJ (7 * i + 3) = c) (h4 : gJ (7 * i + 4) = nI pl) (h5 : gJ (7 * i + 5) = nI bi) (h6 : gJ (7 * i + 6) = nI su) (h7 : gN i = an0) (hbi : bi ≤ 16384) (hsu : su < 1000003) : Fn (S := Int32 × Int32 × Int32 × Int32 × Int32 × (Nat → Int64) × (Nat → Int32) × (Nat → Int32)) (gG D cI cJ cT) l yX9_replay (.code yX9_replay cX9_replay 6 (some .boolean)) (rmD 6) [.ref m, .int (nI i)] [(m, .inr (9, [.int th, .int (nI fd), .int pc0, .int dw0, .int lt0, .ref mt, .ref mw, .ref mb, .ref ml, .ref mq, .ref mz, .ref ms, .ref mr, .int ic0, .ref mi, .int tr0, .int (nI sg), .int (nI ln), .int at0, .int rd0, .int dr0, .int ma0, .ref mk, .int (nI en), .ref mj, .ref mn])), (mt, .inl (cI, 16384, .inl tp)), (mw, .inl (cJ, 512, .inr (.inl gW))), (ms, .inl (cJ, 64, .inr (.inl gS))), (mb, .inl (cI, 8, .inl gB)), (ml, .inl (cJ, 512, .inr (.inl gL))), (mq, .inl (cI, 512, .inl gQ)), (mz, .inl (cI, 8, .inl gZ)), (mk, .inl (cI, 256, .inl gK)), (mr, .inl (cI, 512, .inl gR)), (mj, .inl (cI, 700, .inl gJ)), (mn, .inl (cJ, 100, .inr (.inl gN)))] (fun _ => True) (fun u => some (.int (dI (repV b fd (kd, a, b1, c, pl, bi, an0, su) W (M - 1) (rdM kd M))))) (fun u => [(m, .inr (9, [.int (nI 0), .int (nI fd), .int pc0, .int dw0, .int lt0, .ref mt, .ref mw, .ref mb, .ref ml, .ref mq, .ref mz, .ref ms, .ref mr, .int ic0, .ref mi, .int u.1, .int (nI sg), .int (nI ln), .int u.2.1, .int u.2.2.1, .int u.2.2.2.1, .int u.2.2.2.2.1, .ref mk, .int (nI en), .ref mj, .ref mn])), (mt, .inl (cI, 16384, .inl tp)), (mw, .inl (cJ, 512, .inr (.inl gW))), (ms, .inl (cJ, 64, .inr (.inl u.2.2.2.2.2.1))), (mb, .inl (cI, 8, .inl gB)), (ml, .inl (cJ, 512, .inr (.inl gL))), (mq, .inl (cI, 512, .inl gQ)), (mz, .inl (cI, 8, .inl gZ)), (mk, .inl (cI, 256, .inl u.2.2.2.2.2.2.1)), (mr, .inl (cI, 512, .inl u.2.2.2.2.2.2.2)), (mj, .inl (cI, 700, .inl gJ)), (mn, .inl (cJ, 100, .inr (.inl gN)))]) := by
  refine Fn.intro (by decide) (Nat.le_of_ble_eq_true rfl) ?_
  intro X hX hE hin
  subst hX
  show V (gG D cI cJ cT) X _ cX9_replay 6 RX9 _ 0 0 [(0, .ref m), (1, .int (nI i))] 0 []
  refine v_aload_n 0 dX9_replay_0 rfl rfl ?_
  refine v_iconst (v := nI 0) dX9_replay_1 (by decide) ?_
  refine v_put (ws' := [(m, .inr (9, [.int (nI 0), .int (nI fd), .int pc0, .int dw0, .int lt0, .ref mt, .ref mw, .ref mb, .ref ml, .ref mq, .ref mz, .ref ms, .ref mr, .int ic0, .ref mi, .int tr0, .int (nI sg), .int (nI ln), .int at0, .int rd0, .int dr0, .int ma0, .ref mk, .int (nI en), .ref mj, .ref mn])), (mt, .inl (cI, 16384, .inl tp)), (mw, .inl (cJ, 512, .inr (.inl gW))), (ms, .inl (cJ, 64, .inr (.inl gS))), (mb, .inl (cI, 8, .inl gB)), (ml, .inl (cJ, 512, .inr (.inl gL))), (mq, .inl (cI, 512, .inl gQ)), (mz, .inl (cI, 8, .inl gZ)), (mk, .inl (cI, 256, .inl gK)), (mr, .inl (cI, 512, .inl gR)), (mj, .inl (cI, 700, .inl gJ)), (mn, .inl (cJ, 100, .inr (.inl gN)))]) fw_SampleDeskModel_47 0 rfl (rfl) (rfl) (Nat.le_of_ble_eq_true rfl) dX9_replay_2 rfl ?_
  refine v_iload_n 1 dX9_replay_5 rfl rfl ?_
  refine v_i2l (v := (nI i).toInt64) dX9_replay_6 (rfl) ?_
  refine v_lconst (v := 0) dX9_replay_7 (by decide) ?_
  refine v_aload_n 0 dX9_replay_8 rfl rfl ?_
  refine v_get f_SampleDeskModel_191 0 rfl rfl dX9_replay_9 ?_
  refine v_iconst (v := nI 1) dX9_replay_12 (by decide) ?_
  refine v_isub dX9_replay_13 ?_
  refine v_i2l (v := (nI en - nI 1).toInt64) dX9_replay_14 (rfl) ?_
  refine v_callS (as := [.long ((nI i).toInt64), .long 0, .long ((nI en - nI 1).toInt64)]) (rest := []) (ws' := fun u => [(m, .inr (9, [.int (nI 0), .int (nI fd), .int pc0, .int dw0, .int lt0, .ref mt, .ref mw, .ref mb, .ref ml, .ref mq, .ref mz, .ref ms, .ref mr, .int ic0, .ref mi, .int tr0, .int (nI sg), .int (nI ln), .int at0, .int rd0, .int dr0, .int ma0, .ref mk, .int (nI en), .ref mj, .ref mn])), (mt, .inl (cI, 16384, .inl tp)), (mw, .inl (cJ, 512, .inr (.inl gW))), (ms, .inl (cJ, 64, .inr (.inl gS))), (mb, .inl (cI, 8, .inl gB)), (ml, .inl (cJ, 512, .inr (.inl gL))), (mq, .inl (cI, 512, .inl gQ)), (mz, .inl (cI, 8, .inl gZ)), (mk, .inl (cI, 256, .inl gK)), (mr, .inl (cI, 512, .inl gR)), (mj, .inl (cI, 700, .inl gJ)), (mn, .inl (cJ, 100, .inr (.inl gN)))]) m_SampleDeskModel_58 (kX9_within X.l (v := (nI i).toInt64) (lo := 0) (hi := (nI en - nI 1).toInt64)) k_code_X9_within [] rfl rfl dX9_replay_15 (Nat.le_of_ble_eq_true rfl) ⟨rfl, rfl, by decide, by decide⟩ ⟨Nat.zero_le _, Nat.zero_le _⟩ rfl rfl (fun _ => rfl) (v_mgU rfl (fun _ => rfl)) ?_
  intro uu c15
  try dsimp only at c15
  show V (gG D cI cJ cT) X (rmD 6) cX9_replay 6 RX9 [(m, .inr (9, [.int (nI 0), .int (nI fd), .int pc0, .int dw0, .int lt0, .ref mt, .ref mw, .ref mb, .ref ml, .ref mq, .ref mz, .ref ms, .ref mr, .int ic0, .ref mi, .int tr0, .int (nI sg), .int (nI ln), .int at0, .int rd0, .int dr0, .int ma0, .ref mk, .int (nI en), .ref mj, .ref mn])), (mt, .inl (cI, 16384, .inl tp)), (mw, .inl (cJ, 512, .inr (.inl gW))), (ms, .inl (cJ, 64, .inr (.inl gS))), (mb, .inl (cI, 8, .inl gB)), (ml, .inl (cJ, 512, .inr (.inl gL))), (mq, .inl (cI, 512, .inl gQ)), (mz, .inl (cI, 8, .inl gZ)), (mk, .inl (cI, 256, .inl gK)), (mr, .inl (cI, 512, .inl gR)), (mj, .inl (cI, 700, .inl gJ)), (mn, .inl (cJ, 100, .inr (.inl gN)))] 0 0 [(0, .ref m), (1, .int (nI i))] 18 [.int (dI (wi ((nI i).toInt64) 0 ((nI en - nI 1).toInt64)))]
  refine v_topi (y := dI true) (congrArg dI ((show wi ((nI i).toInt64) 0 ((nI en - nI 1).toInt64) = up (nI i) (nI en - nI 1) by exact wi_up _ _).trans (upT (by omega) ⟨i, hi, rfl⟩))) ?_
  refine v_if_ne (tgt := 35) dX9_replay_18 (by decide) (fun b18 => ?_) (fun b18 => absurd b18 (by decide))
  refine v_aload_n 0 dX9_replay_35 rfl rfl ?_
  refine v_get f_SampleDeskModel_41 0 rfl rfl dX9_replay_36 ?_
  refine v_bipush (v := nI 7) dX9_replay_39 (by decide) ?_
  refine v_iload_n 1 dX9_replay_41 rfl rfl ?_
  refine v_imul dX9_replay_42 ?_
  refine v_topi (y := nI (7 * i)) (pk_mul _ _) ?_
  refine v_iald 0 10 rfl rfl (by omega) (by omega) dX9_replay_43 ?_
  refine v_topi (y := kd) (h0) ?_
  refine v_istore_n (lv' := [(2, .int kd), (0, .ref m), (1, .int (nI i))]) dX9_replay_44 rfl (by decide) rfl ?_
  refine v_aload_n 1 dX9_replay_45 rfl rfl ?_
  refine v_get f_SampleDeskModel_41 0 rfl rfl dX9_replay_46 ?_
  refine v_bipush (v := nI 7) dX9_replay_49 (by decide) ?_
  refine v_iload_n 2 dX9_replay_51 rfl rfl ?_
  refine v_imul dX9_replay_52 ?_
  refine v_topi (y := nI (7 * i)) (pk_mul _ _) ?_
  refine v_iconst (v := nI 1) dX9_replay_53 (by decide) ?_
  refine v_iadd dX9_replay_54 ?_
  refine v_topi (y := nI (7 * i + 1)) (nI_add _ _) ?_
  refine v_iald 0 10 rfl rfl (by omega) (by omega) dX9_replay_55 ?_
  refine v_topi (y := a) (h1) ?_
  refine v_istore_n (lv' := [(3, .int a), (2, .int kd), (0, .ref m), (1, .int (nI i))]) dX9_replay_56 rfl (by decide) rfl ?_
  refine v_aload_n 2 dX9_replay_57 rfl rfl ?_
  refine v_iload_n 1 dX9_replay_58 rfl rfl ?_
  refine v_iload_n 0 dX9_replay_59 rfl rfl ?_
  refine v_callV (as := [.int kd, .int a]) (rest := []) (ws' := fun u => [(m, .inr (9, [.int (nI 0), .int (nI fd), .int pc0, .int dw0, .int lt0, .ref mt, .ref mw, .ref mb, .ref ml, .ref mq, .ref mz, .ref ms, .ref mr, .int ic0, .ref mi, .int tr0, .int (nI sg), .int (nI ln), .int at0, .int rd0, .int dr0, .int ma0, .ref mk, .int (nI en), .ref mj, .ref mn])), (mt, .inl (cI, 16384, .inl tp)), (mw, .inl (cJ, 512, .inr (.inl gW))), (ms, .inl (cJ, 64, .inr (.inl gS))), (mb, .inl (cI, 8, .inl gB)), (ml, .inl (cJ, 512, .inr (.inl gL))), (mq, .inl (cI, 512, .inl gQ)), (mz, .inl (cI, 8, .inl gZ)), (mk, .inl (cI, 256, .inl gK)), (mr, .inl (cI, 512, .inl gR)), (mj, .inl (cI, 700, .inl gJ)), (mn, .inl (cJ, 100, .inr (.inl gN)))]) m_SampleDeskModel_201 (kX9_isReady X.l (m := m) (mt := mt) (mw := mw) (mb := mb) (ml := ml) (mq := mq) (mz := mz) (ms := ms) (mr := mr) (mi := mi) (mk := mk) (mj := mj) (mn := mn) (th := nI 0) (fd0 := nI fd) (pc0 := pc0) (dw0 := dw0) (lt0 := lt0) (ic0 := ic0) (tr0 := tr0) (sg0 := nI sg) (ln0 := nI ln) (at0 := at0) (rd0 := rd0) (dr0 := dr0) (ma0 := ma0) (en0 := nI en) (kd := kd) (a := a) (y := y) (M := M) (gB := gB) (fun hk => ⟨hz hk, hy, hT.1⟩) hT.2.1) k_code_X9_isReady [0, 4] 0 rfl rfl rfl rfl dX9_replay_60 (Nat.le_of_ble_eq_true rfl) ⟨rfl, rfl, by decide, by decide⟩ ⟨Nat.zero_le _, Nat.zero_le _⟩ rfl rfl (fun _ => rfl) (v_mgU rfl (fun _ => rfl)) ?_
  intro uu c60
  try dsimp only at c60
  show V (gG D cI cJ cT) X (rmD 6) cX9_replay 6 RX9 [(m, .inr (9, [.int (nI 0), .int (nI fd), .int pc0, .int dw0, .int lt0, .ref mt, .ref mw, .ref mb, .ref ml, .ref mq, .ref mz, .ref ms, .ref mr, .int ic0, .ref mi, .int tr0, .int (nI sg), .int (nI ln), .int at0, .int rd0, .int dr0, .int ma0, .ref mk, .int (nI en), .ref mj, .ref mn])), (mt, .inl (cI, 16384, .inl tp)), (mw, .inl (cJ, 512, .inr (.inl gW))), (ms, .inl (cJ, 64, .inr (.inl gS))), (mb, .inl (cI, 8, .inl gB)), (ml, .inl (cJ, 512, .inr (.inl gL))), (mq, .inl (cI, 512, .inl gQ)), (mz, .inl (cI, 8, .inl gZ)), (mk, .inl (cI, 256, .inl gK)), (mr, .inl (cI, 512, .inl gR)), (mj, .inl (cI, 700, .inl gJ)), (mn, .inl (cJ, 100, .inr (.inl gN)))] 0 0 [(3, .int a), (2, .int kd), (0, .ref m), (1, .int (nI i))] 63 [.int (dI (rdM kd M))]
  refine v_if_ne (tgt := 68) dX9_replay_63 (by decide) (fun b63 => ?_) (fun b63 => ?_)
  · have b63 : ¬ ((rdM kd M) = false) := fun q => b63 ((dI_0 _).mpr q)
    refine v_aload_n 2 dX9_replay_68 rfl rfl ?_
    refine v_iconst (v := dI false) dX9_replay_69 (by decide) ?_
    refine v_put (ws' := [(m, .inr (9, [.int (nI 0), .int (nI fd), .int pc0, .int dw0, .int lt0, .ref mt, .ref mw, .ref mb, .ref ml, .ref mq, .ref mz, .ref ms, .ref mr, .int ic0, .ref mi, .int (dI false), .int (nI sg), .int (nI ln), .int at0, .int rd0, .int dr0, .int ma0, .ref mk, .int (nI en), .ref mj, .ref mn])), (mt, .inl (cI, 16384, .inl tp)), (mw, .inl (cJ, 512, .inr (.inl gW))), (ms, .inl (cJ, 64, .inr (.inl gS))), (mb, .inl (cI, 8, .inl gB)), (ml, .inl (cJ, 512, .inr (.inl gL))), (mq, .inl (cI, 512, .inl gQ)), (mz, .inl (cI, 8, .inl gZ)), (mk, .inl (cI, 256, .inl gK)), (mr, .inl (cI, 512, .inl gR)), (mj, .inl (cI, 700, .inl gJ)), (mn, .inl (cJ, 100, .inr (.inl gN)))]) fw_SampleDeskModel_84 0 rfl (rfl) (rfl) (Nat.le_of_ble_eq_true rfl) dX9_replay_70 rfl ?_
    refine v_aload_n 2 dX9_replay_73 rfl rfl ?_
    refine v_iload_n 1 dX9_replay_74 rfl rfl ?_
    refine v_iload_n 0 dX9_replay_75 rfl rfl ?_
    refine v_aload_n 2 dX9_replay_76 rfl rfl ?_
    refine v_get f_SampleDeskModel_41 0 rfl rfl dX9_replay_77 ?_
    refine v_bipush (v := nI 7) dX9_replay_80 (by decide) ?_
    refine v_iload_n 3 dX9_replay_82 rfl rfl ?_
    refine v_imul dX9_replay_83 ?_
    refine v_topi (y := nI (7 * i)) (pk_mul _ _) ?_
    refine v_iconst (v := nI 2) dX9_replay_84 (by decide) ?_
    refine v_iadd dX9_replay_85 ?_
    refine v_topi (y := nI (7 * i + 2)) (nI_add _ _) ?_
    refine v_iald 0 10 rfl rfl (by omega) (by omega) dX9_replay_86 ?_
    refine v_topi (y := b1) (h2) ?_
    refine v_aload_n 2 dX9_replay_87 rfl rfl ?_
    refine v_get f_SampleDeskModel_41 0 rfl rfl dX9_replay_88 ?_
    refine v_bipush (v := nI 7) dX9_replay_91 (by decide) ?_
    refine v_iload_n 3 dX9_replay_93 rfl rfl ?_
    refine v_imul dX9_replay_94 ?_
    refine v_topi (y := nI (7 * i)) (pk_mul _ _) ?_
    refine v_iconst (v := nI 3) dX9_replay_95 (by decide) ?_
    refine v_iadd dX9_replay_96 ?_
    refine v_topi (y := nI (7 * i + 3)) (nI_add _ _) ?_
    refine v_iald 0 10 rfl rfl (by omega) (by omega) dX9_replay_97 ?_
    refine v_topi (y := c) (h3) ?_
    refine v_aload_n 2 dX9_replay_98 rfl rfl ?_
    refine v_get f_SampleDeskModel_41 0 rfl rfl dX9_replay_99 ?_
    refine v_bipush (v := nI 7) dX9_replay_102 (by decide) ?_
    refine v_iload_n 3 dX9_replay_104 rfl rfl ?_
    refine v_imul dX9_replay_105 ?_
    refine v_topi (y := nI (7 * i)) (pk_mul _ _) ?_
    refine v_iconst (v := nI 4) dX9_replay_106 (by decide) ?_
    refine v_iadd dX9_replay_107 ?_
    refine v_topi (y := nI (7 * i + 4)) (nI_add _ _) ?_
    refine v_iald 0 10 rfl rfl (by omega) (by omega) dX9_replay_108 ?_
    refine v_topi (y := nI pl) (h4) ?_
    have hr : rdM kd M = true := by simpa using b63
    refine v_callV (as := [.int kd, .int a, .int b1, .int c, .int (nI pl)]) (rest := []) (ws' := fun u => [(m, .inr (9, [.int (nI 0), .int (nI fd), .int pc0, .int dw0, .int lt0, .ref mt, .ref mw, .ref mb, .ref ml, .ref mq, .ref mz, .ref ms, .ref mr, .int ic0, .ref mi, .int (dI false), .int (nI sg), .int (nI ln), .int (nI u.2.2.2.2.2.1), .int (nI (u.2.2.2.2.2.1 - pl)), .int (dI u.2.2.2.2.2.2), .int u.2.1, .ref mk, .int (nI en), .ref mj, .ref mn])), (mt, .inl (cI, 16384, .inl tp)), (mw, .inl (cJ, 512, .inr (.inl gW))), (ms, .inl (cJ, 64, .inr (.inl u.2.2.1))), (mb, .inl (cI, 8, .inl gB)), (ml, .inl (cJ, 512, .inr (.inl gL))), (mq, .inl (cI, 512, .inl gQ)), (mz, .inl (cI, 8, .inl gZ)), (mk, .inl (cI, 256, .inl u.2.2.2.1)), (mr, .inl (cI, 512, .inl u.2.2.2.2.1)), (mj, .inl (cI, 700, .inl gJ)), (mn, .inl (cJ, 100, .inr (.inl gN)))]) m_SampleDeskModel_204 (kX9_go X.l (m := m) (mt := mt) (mw := mw) (mb := mb) (ml := ml) (mq := mq) (mz := mz) (ms := ms) (mr := mr) (mi := mi) (mk := mk) (mj := mj) (mn := mn) (lt0 := lt0) (ic0 := ic0) (fd := fd) (tp := tp) (y := y) (gW := gW) (gS := gS) (gL := gL) (W := W) (gB := gB) (gQ := gQ) (gZ := gZ) (gK := gK) (gR := gR) (kd := kd) (a := a) (b1 := b1) (c := c) (sg := sg) (ln := ln) (at0 := at0) (rd0 := rd0) (dr0 := dr0) (ma0 := ma0) (th := nI 0) (pc0 := pc0) (dw0 := dw0) (en0 := (nI en)) (fr := pl) (e := fd) (tr := false) (b := b) (mm := M - 1) ⟨hfd, hb, fun _ => ⟨rfl, htp⟩, (fun h => nomatch h)⟩ (by omega) hok hW hWb hy (TBm_go hT hz (rdM_pos hr))) k_code_X9_go [0, 1, 2, 3, 4, 5, 6, 7, 8, 9] 0 rfl rfl rfl rfl dX9_replay_109 (Nat.le_of_ble_eq_true rfl) ⟨rfl, rfl, by decide, by decide⟩ ⟨Nat.zero_le _, Nat.zero_le _⟩ rfl rfl (fun _ => rfl) (v_mgU rfl (fun _ => rfl)) ?_
    intro u109 c109
    obtain ⟨an, ma1, g1, g2, g3, p1, d1⟩ := u109
    try dsimp only at c109
    show V (gG D cI cJ cT) X (rmD 6) cX9_replay 6 RX9 [(m, .inr (9, [.int (nI 0), .int (nI fd), .int pc0, .int dw0, .int lt0, .ref mt, .ref mw, .ref mb, .ref ml, .ref mq, .ref mz, .ref ms, .ref mr, .int ic0, .ref mi, .int (dI false), .int (nI sg), .int (nI ln), .int (nI p1), .int (nI (p1 - pl)), .int (dI d1), .int ma1, .ref mk, .int (nI en), .ref mj, .ref mn])), (mt, .inl (cI, 16384, .inl tp)), (mw, .inl (cJ, 512, .inr (.inl gW))), (ms, .inl (cJ, 64, .inr (.inl g1))), (mb, .inl (cI, 8, .inl gB)), (ml, .inl (cJ, 512, .inr (.inl gL))), (mq, .inl (cI, 512, .inl gQ)), (mz, .inl (cI, 8, .inl gZ)), (mk, .inl (cI, 256, .inl g2)), (mr, .inl (cI, 512, .inl g3)), (mj, .inl (cI, 700, .inl gJ)), (mn, .inl (cJ, 100, .inr (.inl gN)))] 0 0 [(3, .int a), (2, .int kd), (0, .ref m), (1, .int (nI i))] 112 [.long an]
    rcases d1 with _ | _
    · show V (gG D cI cJ cT) X (rmD 6) cX9_replay 6 RX9 [(m, .inr (9, [.int (nI 0), .int (nI fd), .int pc0, .int dw0, .int lt0, .ref mt, .ref mw, .ref mb, .ref ml, .ref mq, .ref mz, .ref ms, .ref mr, .int ic0, .ref mi, .int (dI false), .int (nI sg), .int (nI ln), .int (nI p1), .int (nI (p1 - pl)), .int (dI false), .int ma1, .ref mk, .int (nI en), .ref mj, .ref mn])), (mt, .inl (cI, 16384, .inl tp)), (mw, .inl (cJ, 512, .inr (.inl gW))), (ms, .inl (cJ, 64, .inr (.inl g1))), (mb, .inl (cI, 8, .inl gB)), (ml, .inl (cJ, 512, .inr (.inl gL))), (mq, .inl (cI, 512, .inl gQ)), (mz, .inl (cI, 8, .inl gZ)), (mk, .inl (cI, 256, .inl g2)), (mr, .inl (cI, 512, .inl g3)), (mj, .inl (cI, 700, .inl gJ)), (mn, .inl (cJ, 100, .inr (.inl gN)))] 0 0 [(3, .int a), (2, .int kd), (0, .ref m), (1, .int (nI i))] 112 [.long an]
      obtain ⟨r, q1, q2, q3, q4⟩ := Rg_ok c109 rfl rfl
      have hsz := sAnsI_sz hok q1
      have hbd := sAnsI_bd hok q1
      have q5 := q2.2
      refine v_lstore (lv' := [(4, .long an), (3, .int a), (2, .int kd), (0, .ref m), (1, .int (nI i))]) dX9_replay_112 (by decide) rfl ?_
      refine v_aload_n 3 dX9_replay_114 rfl rfl ?_
      refine v_get f_SampleDeskModel_77 0 rfl rfl dX9_replay_115 ?_
      refine v_if_ne (tgt := 175) dX9_replay_118 (by decide) (fun b118 => absurd b118 (fun q => q rfl)) (fun b118 => ?_)
      refine v_aload_n 3 dX9_replay_121 rfl rfl ?_
      refine v_get f_SampleDeskModel_93 0 rfl rfl dX9_replay_122 ?_
      refine v_aload_n 3 dX9_replay_125 rfl rfl ?_
      refine v_get f_SampleDeskModel_41 0 rfl rfl dX9_replay_126 ?_
      refine v_bipush (v := nI 7) dX9_replay_129 (by decide) ?_
      refine v_iload_n 4 dX9_replay_131 rfl rfl ?_
      refine v_imul dX9_replay_132 ?_
      refine v_topi (y := nI (7 * i)) (pk_mul _ _) ?_
      refine v_iconst (v := nI 5) dX9_replay_133 (by decide) ?_
      refine v_iadd dX9_replay_134 ?_
      refine v_topi (y := nI (7 * i + 5)) (nI_add _ _) ?_
      refine v_iald 0 10 rfl rfl (by omega) (by omega) dX9_replay_135 ?_
      refine v_topi (y := nI bi) (h5) ?_
      refine v_icmp_ne (tgt := 175) dX9_replay_136 (by decide) (fun b136 => ?_) (fun b136 => ?_)
      · have b136 : ¬ (p1 - pl = bi) := fun q => b136 ((nI_eq (by omega) (by omega)).mpr q)
        refine v_iconst (v := dI false) dX9_replay_175 (by decide) ?_
        exact v_zret hE rfl dX9_replay_176 (dI false, nI p1, nI (p1 - pl), dI false, ma1, g1, g2, g3) trivial (congrArg (fun z => some (Value.int (dI z))) (show (repV b fd (kd, a, b1, c, pl, bi, an0, su) W (M - 1) (rdM kd M)) = false by unfold repV; dsimp only; rw [hr, q1]; simp [q2.1.symm, *])) rfl
      · have b136 : p1 - pl = bi := (nI_eq (by omega) (by omega)).mp b136
        refine v_lload 0 dX9_replay_139 rfl ?_
        refine v_aload_n 3 dX9_replay_141 rfl rfl ?_
        refine v_get f_SampleDeskModel_44 0 rfl rfl dX9_replay_142 ?_
        refine v_iload_n 4 dX9_replay_145 rfl rfl ?_
        refine v_lald 1 11 rfl rfl (by omega) (by omega) dX9_replay_146 ?_
        refine v_topl (y := an0) (h7) ?_
        refine v_lcmp dX9_replay_147 ?_
        refine v_if_ne (tgt := 175) dX9_replay_148 (by decide) (fun b148 => ?_) (fun b148 => ?_)
        · have b148 : ¬ (an = an0) := fun q => b148 ((lg_cmp_eq _ _).mpr q)
          refine v_iconst (v := dI false) dX9_replay_175 (by decide) ?_
          exact v_zret hE rfl dX9_replay_176 (dI false, nI p1, nI (p1 - pl), dI false, ma1, g1, g2, g3) trivial (congrArg (fun z => some (Value.int (dI z))) (show (repV b fd (kd, a, b1, c, pl, bi, an0, su) W (M - 1) (rdM kd M)) = false by unfold repV; dsimp only; rw [hr, q1]; simp [q2.1.symm, *])) rfl
        · have b148 : an = an0 := (lg_cmp_eq _ _).mp b148
          refine v_aload_n 3 dX9_replay_151 rfl rfl ?_
          refine v_iload_n 2 dX9_replay_152 rfl rfl ?_
          refine v_callV (as := [.int kd]) (rest := []) (ws' := fun u => [(m, .inr (9, [.int (nI 0), .int (nI fd), .int pc0, .int dw0, .int lt0, .ref mt, .ref mw, .ref mb, .ref ml, .ref mq, .ref mz, .ref ms, .ref mr, .int ic0, .ref mi, .int (dI false), .int (nI sg), .int (nI ln), .int (nI p1), .int (nI (p1 - pl)), .int (dI false), .int ma1, .ref mk, .int (nI en), .ref mj, .ref mn])), (mt, .inl (cI, 16384, .inl tp)), (mw, .inl (cJ, 512, .inr (.inl gW))), (ms, .inl (cJ, 64, .inr (.inl g1))), (mb, .inl (cI, 8, .inl gB)), (ml, .inl (cJ, 512, .inr (.inl gL))), (mq, .inl (cI, 512, .inl gQ)), (mz, .inl (cI, 8, .inl gZ)), (mk, .inl (cI, 256, .inl g2)), (mr, .inl (cI, 512, .inl g3)), (mj, .inl (cI, 700, .inl gJ)), (mn, .inl (cJ, 100, .inr (.inl gN)))]) m_SampleDeskModel_194 (kX9_sumAny X.l (m := m) (mt := mt) (mw := mw) (mb := mb) (ml := ml) (mq := mq) (mz := mz) (ms := ms) (mr := mr) (mi := mi) (mk := mk) (mj := mj) (mn := mn) (th := nI 0) (fd0 := nI fd) (pc0 := pc0) (dw0 := dw0) (lt0 := lt0) (ic0 := ic0) (tr0 := dI false) (sg0 := nI sg) (ln0 := nI ln) (at0 := nI p1) (rd0 := nI (p1 - pl)) (dr0 := dI false) (ma0 := ma1) (en0 := nI en) (n1 := r.2.1) (kd := kd) (gK := g2) (F := r.2.2) hsz.2 (fun h8 => ⟨(q5 (fun h9 => h8 ((le8 _).mpr h9))).1, hsz.1, (q5 (fun h9 => h8 ((le8 _).mpr h9))).2, hbd⟩)) k_code_X9_sumOfItems [0, 8] 0 rfl rfl rfl rfl dX9_replay_153 (Nat.le_of_ble_eq_true rfl) ⟨rfl, rfl, by decide, by decide⟩ ⟨Nat.zero_le _, Nat.zero_le _⟩ rfl rfl (fun _ => rfl) (v_mgU rfl (fun _ => rfl)) ?_
          intro uu c153
          try dsimp only at c153
          show V (gG D cI cJ cT) X (rmD 6) cX9_replay 6 RX9 [(m, .inr (9, [.int (nI 0), .int (nI fd), .int pc0, .int dw0, .int lt0, .ref mt, .ref mw, .ref mb, .ref ml, .ref mq, .ref mz, .ref ms, .ref mr, .int ic0, .ref mi, .int (dI false), .int (nI sg), .int (nI ln), .int (nI p1), .int (nI (p1 - pl)), .int (dI false), .int ma1, .ref mk, .int (nI en), .ref mj, .ref mn])), (mt, .inl (cI, 16384, .inl tp)), (mw, .inl (cJ, 512, .inr (.inl gW))), (ms, .inl (cJ, 64, .inr (.inl g1))), (mb, .inl (cI, 8, .inl gB)), (ml, .inl (cJ, 512, .inr (.inl gL))), (mq, .inl (cI, 512, .inl gQ)), (mz, .inl (cI, 8, .inl gZ)), (mk, .inl (cI, 256, .inl g2)), (mr, .inl (cI, 512, .inl g3)), (mj, .inl (cI, 700, .inl gJ)), (mn, .inl (cJ, 100, .inr (.inl gN)))] 0 0 [(4, .long an), (3, .int a), (2, .int kd), (0, .ref m), (1, .int (nI i))] 156 [.int (nI (csN r.2.2 r.2.1 % 1000003))]
          have hmo := Nat.mod_lt (csN r.2.2 r.2.1) (show 0 < 1000003 by decide)
          refine v_aload_n 3 dX9_replay_156 rfl rfl ?_
          refine v_get f_SampleDeskModel_41 0 rfl rfl dX9_replay_157 ?_
          refine v_bipush (v := nI 7) dX9_replay_160 (by decide) ?_
          refine v_iload_n 4 dX9_replay_162 rfl rfl ?_
          refine v_imul dX9_replay_163 ?_
          refine v_topi (y := nI (7 * i)) (pk_mul _ _) ?_
          refine v_bipush (v := nI 6) dX9_replay_164 (by decide) ?_
          refine v_iadd dX9_replay_166 ?_
          refine v_topi (y := nI (7 * i + 6)) (nI_add _ _) ?_
          refine v_iald 0 10 rfl rfl (by omega) (by omega) dX9_replay_167 ?_
          refine v_topi (y := nI su) (h6) ?_
          refine v_icmp_ne (tgt := 175) dX9_replay_168 (by decide) (fun b168 => ?_) (fun b168 => ?_)
          · have b168 : ¬ (csN r.2.2 r.2.1 % 1000003 = su) := fun q => b168 ((nI_eq (by omega) (by omega)).mpr q)
            refine v_iconst (v := dI false) dX9_replay_175 (by decide) ?_
            exact v_zret hE rfl dX9_replay_176 (dI false, nI p1, nI (p1 - pl), dI false, ma1, g1, g2, g3) trivial (congrArg (fun z => some (Value.int (dI z))) (show (repV b fd (kd, a, b1, c, pl, bi, an0, su) W (M - 1) (rdM kd M)) = false by unfold repV; dsimp only; rw [hr, q1]; simp [q2.1.symm, *])) rfl
          · have b168 : csN r.2.2 r.2.1 % 1000003 = su := (nI_eq (by omega) (by omega)).mp b168
            refine v_iconst (v := dI true) dX9_replay_171 (by decide) ?_
            refine v_goto (tgt := 176) dX9_replay_172 (by decide) ?_
            exact v_zret hE rfl dX9_replay_176 (dI false, nI p1, nI (p1 - pl), dI false, ma1, g1, g2, g3) trivial (congrArg (fun z => some (Value.int (dI z))) (show (repV b fd (kd, a, b1, c, pl, bi, an0, su) W (M - 1) (rdM kd M)) = true by unfold repV; dsimp only; rw [hr, q1]; simp [q2.1.symm, *])) rfl
    · show V (gG D cI cJ cT) X (rmD 6) cX9_replay 6 RX9 [(m, .inr (9, [.int (nI 0), .int (nI fd), .int pc0, .int dw0, .int lt0, .ref mt, .ref mw, .ref mb, .ref ml, .ref mq, .ref mz, .ref ms, .ref mr, .int ic0, .ref mi, .int (dI false), .int (nI sg), .int (nI ln), .int (nI p1), .int (nI (p1 - pl)), .int (dI true), .int ma1, .ref mk, .int (nI en), .ref mj, .ref mn])), (mt, .inl (cI, 16384, .inl tp)), (mw, .inl (cJ, 512, .inr (.inl gW))), (ms, .inl (cJ, 64, .inr (.inl g1))), (mb, .inl (cI, 8, .inl gB)), (ml, .inl (cJ, 512, .inr (.inl gL))), (mq, .inl (cI, 512, .inl gQ)), (mz, .inl (cI, 8, .inl gZ)), (mk, .inl (cI, 256, .inl g2)), (mr, .inl (cI, 512, .inl g3)), (mj, .inl (cI, 700, .inl gJ)), (mn, .inl (cJ, 100, .inr (.inl gN)))] 0 0 [(3, .int a), (2, .int kd), (0, .ref m), (1, .int (nI i))] 112 [.long an]
      have q1 := Rg_no c109 rfl rfl
      refine v_lstore (lv' := [(4, .long an), (3, .int a), (2, .int kd), (0, .ref m), (1, .int (nI i))]) dX9_replay_112 (by decide) rfl ?_
      refine v_aload_n 3 dX9_replay_114 rfl rfl ?_
      refine v_get f_SampleDeskModel_77 0 rfl rfl dX9_replay_115 ?_
      refine v_if_ne (tgt := 175) dX9_replay_118 (by decide) (fun b118 => ?_) (fun b118 => absurd b118 (by decide))
      refine v_iconst (v := dI false) dX9_replay_175 (by decide) ?_
      exact v_zret hE rfl dX9_replay_176 (dI false, nI p1, nI (p1 - pl), dI true, ma1, g1, g2, g3) trivial (congrArg (fun z => some (Value.int (dI z))) (show (repV b fd (kd, a, b1, c, pl, bi, an0, su) W (M - 1) (rdM kd M)) = false by unfold repV; dsimp only; rw [hr, q1]; rfl)) rfl
  · have b63 : (rdM kd M) = false := (dI_0 _).mp b63
    refine v_iconst (v := dI false) dX9_replay_66 (by decide) ?_
    exact v_zret hE rfl dX9_replay_67 (tr0, at0, rd0, dr0, ma0, gS, gK, gR) trivial (congrArg (fun z => some (Value.int (dI z))) (show (repV b fd (kd, a, b1, c, pl, bi, an0, su) W (M - 1) (rdM kd M)) = false by unfold repV; rw [show rdM kd M = false by simpa using b63]; rfl)) rfl
