set_option maxRecDepth 100000 in
set_option maxHeartbeats 1000000 in
theorem kX9_feed_1 {D : va_G} {cI cJ cT : ClassId} (l : Launch) {m mt mw mb ml mq mz ms mr mi mk mj mn : Nat} {th fd0 pc0 dw0 lt0 ic0 tr0 sg0 ln0 at0 rd0 dr0 ma0 en0 : Int32} {fd : Nat} {tp : Nat → Int32} {a b c dd : Int32} (hfd : fd ≤ 16384) (hn : ¬ fd + 128 ≤ 16384) : Fn (S := Unit) (gG D cI cJ cT) l yX9_feed (.code yX9_feed cX9_feed 7 (some .int)) (rmD 1) [.ref m, .int a, .int b, .int c, .int dd] [(m, .inr (9, [.int th, .int (nI fd), .int pc0, .int dw0, .int lt0, .ref mt, .ref mw, .ref mb, .ref ml, .ref mq, .ref mz, .ref ms, .ref mr, .int ic0, .ref mi, .int tr0, .int sg0, .int ln0, .int at0, .int rd0, .int dr0, .int ma0, .ref mk, .int en0, .ref mj, .ref mn])), (mt, .inl (cI, 16384, .inl tp))] (fun _ => True) (fun u => some (.int (nI 0))) (fun u => [(m, .inr (9, [.int (nI 1), .int (nI fd), .int pc0, .int dw0, .int lt0, .ref mt, .ref mw, .ref mb, .ref ml, .ref mq, .ref mz, .ref ms, .ref mr, .int ic0, .ref mi, .int tr0, .int sg0, .int ln0, .int at0, .int rd0, .int dr0, .int ma0, .ref mk, .int en0, .ref mj, .ref mn])), (mt, .inl (cI, 16384, .inl tp))]) := by
  refine Fn.intro (by decide) (Nat.le_of_ble_eq_true rfl) ?_
  intro X hX hE hin
  subst hX
  show V (gG D cI cJ cT) X _ cX9_feed 7 RX9 _ 0 0 [(0, .ref m), (1, .int a), (2, .int b), (3, .int c), (4, .int dd)] 0 []
  refine v_aload_n 0 dX9_feed_0 rfl rfl ?_
  refine v_iconst (v := nI 0) dX9_feed_1 (by decide) ?_
  refine v_put (ws' := [(m, .inr (9, [.int (nI 0), .int (nI fd), .int pc0, .int dw0, .int lt0, .ref mt, .ref mw, .ref mb, .ref ml, .ref mq, .ref mz, .ref ms, .ref mr, .int ic0, .ref mi, .int tr0, .int sg0, .int ln0, .int at0, .int rd0, .int dr0, .int ma0, .ref mk, .int en0, .ref mj, .ref mn])), (mt, .inl (cI, 16384, .inl tp))]) fw_SampleDeskModel_47 0 rfl (rfl) (rfl) (Nat.le_of_ble_eq_true rfl) dX9_feed_2 rfl ?_
  refine v_aload_n 0 dX9_feed_5 rfl rfl ?_
  refine v_get f_SampleDeskModel_51 0 rfl rfl dX9_feed_6 ?_
  refine v_sipush (v := nI 128) dX9_feed_9 (by decide) ?_
  refine v_iadd dX9_feed_12 ?_
  refine v_topi (y := nI (fd + 128)) (nI_add _ _) ?_
  refine v_sipush (v := nI 16384) dX9_feed_13 (by decide) ?_
  refine v_icmp_le (tgt := 25) dX9_feed_16 (by decide) (fun b16 => absurd b16 (fun q => hn ((nI_leI (by omega) (by decide)).mp q))) (fun b16 => ?_)
  refine v_aload_n 0 dX9_feed_19 rfl rfl ?_
  refine v_iconst (v := nI 1) dX9_feed_20 (by decide) ?_
  refine v_callV (as := [.int (nI 1)]) (rest := []) (ws' := fun u => [(m, .inr (9, [.int (nI 1), .int (nI fd), .int pc0, .int dw0, .int lt0, .ref mt, .ref mw, .ref mb, .ref ml, .ref mq, .ref mz, .ref ms, .ref mr, .int ic0, .ref mi, .int tr0, .int sg0, .int ln0, .int at0, .int rd0, .int dr0, .int ma0, .ref mk, .int en0, .ref mj, .ref mn])), (mt, .inl (cI, 16384, .inl tp))]) m_SampleDeskModel_54 (kX9_fail X.l (m := m) (mt := mt) (mw := mw) (mb := mb) (ml := ml) (mq := mq) (mz := mz) (ms := ms) (mr := mr) (mi := mi) (mk := mk) (mj := mj) (mn := mn) (th := nI 0) (fd0 := nI fd) (pc0 := pc0) (dw0 := dw0) (lt0 := lt0) (ic0 := ic0) (tr0 := tr0) (sg0 := sg0) (ln0 := ln0) (at0 := at0) (rd0 := rd0) (dr0 := dr0) (ma0 := ma0) (en0 := en0) (cd := nI 1)) k_code_X9_fail [0] 0 rfl rfl rfl rfl dX9_feed_21 (Nat.le_of_ble_eq_true rfl) ⟨rfl, rfl, by decide, by decide⟩ ⟨Nat.zero_le _, Nat.zero_le _⟩ rfl rfl (fun _ => rfl) (v_mgU rfl (fun _ => rfl)) ?_
  intro uu c21
  try dsimp only at c21
  show V (gG D cI cJ cT) X (rmD 1) cX9_feed 7 RX9 [(m, .inr (9, [.int (nI 1), .int (nI fd), .int pc0, .int dw0, .int lt0, .ref mt, .ref mw, .ref mb, .ref ml, .ref mq, .ref mz, .ref ms, .ref mr, .int ic0, .ref mi, .int tr0, .int sg0, .int ln0, .int at0, .int rd0, .int dr0, .int ma0, .ref mk, .int en0, .ref mj, .ref mn])), (mt, .inl (cI, 16384, .inl tp))] 0 0 [(0, .ref m), (1, .int a), (2, .int b), (3, .int c), (4, .int dd)] 24 [.int (nI 0)]
  exact v_iret hE dX9_feed_24 () (trivial) rfl rfl
set_option maxRecDepth 100000 in
set_option maxHeartbeats 1000000 in
theorem kX9_feed_loop {D : va_G} {cI cJ cT : ClassId} {X : vX} {m mt mw mb ml mq mz ms mr mi mk mj mn : Nat} {th fd0 pc0 dw0 lt0 ic0 tr0 sg0 ln0 at0 rd0 dr0 ma0 en0 : Int32} {fd : Nat} {tp : Nat → Int32} {a b c dd : Int32} (hfd : fd + 128 ≤ 16384) {W0 : va_W} {post : (Nat → Int32) → Prop} (hq : ∀ u : Nat → Int32, ((∀ p, p < fd → u p = tp p) ∧ ∀ k, k < 128 → u (fd + k) = nI (fB a b c dd k)) → post u) (hE : vE (gG D cI cJ cT) X (some .int) W0 post (fun u => some (.int (nI (fd + 128)))) (fun u => [(m, .inr (9, [.int (nI 0), .int (nI (fd + 128)), .int pc0, .int dw0, .int lt0, .ref mt, .ref mw, .ref mb, .ref ml, .ref mq, .ref mz, .ref ms, .ref mr, .int ic0, .ref mi, .int tr0, .int sg0, .int ln0, .int at0, .int rd0, .int dr0, .int ma0, .ref mk, .int en0, .ref mj, .ref mn])), (mt, .inl (cI, 16384, .inl u))])) :
    ∀ (k : Nat) (i : Nat) (gT : Nat → Int32), 128 - i < k → i ≤ 128 → (∀ p, p < fd → gT p = tp p) → (∀ k, k < i → gT (fd + k) = nI (fB a b c dd k)) → V (gG D cI cJ cT) X (rmD 1) cX9_feed 7 RX9 [(m, .inr (9, [.int (nI 0), .int (nI fd), .int pc0, .int dw0, .int lt0, .ref mt, .ref mw, .ref mb, .ref ml, .ref mq, .ref mz, .ref ms, .ref mr, .int ic0, .ref mi, .int tr0, .int sg0, .int ln0, .int at0, .int rd0, .int dr0, .int ma0, .ref mk, .int en0, .ref mj, .ref mn])), (mt, .inl (cI, 16384, .inl gT))] 0 0 [(0, .ref m), (1, .int a), (2, .int b), (3, .int c), (4, .int dd), (5, .int (nI i))] 28 [] := by
  intro k
  induction k with
  | zero => intro i gT hk hi hT1 hT2; omega
  | succ k ih =>
    intro i gT hk hi hT1 hT2
    refine v_iload 5 dX9_feed_28 rfl ?_
    refine v_sipush (v := nI 128) dX9_feed_30 (by decide) ?_
    refine v_icmp_ge (tgt := 104) dX9_feed_33 (by decide) (fun b33 => ?_) (fun b33 => ?_)
    · have b33 : 128 ≤ i := (nI_leI (by decide) (by omega)).mp b33
      have hie : i = 128 := by omega
      subst hie
      refine v_aload_n 0 dX9_feed_104 rfl rfl ?_
      refine v_dup dX9_feed_105 rfl ?_
      refine v_get f_SampleDeskModel_51 0 rfl rfl dX9_feed_106 ?_
      refine v_sipush (v := nI 128) dX9_feed_109 (by decide) ?_
      refine v_iadd dX9_feed_112 ?_
      refine v_topi (y := nI (fd + 128)) (nI_add _ _) ?_
      refine v_put (ws' := [(m, .inr (9, [.int (nI 0), .int (nI (fd + 128)), .int pc0, .int dw0, .int lt0, .ref mt, .ref mw, .ref mb, .ref ml, .ref mq, .ref mz, .ref ms, .ref mr, .int ic0, .ref mi, .int tr0, .int sg0, .int ln0, .int at0, .int rd0, .int dr0, .int ma0, .ref mk, .int en0, .ref mj, .ref mn])), (mt, .inl (cI, 16384, .inl gT))]) fw_SampleDeskModel_51 0 rfl (rfl) (rfl) (Nat.le_of_ble_eq_true rfl) dX9_feed_113 rfl ?_
      refine v_aload_n 0 dX9_feed_116 rfl rfl ?_
      refine v_get f_SampleDeskModel_51 0 rfl rfl dX9_feed_117 ?_
      exact v_iret hE dX9_feed_120 gT (hq gT ⟨hT1, hT2⟩) rfl rfl
    · have b33 : ¬ (128 ≤ i) := fun q => b33 ((nI_leI (by decide) (by omega)).mpr q)
      refine v_iload 5 dX9_feed_36 rfl ?_
      refine v_bipush (v := nI 32) dX9_feed_38 (by decide) ?_
      refine v_icmp_ge (tgt := 47) dX9_feed_40 (by decide) (fun b40 => ?_) (fun b40 => ?_)
      · have b40 : 32 ≤ i := (nI_leI (by decide) (by omega)).mp b40
        refine v_iload 5 dX9_feed_47 rfl ?_
        refine v_bipush (v := nI 64) dX9_feed_49 (by decide) ?_
        refine v_icmp_ge (tgt := 58) dX9_feed_51 (by decide) (fun b51 => ?_) (fun b51 => ?_)
        · have b51 : 64 ≤ i := (nI_leI (by decide) (by omega)).mp b51
          refine v_iload 5 dX9_feed_58 rfl ?_
          refine v_bipush (v := nI 96) dX9_feed_60 (by decide) ?_
          refine v_icmp_ge (tgt := 69) dX9_feed_62 (by decide) (fun b62 => ?_) (fun b62 => ?_)
          · have b62 : 96 ≤ i := (nI_leI (by decide) (by omega)).mp b62
            refine v_iload 4 dX9_feed_69 rfl ?_
            refine v_topi (y := fW a b c dd i) (by unfold fW; rw [if_neg (by omega), if_neg (by omega), if_neg (by omega)]) ?_
            refine v_istore (lv' := [(6, .int (fW a b c dd i)), (0, .ref m), (1, .int a), (2, .int b), (3, .int c), (4, .int dd), (5, .int (nI i))]) dX9_feed_71 (by decide) rfl ?_
            refine v_aload_n 1 dX9_feed_73 rfl rfl ?_
            refine v_get f_SampleDeskModel_7 0 rfl rfl dX9_feed_74 ?_
            refine v_aload_n 1 dX9_feed_77 rfl rfl ?_
            refine v_get f_SampleDeskModel_51 0 rfl rfl dX9_feed_78 ?_
            refine v_iload 6 dX9_feed_81 rfl ?_
            refine v_iadd dX9_feed_83 ?_
            refine v_topi (y := nI (fd + i)) (nI_add _ _) ?_
            refine v_iload 0 dX9_feed_84 rfl ?_
            refine v_bipush (v := nI 31) dX9_feed_86 (by decide) ?_
            refine v_iload 6 dX9_feed_88 rfl ?_
            refine v_bipush (v := nI 32) dX9_feed_90 (by decide) ?_
            refine v_irem dX9_feed_92 (by decide) ?_
            refine v_topi (y := nI (i % 32)) (pk_rem (by omega) (by decide) (by decide)) ?_
            refine v_isub dX9_feed_93 ?_
            refine v_topi (y := nI (31 - i % 32)) (pk_sub (by omega)) ?_
            refine v_ishr dX9_feed_94 ?_
            refine v_iconst (v := nI 1) dX9_feed_95 (by decide) ?_
            refine v_iand dX9_feed_96 ?_
            refine v_topi (y := nI (fB a b c dd i)) (sar_bit _ (by omega)) ?_
            refine v_iast (ws' := [(m, .inr (9, [.int (nI 0), .int (nI fd), .int pc0, .int dw0, .int lt0, .ref mt, .ref mw, .ref mb, .ref ml, .ref mq, .ref mz, .ref ms, .ref mr, .int ic0, .ref mi, .int tr0, .int sg0, .int ln0, .int at0, .int rd0, .int dr0, .int ma0, .ref mk, .int en0, .ref mj, .ref mn])), (mt, .inl (cI, 16384, .inl (upd gT ((fd + i)) (nI (fB a b c dd i)))))]) 0 1 rfl rfl (by omega) (by omega) dX9_feed_97 rfl ?_
            refine v_iinc (lv' := [(5, .int (nI (i + 1))), (6, .int (fW a b c dd i)), (0, .ref m), (1, .int a), (2, .int b), (3, .int c), (4, .int dd)]) (v := nI (i + 1)) 6 dX9_feed_98 rfl (nI_1 i) (by decide) rfl ?_
            refine v_goto (tgt := 28) dX9_feed_101 (by decide) ?_
            refine v_lv [2, 3, 4, 5, 6, 0] rfl ?_
            exact ih (i + 1) _ (by omega) (by omega) (feed_step (g := fun k => nI (fB a b c dd k)) hT1 hT2 rfl).1 (feed_step (g := fun k => nI (fB a b c dd k)) hT1 hT2 rfl).2
          · have b62 : ¬ (96 ≤ i) := fun q => b62 ((nI_leI (by decide) (by omega)).mpr q)
            refine v_iload_n 3 dX9_feed_65 rfl rfl ?_
            refine v_goto (tgt := 71) dX9_feed_66 (by decide) ?_
            refine v_topi (y := fW a b c dd i) (by unfold fW; rw [if_neg (by omega), if_neg (by omega), if_pos (by omega)]) ?_
            refine v_istore (lv' := [(6, .int (fW a b c dd i)), (0, .ref m), (1, .int a), (2, .int b), (3, .int c), (4, .int dd), (5, .int (nI i))]) dX9_feed_71 (by decide) rfl ?_
            refine v_aload_n 1 dX9_feed_73 rfl rfl ?_
            refine v_get f_SampleDeskModel_7 0 rfl rfl dX9_feed_74 ?_
            refine v_aload_n 1 dX9_feed_77 rfl rfl ?_
            refine v_get f_SampleDeskModel_51 0 rfl rfl dX9_feed_78 ?_
            refine v_iload 6 dX9_feed_81 rfl ?_
            refine v_iadd dX9_feed_83 ?_
            refine v_topi (y := nI (fd + i)) (nI_add _ _) ?_
            refine v_iload 0 dX9_feed_84 rfl ?_
            refine v_bipush (v := nI 31) dX9_feed_86 (by decide) ?_
            refine v_iload 6 dX9_feed_88 rfl ?_
            refine v_bipush (v := nI 32) dX9_feed_90 (by decide) ?_
            refine v_irem dX9_feed_92 (by decide) ?_
            refine v_topi (y := nI (i % 32)) (pk_rem (by omega) (by decide) (by decide)) ?_
            refine v_isub dX9_feed_93 ?_
            refine v_topi (y := nI (31 - i % 32)) (pk_sub (by omega)) ?_
            refine v_ishr dX9_feed_94 ?_
            refine v_iconst (v := nI 1) dX9_feed_95 (by decide) ?_
            refine v_iand dX9_feed_96 ?_
            refine v_topi (y := nI (fB a b c dd i)) (sar_bit _ (by omega)) ?_
            refine v_iast (ws' := [(m, .inr (9, [.int (nI 0), .int (nI fd), .int pc0, .int dw0, .int lt0, .ref mt, .ref mw, .ref mb, .ref ml, .ref mq, .ref mz, .ref ms, .ref mr, .int ic0, .ref mi, .int tr0, .int sg0, .int ln0, .int at0, .int rd0, .int dr0, .int ma0, .ref mk, .int en0, .ref mj, .ref mn])), (mt, .inl (cI, 16384, .inl (upd gT ((fd + i)) (nI (fB a b c dd i)))))]) 0 1 rfl rfl (by omega) (by omega) dX9_feed_97 rfl ?_
            refine v_iinc (lv' := [(5, .int (nI (i + 1))), (6, .int (fW a b c dd i)), (0, .ref m), (1, .int a), (2, .int b), (3, .int c), (4, .int dd)]) (v := nI (i + 1)) 6 dX9_feed_98 rfl (nI_1 i) (by decide) rfl ?_
            refine v_goto (tgt := 28) dX9_feed_101 (by decide) ?_
            refine v_lv [2, 3, 4, 5, 6, 0] rfl ?_
            exact ih (i + 1) _ (by omega) (by omega) (feed_step (g := fun k => nI (fB a b c dd k)) hT1 hT2 rfl).1 (feed_step (g := fun k => nI (fB a b c dd k)) hT1 hT2 rfl).2
        · have b51 : ¬ (64 ≤ i) := fun q => b51 ((nI_leI (by decide) (by omega)).mpr q)
          refine v_iload_n 2 dX9_feed_54 rfl rfl ?_
          refine v_goto (tgt := 71) dX9_feed_55 (by decide) ?_
          refine v_topi (y := fW a b c dd i) (by unfold fW; rw [if_neg (by omega), if_pos (by omega)]) ?_
          refine v_istore (lv' := [(6, .int (fW a b c dd i)), (0, .ref m), (1, .int a), (2, .int b), (3, .int c), (4, .int dd), (5, .int (nI i))]) dX9_feed_71 (by decide) rfl ?_
          refine v_aload_n 1 dX9_feed_73 rfl rfl ?_
          refine v_get f_SampleDeskModel_7 0 rfl rfl dX9_feed_74 ?_
          refine v_aload_n 1 dX9_feed_77 rfl rfl ?_
          refine v_get f_SampleDeskModel_51 0 rfl rfl dX9_feed_78 ?_
          refine v_iload 6 dX9_feed_81 rfl ?_
          refine v_iadd dX9_feed_83 ?_
          refine v_topi (y := nI (fd + i)) (nI_add _ _) ?_
          refine v_iload 0 dX9_feed_84 rfl ?_
          refine v_bipush (v := nI 31) dX9_feed_86 (by decide) ?_
          refine v_iload 6 dX9_feed_88 rfl ?_
          refine v_bipush (v := nI 32) dX9_feed_90 (by decide) ?_
          refine v_irem dX9_feed_92 (by decide) ?_
          refine v_topi (y := nI (i % 32)) (pk_rem (by omega) (by decide) (by decide)) ?_
          refine v_isub dX9_feed_93 ?_
          refine v_topi (y := nI (31 - i % 32)) (pk_sub (by omega)) ?_
          refine v_ishr dX9_feed_94 ?_
          refine v_iconst (v := nI 1) dX9_feed_95 (by decide) ?_
          refine v_iand dX9_feed_96 ?_
          refine v_topi (y := nI (fB a b c dd i)) (sar_bit _ (by omega)) ?_
          refine v_iast (ws' := [(m, .inr (9, [.int (nI 0), .int (nI fd), .int pc0, .int dw0, .int lt0, .ref mt, .ref mw, .ref mb, .ref ml, .ref mq, .ref mz, .ref ms, .ref mr, .int ic0, .ref mi, .int tr0, .int sg0, .int ln0, .int at0, .int rd0, .int dr0, .int ma0, .ref mk, .int en0, .ref mj, .ref mn])), (mt, .inl (cI, 16384, .inl (upd gT ((fd + i)) (nI (fB a b c dd i)))))]) 0 1 rfl rfl (by omega) (by omega) dX9_feed_97 rfl ?_
          refine v_iinc (lv' := [(5, .int (nI (i + 1))), (6, .int (fW a b c dd i)), (0, .ref m), (1, .int a), (2, .int b), (3, .int c), (4, .int dd)]) (v := nI (i + 1)) 6 dX9_feed_98 rfl (nI_1 i) (by decide) rfl ?_
          refine v_goto (tgt := 28) dX9_feed_101 (by decide) ?_
          refine v_lv [2, 3, 4, 5, 6, 0] rfl ?_
          exact ih (i + 1) _ (by omega) (by omega) (feed_step (g := fun k => nI (fB a b c dd k)) hT1 hT2 rfl).1 (feed_step (g := fun k => nI (fB a b c dd k)) hT1 hT2 rfl).2
      · have b40 : ¬ (32 ≤ i) := fun q => b40 ((nI_leI (by decide) (by omega)).mpr q)
        refine v_iload_n 1 dX9_feed_43 rfl rfl ?_
        refine v_goto (tgt := 71) dX9_feed_44 (by decide) ?_
        refine v_topi (y := fW a b c dd i) (by unfold fW; rw [if_pos (by omega)]) ?_
        refine v_istore (lv' := [(6, .int (fW a b c dd i)), (0, .ref m), (1, .int a), (2, .int b), (3, .int c), (4, .int dd), (5, .int (nI i))]) dX9_feed_71 (by decide) rfl ?_
        refine v_aload_n 1 dX9_feed_73 rfl rfl ?_
        refine v_get f_SampleDeskModel_7 0 rfl rfl dX9_feed_74 ?_
        refine v_aload_n 1 dX9_feed_77 rfl rfl ?_
        refine v_get f_SampleDeskModel_51 0 rfl rfl dX9_feed_78 ?_
        refine v_iload 6 dX9_feed_81 rfl ?_
        refine v_iadd dX9_feed_83 ?_
        refine v_topi (y := nI (fd + i)) (nI_add _ _) ?_
        refine v_iload 0 dX9_feed_84 rfl ?_
        refine v_bipush (v := nI 31) dX9_feed_86 (by decide) ?_
        refine v_iload 6 dX9_feed_88 rfl ?_
        refine v_bipush (v := nI 32) dX9_feed_90 (by decide) ?_
        refine v_irem dX9_feed_92 (by decide) ?_
        refine v_topi (y := nI (i % 32)) (pk_rem (by omega) (by decide) (by decide)) ?_
        refine v_isub dX9_feed_93 ?_
        refine v_topi (y := nI (31 - i % 32)) (pk_sub (by omega)) ?_
        refine v_ishr dX9_feed_94 ?_
        refine v_iconst (v := nI 1) dX9_feed_95 (by decide) ?_
        refine v_iand dX9_feed_96 ?_
        refine v_topi (y := nI (fB a b c dd i)) (sar_bit _ (by omega)) ?_
        refine v_iast (ws' := [(m, .inr (9, [.int (nI 0), .int (nI fd), .int pc0, .int dw0, .int lt0, .ref mt, .ref mw, .ref mb, .ref ml, .ref mq, .ref mz, .ref ms, .ref mr, .int ic0, .ref mi, .int tr0, .int sg0, .int ln0, .int at0, .int rd0, .int dr0, .int ma0, .ref mk, .int en0, .ref mj, .ref mn])), (mt, .inl (cI, 16384, .inl (upd gT ((fd + i)) (nI (fB a b c dd i)))))]) 0 1 rfl rfl (by omega) (by omega) dX9_feed_97 rfl ?_
        refine v_iinc (lv' := [(5, .int (nI (i + 1))), (6, .int (fW a b c dd i)), (0, .ref m), (1, .int a), (2, .int b), (3, .int c), (4, .int dd)]) (v := nI (i + 1)) 6 dX9_feed_98 rfl (nI_1 i) (by decide) rfl ?_
        refine v_goto (tgt := 28) dX9_feed_101 (by decide) ?_
        refine v_lv [2, 3, 4, 5, 6, 0] rfl ?_
        exact ih (i + 1) _ (by omega) (by omega) (feed_step (g := fun k => nI (fB a b c dd k)) hT1 hT2 rfl).1 (feed_step (g := fun k => nI (fB a b c dd k)) hT1 hT2 rfl).2
set_option maxRecDepth 100000 in
set_option maxHeartbeats 1000000 in
theorem kX9_feed {D : va_G} {cI cJ cT : ClassId} (l : Launch) {m mt mw mb ml mq mz ms mr mi mk mj mn : Nat} {th fd0 pc0 dw0 lt0 ic0 tr0 sg0 ln0 at0 rd0 dr0 ma0 en0 : Int32} {fd : Nat} {tp : Nat → Int32} {a b c dd : Int32} (hn : fd + 128 ≤ 16384) : Fn (S := (Nat → Int32)) (gG D cI cJ cT) l yX9_feed (.code yX9_feed cX9_feed 7 (some .int)) (rmD 1) [.ref m, .int a, .int b, .int c, .int dd] [(m, .inr (9, [.int th, .int (nI fd), .int pc0, .int dw0, .int lt0, .ref mt, .ref mw, .ref mb, .ref ml, .ref mq, .ref mz, .ref ms, .ref mr, .int ic0, .ref mi, .int tr0, .int sg0, .int ln0, .int at0, .int rd0, .int dr0, .int ma0, .ref mk, .int en0, .ref mj, .ref mn])), (mt, .inl (cI, 16384, .inl tp))] (fun u => (∀ p, p < fd → u p = tp p) ∧ ∀ k, k < 128 → u (fd + k) = nI (fB a b c dd k)) (fun u => some (.int (nI (fd + 128)))) (fun u => [(m, .inr (9, [.int (nI 0), .int (nI (fd + 128)), .int pc0, .int dw0, .int lt0, .ref mt, .ref mw, .ref mb, .ref ml, .ref mq, .ref mz, .ref ms, .ref mr, .int ic0, .ref mi, .int tr0, .int sg0, .int ln0, .int at0, .int rd0, .int dr0, .int ma0, .ref mk, .int en0, .ref mj, .ref mn])), (mt, .inl (cI, 16384, .inl u))]) := by
  refine Fn.intro (by decide) (Nat.le_of_ble_eq_true rfl) ?_
  intro X hX hE hin
  subst hX
  show V (gG D cI cJ cT) X _ cX9_feed 7 RX9 _ 0 0 [(0, .ref m), (1, .int a), (2, .int b), (3, .int c), (4, .int dd)] 0 []
  refine v_aload_n 0 dX9_feed_0 rfl rfl ?_
  refine v_iconst (v := nI 0) dX9_feed_1 (by decide) ?_
  refine v_put (ws' := [(m, .inr (9, [.int (nI 0), .int (nI fd), .int pc0, .int dw0, .int lt0, .ref mt, .ref mw, .ref mb, .ref ml, .ref mq, .ref mz, .ref ms, .ref mr, .int ic0, .ref mi, .int tr0, .int sg0, .int ln0, .int at0, .int rd0, .int dr0, .int ma0, .ref mk, .int en0, .ref mj, .ref mn])), (mt, .inl (cI, 16384, .inl tp))]) fw_SampleDeskModel_47 0 rfl (rfl) (rfl) (Nat.le_of_ble_eq_true rfl) dX9_feed_2 rfl ?_
  refine v_aload_n 0 dX9_feed_5 rfl rfl ?_
  refine v_get f_SampleDeskModel_51 0 rfl rfl dX9_feed_6 ?_
  refine v_sipush (v := nI 128) dX9_feed_9 (by decide) ?_
  refine v_iadd dX9_feed_12 ?_
  refine v_topi (y := nI (fd + 128)) (nI_add _ _) ?_
  refine v_sipush (v := nI 16384) dX9_feed_13 (by decide) ?_
  refine v_icmp_le (tgt := 25) dX9_feed_16 (by decide) (fun b16 => ?_) (fun b16 => absurd ((nI_leI (by omega) (by decide)).mpr hn) b16)
  refine v_iconst (v := nI 0) dX9_feed_25 (by decide) ?_
  refine v_istore (lv' := [(5, .int (nI 0)), (0, .ref m), (1, .int a), (2, .int b), (3, .int c), (4, .int dd)]) dX9_feed_26 (by decide) rfl ?_
  refine v_lv [1, 2, 3, 4, 5, 0] rfl ?_
  exact kX9_feed_loop (th := th) (fd0 := fd0) (fd := fd) (tp := tp) hn (fun u h => h) hE 129 0 tp (by omega) (by omega) (fun _ _ => rfl) (fun k hk => absurd hk (Nat.not_lt_zero _))
set_option maxRecDepth 100000 in
set_option maxHeartbeats 1000000 in
theorem kX9_bit_1 {D : va_G} {cI cJ cT : ClassId} (l : Launch) {m mt mw mb ml mq mz ms mr mi mk mj mn : Nat} {th fd0 pc0 dw0 lt0 ic0 tr0 sg0 ln0 at0 rd0 dr0 ma0 en0 : Int32} {fd : Nat} {tp : Nat → Int32} {at0q bt : Int32} (hfd : fd ≤ 16384) (hn : ¬ inR at0q fd) : Fn (S := Unit) (gG D cI cJ cT) l yX9_bit (.code yX9_bit cX9_bit 4 (some .int)) (rmD 1) [.ref m, .int at0q, .int bt] [(m, .inr (9, [.int th, .int (nI fd), .int pc0, .int dw0, .int lt0, .ref mt, .ref mw, .ref mb, .ref ml, .ref mq, .ref mz, .ref ms, .ref mr, .int ic0, .ref mi, .int tr0, .int sg0, .int ln0, .int at0, .int rd0, .int dr0, .int ma0, .ref mk, .int en0, .ref mj, .ref mn])), (mt, .inl (cI, 16384, .inl tp))] (fun _ => True) (fun u => some (.int (nI 0))) (fun u => [(m, .inr (9, [.int (nI 1), .int (nI fd), .int pc0, .int dw0, .int lt0, .ref mt, .ref mw, .ref mb, .ref ml, .ref mq, .ref mz, .ref ms, .ref mr, .int ic0, .ref mi, .int tr0, .int sg0, .int ln0, .int at0, .int rd0, .int dr0, .int ma0, .ref mk, .int en0, .ref mj, .ref mn])), (mt, .inl (cI, 16384, .inl tp))]) := by
  refine Fn.intro (by decide) (Nat.le_of_ble_eq_true rfl) ?_
  intro X hX hE hin
  subst hX
  show V (gG D cI cJ cT) X _ cX9_bit 4 RX9 _ 0 0 [(0, .ref m), (1, .int at0q), (2, .int bt)] 0 []
  refine v_aload_n 0 dX9_bit_0 rfl rfl ?_
  refine v_iconst (v := nI 0) dX9_bit_1 (by decide) ?_
  refine v_put (ws' := [(m, .inr (9, [.int (nI 0), .int (nI fd), .int pc0, .int dw0, .int lt0, .ref mt, .ref mw, .ref mb, .ref ml, .ref mq, .ref mz, .ref ms, .ref mr, .int ic0, .ref mi, .int tr0, .int sg0, .int ln0, .int at0, .int rd0, .int dr0, .int ma0, .ref mk, .int en0, .ref mj, .ref mn])), (mt, .inl (cI, 16384, .inl tp))]) fw_SampleDeskModel_47 0 rfl (rfl) (rfl) (Nat.le_of_ble_eq_true rfl) dX9_bit_2 rfl ?_
  refine v_iload_n 1 dX9_bit_5 rfl rfl ?_
  refine v_i2l (v := at0q.toInt64) dX9_bit_6 (rfl) ?_
  refine v_lconst (v := 0) dX9_bit_7 (by decide) ?_
  refine v_aload_n 0 dX9_bit_8 rfl rfl ?_
  refine v_get f_SampleDeskModel_51 0 rfl rfl dX9_bit_9 ?_
  refine v_iconst (v := nI 1) dX9_bit_12 (by decide) ?_
  refine v_isub dX9_bit_13 ?_
  refine v_i2l (v := (nI fd - nI 1).toInt64) dX9_bit_14 (rfl) ?_
  refine v_callS (as := [.long at0q.toInt64, .long 0, .long ((nI fd - nI 1).toInt64)]) (rest := []) (ws' := fun u => [(m, .inr (9, [.int (nI 0), .int (nI fd), .int pc0, .int dw0, .int lt0, .ref mt, .ref mw, .ref mb, .ref ml, .ref mq, .ref mz, .ref ms, .ref mr, .int ic0, .ref mi, .int tr0, .int sg0, .int ln0, .int at0, .int rd0, .int dr0, .int ma0, .ref mk, .int en0, .ref mj, .ref mn])), (mt, .inl (cI, 16384, .inl tp))]) m_SampleDeskModel_58 (kX9_within X.l (v := at0q.toInt64) (lo := 0) (hi := (nI fd - nI 1).toInt64)) k_code_X9_within [] rfl rfl dX9_bit_15 (Nat.le_of_ble_eq_true rfl) ⟨rfl, rfl, by decide, by decide⟩ ⟨Nat.zero_le _, Nat.zero_le _⟩ rfl rfl (fun _ => rfl) (v_mgU rfl (fun _ => rfl)) ?_
  intro uu c15
  try dsimp only at c15
  show V (gG D cI cJ cT) X (rmD 1) cX9_bit 4 RX9 [(m, .inr (9, [.int (nI 0), .int (nI fd), .int pc0, .int dw0, .int lt0, .ref mt, .ref mw, .ref mb, .ref ml, .ref mq, .ref mz, .ref ms, .ref mr, .int ic0, .ref mi, .int tr0, .int sg0, .int ln0, .int at0, .int rd0, .int dr0, .int ma0, .ref mk, .int en0, .ref mj, .ref mn])), (mt, .inl (cI, 16384, .inl tp))] 0 0 [(0, .ref m), (1, .int at0q), (2, .int bt)] 18 [.int (dI (wi at0q.toInt64 0 ((nI fd - nI 1).toInt64)))]
  refine v_topi (y := dI false) (congrArg dI ((show wi at0q.toInt64 0 ((nI fd - nI 1).toInt64) = up at0q (nI fd - nI 1) by exact wi_up _ _).trans (upF (by omega) hn))) ?_
  refine v_if_ne (tgt := 27) dX9_bit_18 (by decide) (fun b18 => absurd b18 (fun q => q rfl)) (fun b18 => ?_)
  refine v_aload_n 0 dX9_bit_21 rfl rfl ?_
  refine v_iconst (v := nI 1) dX9_bit_22 (by decide) ?_
  refine v_callV (as := [.int (nI 1)]) (rest := []) (ws' := fun u => [(m, .inr (9, [.int (nI 1), .int (nI fd), .int pc0, .int dw0, .int lt0, .ref mt, .ref mw, .ref mb, .ref ml, .ref mq, .ref mz, .ref ms, .ref mr, .int ic0, .ref mi, .int tr0, .int sg0, .int ln0, .int at0, .int rd0, .int dr0, .int ma0, .ref mk, .int en0, .ref mj, .ref mn])), (mt, .inl (cI, 16384, .inl tp))]) m_SampleDeskModel_54 (kX9_fail X.l (m := m) (mt := mt) (mw := mw) (mb := mb) (ml := ml) (mq := mq) (mz := mz) (ms := ms) (mr := mr) (mi := mi) (mk := mk) (mj := mj) (mn := mn) (th := nI 0) (fd0 := nI fd) (pc0 := pc0) (dw0 := dw0) (lt0 := lt0) (ic0 := ic0) (tr0 := tr0) (sg0 := sg0) (ln0 := ln0) (at0 := at0) (rd0 := rd0) (dr0 := dr0) (ma0 := ma0) (en0 := en0) (cd := nI 1)) k_code_X9_fail [0] 0 rfl rfl rfl rfl dX9_bit_23 (Nat.le_of_ble_eq_true rfl) ⟨rfl, rfl, by decide, by decide⟩ ⟨Nat.zero_le _, Nat.zero_le _⟩ rfl rfl (fun _ => rfl) (v_mgU rfl (fun _ => rfl)) ?_
  intro uu c23
  try dsimp only at c23
  show V (gG D cI cJ cT) X (rmD 1) cX9_bit 4 RX9 [(m, .inr (9, [.int (nI 1), .int (nI fd), .int pc0, .int dw0, .int lt0, .ref mt, .ref mw, .ref mb, .ref ml, .ref mq, .ref mz, .ref ms, .ref mr, .int ic0, .ref mi, .int tr0, .int sg0, .int ln0, .int at0, .int rd0, .int dr0, .int ma0, .ref mk, .int en0, .ref mj, .ref mn])), (mt, .inl (cI, 16384, .inl tp))] 0 0 [(0, .ref m), (1, .int at0q), (2, .int bt)] 26 [.int (nI 0)]
  exact v_iret hE dX9_bit_26 () (trivial) rfl rfl
set_option maxRecDepth 100000 in
set_option maxHeartbeats 1000000 in
theorem kX9_bit_2 {D : va_G} {cI cJ cT : ClassId} (l : Launch) {m mt mw mb ml mq mz ms mr mi mk mj mn : Nat} {th fd0 pc0 dw0 lt0 ic0 tr0 sg0 ln0 at0 rd0 dr0 ma0 en0 : Int32} {fd : Nat} {tp : Nat → Int32} {at0q bt : Int32} (hfd : fd ≤ 16384) (hn : inR at0q fd) (hb : ¬ inR bt 2) : Fn (S := Unit) (gG D cI cJ cT) l yX9_bit (.code yX9_bit cX9_bit 4 (some .int)) (rmD 1) [.ref m, .int at0q, .int bt] [(m, .inr (9, [.int th, .int (nI fd), .int pc0, .int dw0, .int lt0, .ref mt, .ref mw, .ref mb, .ref ml, .ref mq, .ref mz, .ref ms, .ref mr, .int ic0, .ref mi, .int tr0, .int sg0, .int ln0, .int at0, .int rd0, .int dr0, .int ma0, .ref mk, .int en0, .ref mj, .ref mn])), (mt, .inl (cI, 16384, .inl tp))] (fun _ => True) (fun u => some (.int (nI 0))) (fun u => [(m, .inr (9, [.int (nI 2), .int (nI fd), .int pc0, .int dw0, .int lt0, .ref mt, .ref mw, .ref mb, .ref ml, .ref mq, .ref mz, .ref ms, .ref mr, .int ic0, .ref mi, .int tr0, .int sg0, .int ln0, .int at0, .int rd0, .int dr0, .int ma0, .ref mk, .int en0, .ref mj, .ref mn])), (mt, .inl (cI, 16384, .inl tp))]) := by
  refine Fn.intro (by decide) (Nat.le_of_ble_eq_true rfl) ?_
  intro X hX hE hin
  subst hX
  show V (gG D cI cJ cT) X _ cX9_bit 4 RX9 _ 0 0 [(0, .ref m), (1, .int at0q), (2, .int bt)] 0 []
  refine v_aload_n 0 dX9_bit_0 rfl rfl ?_
  refine v_iconst (v := nI 0) dX9_bit_1 (by decide) ?_
  refine v_put (ws' := [(m, .inr (9, [.int (nI 0), .int (nI fd), .int pc0, .int dw0, .int lt0, .ref mt, .ref mw, .ref mb, .ref ml, .ref mq, .ref mz, .ref ms, .ref mr, .int ic0, .ref mi, .int tr0, .int sg0, .int ln0, .int at0, .int rd0, .int dr0, .int ma0, .ref mk, .int en0, .ref mj, .ref mn])), (mt, .inl (cI, 16384, .inl tp))]) fw_SampleDeskModel_47 0 rfl (rfl) (rfl) (Nat.le_of_ble_eq_true rfl) dX9_bit_2 rfl ?_
  refine v_iload_n 1 dX9_bit_5 rfl rfl ?_
  refine v_i2l (v := at0q.toInt64) dX9_bit_6 (rfl) ?_
  refine v_lconst (v := 0) dX9_bit_7 (by decide) ?_
  refine v_aload_n 0 dX9_bit_8 rfl rfl ?_
  refine v_get f_SampleDeskModel_51 0 rfl rfl dX9_bit_9 ?_
  refine v_iconst (v := nI 1) dX9_bit_12 (by decide) ?_
  refine v_isub dX9_bit_13 ?_
  refine v_i2l (v := (nI fd - nI 1).toInt64) dX9_bit_14 (rfl) ?_
  refine v_callS (as := [.long at0q.toInt64, .long 0, .long ((nI fd - nI 1).toInt64)]) (rest := []) (ws' := fun u => [(m, .inr (9, [.int (nI 0), .int (nI fd), .int pc0, .int dw0, .int lt0, .ref mt, .ref mw, .ref mb, .ref ml, .ref mq, .ref mz, .ref ms, .ref mr, .int ic0, .ref mi, .int tr0, .int sg0, .int ln0, .int at0, .int rd0, .int dr0, .int ma0, .ref mk, .int en0, .ref mj, .ref mn])), (mt, .inl (cI, 16384, .inl tp))]) m_SampleDeskModel_58 (kX9_within X.l (v := at0q.toInt64) (lo := 0) (hi := (nI fd - nI 1).toInt64)) k_code_X9_within [] rfl rfl dX9_bit_15 (Nat.le_of_ble_eq_true rfl) ⟨rfl, rfl, by decide, by decide⟩ ⟨Nat.zero_le _, Nat.zero_le _⟩ rfl rfl (fun _ => rfl) (v_mgU rfl (fun _ => rfl)) ?_
  intro uu c15
  try dsimp only at c15
  show V (gG D cI cJ cT) X (rmD 1) cX9_bit 4 RX9 [(m, .inr (9, [.int (nI 0), .int (nI fd), .int pc0, .int dw0, .int lt0, .ref mt, .ref mw, .ref mb, .ref ml, .ref mq, .ref mz, .ref ms, .ref mr, .int ic0, .ref mi, .int tr0, .int sg0, .int ln0, .int at0, .int rd0, .int dr0, .int ma0, .ref mk, .int en0, .ref mj, .ref mn])), (mt, .inl (cI, 16384, .inl tp))] 0 0 [(0, .ref m), (1, .int at0q), (2, .int bt)] 18 [.int (dI (wi at0q.toInt64 0 ((nI fd - nI 1).toInt64)))]
  refine v_topi (y := dI true) (congrArg dI ((show wi at0q.toInt64 0 ((nI fd - nI 1).toInt64) = up at0q (nI fd - nI 1) by exact wi_up _ _).trans (upT (by omega) hn))) ?_
  refine v_if_ne (tgt := 27) dX9_bit_18 (by decide) (fun b18 => ?_) (fun b18 => absurd b18 (by decide))
  refine v_iload_n 2 dX9_bit_27 rfl rfl ?_
  refine v_i2l (v := bt.toInt64) dX9_bit_28 (rfl) ?_
  refine v_lconst (v := 0) dX9_bit_29 (by decide) ?_
  refine v_lconst (v := 1) dX9_bit_30 (by decide) ?_
  refine v_callS (as := [.long bt.toInt64, .long 0, .long 1]) (rest := []) (ws' := fun u => [(m, .inr (9, [.int (nI 0), .int (nI fd), .int pc0, .int dw0, .int lt0, .ref mt, .ref mw, .ref mb, .ref ml, .ref mq, .ref mz, .ref ms, .ref mr, .int ic0, .ref mi, .int tr0, .int sg0, .int ln0, .int at0, .int rd0, .int dr0, .int ma0, .ref mk, .int en0, .ref mj, .ref mn])), (mt, .inl (cI, 16384, .inl tp))]) m_SampleDeskModel_58 (kX9_within X.l (v := bt.toInt64) (lo := 0) (hi := 1)) k_code_X9_within [] rfl rfl dX9_bit_31 (Nat.le_of_ble_eq_true rfl) ⟨rfl, rfl, by decide, by decide⟩ ⟨Nat.zero_le _, Nat.zero_le _⟩ rfl rfl (fun _ => rfl) (v_mgU rfl (fun _ => rfl)) ?_
  intro uu c31
  try dsimp only at c31
  show V (gG D cI cJ cT) X (rmD 1) cX9_bit 4 RX9 [(m, .inr (9, [.int (nI 0), .int (nI fd), .int pc0, .int dw0, .int lt0, .ref mt, .ref mw, .ref mb, .ref ml, .ref mq, .ref mz, .ref ms, .ref mr, .int ic0, .ref mi, .int tr0, .int sg0, .int ln0, .int at0, .int rd0, .int dr0, .int ma0, .ref mk, .int en0, .ref mj, .ref mn])), (mt, .inl (cI, 16384, .inl tp))] 0 0 [(0, .ref m), (1, .int at0q), (2, .int bt)] 34 [.int (dI (wi bt.toInt64 0 1))]
  refine v_topi (y := dI false) (congrArg dI ((show wi bt.toInt64 0 1 = up bt (nI 1) by rw [show (1 : Int64) = (1 : Int32).toInt64 by decide, wi_up]; try rfl).trans (upF1 (by decide) hb))) ?_
  refine v_if_ne (tgt := 43) dX9_bit_34 (by decide) (fun b34 => absurd b34 (fun q => q rfl)) (fun b34 => ?_)
  refine v_aload_n 0 dX9_bit_37 rfl rfl ?_
  refine v_iconst (v := nI 2) dX9_bit_38 (by decide) ?_
  refine v_callV (as := [.int (nI 2)]) (rest := []) (ws' := fun u => [(m, .inr (9, [.int (nI 2), .int (nI fd), .int pc0, .int dw0, .int lt0, .ref mt, .ref mw, .ref mb, .ref ml, .ref mq, .ref mz, .ref ms, .ref mr, .int ic0, .ref mi, .int tr0, .int sg0, .int ln0, .int at0, .int rd0, .int dr0, .int ma0, .ref mk, .int en0, .ref mj, .ref mn])), (mt, .inl (cI, 16384, .inl tp))]) m_SampleDeskModel_54 (kX9_fail X.l (m := m) (mt := mt) (mw := mw) (mb := mb) (ml := ml) (mq := mq) (mz := mz) (ms := ms) (mr := mr) (mi := mi) (mk := mk) (mj := mj) (mn := mn) (th := nI 0) (fd0 := nI fd) (pc0 := pc0) (dw0 := dw0) (lt0 := lt0) (ic0 := ic0) (tr0 := tr0) (sg0 := sg0) (ln0 := ln0) (at0 := at0) (rd0 := rd0) (dr0 := dr0) (ma0 := ma0) (en0 := en0) (cd := nI 2)) k_code_X9_fail [0] 0 rfl rfl rfl rfl dX9_bit_39 (Nat.le_of_ble_eq_true rfl) ⟨rfl, rfl, by decide, by decide⟩ ⟨Nat.zero_le _, Nat.zero_le _⟩ rfl rfl (fun _ => rfl) (v_mgU rfl (fun _ => rfl)) ?_
  intro uu c39
  try dsimp only at c39
  show V (gG D cI cJ cT) X (rmD 1) cX9_bit 4 RX9 [(m, .inr (9, [.int (nI 2), .int (nI fd), .int pc0, .int dw0, .int lt0, .ref mt, .ref mw, .ref mb, .ref ml, .ref mq, .ref mz, .ref ms, .ref mr, .int ic0, .ref mi, .int tr0, .int sg0, .int ln0, .int at0, .int rd0, .int dr0, .int ma0, .ref mk, .int en0, .ref mj, .ref mn])), (mt, .inl (cI, 16384, .inl tp))] 0 0 [(0, .ref m), (1, .int at0q), (2, .int bt)] 42 [.int (nI 0)]
  exact v_iret hE dX9_bit_42 () (trivial) rfl rfl
set_option maxRecDepth 100000 in
set_option maxHeartbeats 1000000 in
theorem kX9_bit_0 {D : va_G} {cI cJ cT : ClassId} (l : Launch) {m mt mw mb ml mq mz ms mr mi mk mj mn : Nat} {th fd0 pc0 dw0 lt0 ic0 tr0 sg0 ln0 at0 rd0 dr0 ma0 en0 : Int32} {fd i t : Nat} {tp : Nat → Int32} (hfd : fd ≤ 16384) (hi : i < fd) (ht : t < 2) : Fn (S := Unit) (gG D cI cJ cT) l yX9_bit (.code yX9_bit cX9_bit 4 (some .int)) (rmD 1) [.ref m, .int (nI i), .int (nI t)] [(m, .inr (9, [.int th, .int (nI fd), .int pc0, .int dw0, .int lt0, .ref mt, .ref mw, .ref mb, .ref ml, .ref mq, .ref mz, .ref ms, .ref mr, .int ic0, .ref mi, .int tr0, .int sg0, .int ln0, .int at0, .int rd0, .int dr0, .int ma0, .ref mk, .int en0, .ref mj, .ref mn])), (mt, .inl (cI, 16384, .inl tp))] (fun _ => True) (fun u => some (.int (tp i))) (fun u => [(m, .inr (9, [.int (nI 0), .int (nI fd), .int pc0, .int dw0, .int lt0, .ref mt, .ref mw, .ref mb, .ref ml, .ref mq, .ref mz, .ref ms, .ref mr, .int ic0, .ref mi, .int tr0, .int sg0, .int ln0, .int at0, .int rd0, .int dr0, .int ma0, .ref mk, .int en0, .ref mj, .ref mn])), (mt, .inl (cI, 16384, .inl (upd tp i (nI t))))]) := by
  refine Fn.intro (by decide) (Nat.le_of_ble_eq_true rfl) ?_
  intro X hX hE hin
  subst hX
  show V (gG D cI cJ cT) X _ cX9_bit 4 RX9 _ 0 0 [(0, .ref m), (1, .int (nI i)), (2, .int (nI t))] 0 []
  refine v_aload_n 0 dX9_bit_0 rfl rfl ?_
  refine v_iconst (v := nI 0) dX9_bit_1 (by decide) ?_
  refine v_put (ws' := [(m, .inr (9, [.int (nI 0), .int (nI fd), .int pc0, .int dw0, .int lt0, .ref mt, .ref mw, .ref mb, .ref ml, .ref mq, .ref mz, .ref ms, .ref mr, .int ic0, .ref mi, .int tr0, .int sg0, .int ln0, .int at0, .int rd0, .int dr0, .int ma0, .ref mk, .int en0, .ref mj, .ref mn])), (mt, .inl (cI, 16384, .inl tp))]) fw_SampleDeskModel_47 0 rfl (rfl) (rfl) (Nat.le_of_ble_eq_true rfl) dX9_bit_2 rfl ?_
  refine v_iload_n 1 dX9_bit_5 rfl rfl ?_
  refine v_i2l (v := (nI i).toInt64) dX9_bit_6 (rfl) ?_
  refine v_lconst (v := 0) dX9_bit_7 (by decide) ?_
  refine v_aload_n 0 dX9_bit_8 rfl rfl ?_
  refine v_get f_SampleDeskModel_51 0 rfl rfl dX9_bit_9 ?_
  refine v_iconst (v := nI 1) dX9_bit_12 (by decide) ?_
  refine v_isub dX9_bit_13 ?_
  refine v_i2l (v := (nI fd - nI 1).toInt64) dX9_bit_14 (rfl) ?_
  refine v_callS (as := [.long ((nI i).toInt64), .long 0, .long ((nI fd - nI 1).toInt64)]) (rest := []) (ws' := fun u => [(m, .inr (9, [.int (nI 0), .int (nI fd), .int pc0, .int dw0, .int lt0, .ref mt, .ref mw, .ref mb, .ref ml, .ref mq, .ref mz, .ref ms, .ref mr, .int ic0, .ref mi, .int tr0, .int sg0, .int ln0, .int at0, .int rd0, .int dr0, .int ma0, .ref mk, .int en0, .ref mj, .ref mn])), (mt, .inl (cI, 16384, .inl tp))]) m_SampleDeskModel_58 (kX9_within X.l (v := (nI i).toInt64) (lo := 0) (hi := (nI fd - nI 1).toInt64)) k_code_X9_within [] rfl rfl dX9_bit_15 (Nat.le_of_ble_eq_true rfl) ⟨rfl, rfl, by decide, by decide⟩ ⟨Nat.zero_le _, Nat.zero_le _⟩ rfl rfl (fun _ => rfl) (v_mgU rfl (fun _ => rfl)) ?_
  intro uu c15
  try dsimp only at c15
  show V (gG D cI cJ cT) X (rmD 1) cX9_bit 4 RX9 [(m, .inr (9, [.int (nI 0), .int (nI fd), .int pc0, .int dw0, .int lt0, .ref mt, .ref mw, .ref mb, .ref ml, .ref mq, .ref mz, .ref ms, .ref mr, .int ic0, .ref mi, .int tr0, .int sg0, .int ln0, .int at0, .int rd0, .int dr0, .int ma0, .ref mk, .int en0, .ref mj, .ref mn])), (mt, .inl (cI, 16384, .inl tp))] 0 0 [(0, .ref m), (1, .int (nI i)), (2, .int (nI t))] 18 [.int (dI (wi ((nI i).toInt64) 0 ((nI fd - nI 1).toInt64)))]
  refine v_topi (y := dI true) (congrArg dI ((show wi ((nI i).toInt64) 0 ((nI fd - nI 1).toInt64) = up (nI i) (nI fd - nI 1) by exact wi_up _ _).trans (upT (by omega) ⟨i, hi, rfl⟩))) ?_
  refine v_if_ne (tgt := 27) dX9_bit_18 (by decide) (fun b18 => ?_) (fun b18 => absurd b18 (by decide))
  refine v_iload_n 2 dX9_bit_27 rfl rfl ?_
  refine v_i2l (v := (nI t).toInt64) dX9_bit_28 (rfl) ?_
  refine v_lconst (v := 0) dX9_bit_29 (by decide) ?_
  refine v_lconst (v := 1) dX9_bit_30 (by decide) ?_
  refine v_callS (as := [.long ((nI t).toInt64), .long 0, .long 1]) (rest := []) (ws' := fun u => [(m, .inr (9, [.int (nI 0), .int (nI fd), .int pc0, .int dw0, .int lt0, .ref mt, .ref mw, .ref mb, .ref ml, .ref mq, .ref mz, .ref ms, .ref mr, .int ic0, .ref mi, .int tr0, .int sg0, .int ln0, .int at0, .int rd0, .int dr0, .int ma0, .ref mk, .int en0, .ref mj, .ref mn])), (mt, .inl (cI, 16384, .inl tp))]) m_SampleDeskModel_58 (kX9_within X.l (v := (nI t).toInt64) (lo := 0) (hi := 1)) k_code_X9_within [] rfl rfl dX9_bit_31 (Nat.le_of_ble_eq_true rfl) ⟨rfl, rfl, by decide, by decide⟩ ⟨Nat.zero_le _, Nat.zero_le _⟩ rfl rfl (fun _ => rfl) (v_mgU rfl (fun _ => rfl)) ?_
  intro uu c31
  try dsimp only at c31
  show V (gG D cI cJ cT) X (rmD 1) cX9_bit 4 RX9 [(m, .inr (9, [.int (nI 0), .int (nI fd), .int pc0, .int dw0, .int lt0, .ref mt, .ref mw, .ref mb, .ref ml, .ref mq, .ref mz, .ref ms, .ref mr, .int ic0, .ref mi, .int tr0, .int sg0, .int ln0, .int at0, .int rd0, .int dr0, .int ma0, .ref mk, .int en0, .ref mj, .ref mn])), (mt, .inl (cI, 16384, .inl tp))] 0 0 [(0, .ref m), (1, .int (nI i)), (2, .int (nI t))] 34 [.int (dI (wi ((nI t).toInt64) 0 1))]
  refine v_topi (y := dI true) (congrArg dI ((show wi ((nI t).toInt64) 0 1 = up (nI t) (nI 1) by rw [show (1 : Int64) = (1 : Int32).toInt64 by decide, wi_up]; try rfl).trans (upT1 (by decide) ⟨t, ht, rfl⟩))) ?_
  refine v_if_ne (tgt := 43) dX9_bit_34 (by decide) (fun b34 => ?_) (fun b34 => absurd b34 (by decide))
  refine v_aload_n 0 dX9_bit_43 rfl rfl ?_
  refine v_get f_SampleDeskModel_7 0 rfl rfl dX9_bit_44 ?_
  refine v_iload_n 1 dX9_bit_47 rfl rfl ?_
  refine v_iald 0 1 rfl rfl (by omega) (by omega) dX9_bit_48 ?_
  refine v_istore_n (lv' := [(3, .int (tp i)), (0, .ref m), (1, .int (nI i)), (2, .int (nI t))]) dX9_bit_49 rfl (by decide) rfl ?_
  refine v_aload_n 1 dX9_bit_50 rfl rfl ?_
  refine v_get f_SampleDeskModel_7 0 rfl rfl dX9_bit_51 ?_
  refine v_iload_n 2 dX9_bit_54 rfl rfl ?_
  refine v_iload_n 3 dX9_bit_55 rfl rfl ?_
  refine v_iast (ws' := [(m, .inr (9, [.int (nI 0), .int (nI fd), .int pc0, .int dw0, .int lt0, .ref mt, .ref mw, .ref mb, .ref ml, .ref mq, .ref mz, .ref ms, .ref mr, .int ic0, .ref mi, .int tr0, .int sg0, .int ln0, .int at0, .int rd0, .int dr0, .int ma0, .ref mk, .int en0, .ref mj, .ref mn])), (mt, .inl (cI, 16384, .inl (upd tp i (nI t))))]) 0 1 rfl rfl (by omega) (by omega) dX9_bit_56 rfl ?_
  refine v_iload_n 0 dX9_bit_57 rfl rfl ?_
  exact v_iret hE dX9_bit_58 () (trivial) rfl rfl
set_option maxRecDepth 100000 in
set_option maxHeartbeats 1000000 in
theorem kX9_rewind_1 {D : va_G} {cI cJ cT : ClassId} (l : Launch) {m mt mw mb ml mq mz ms mr mi mk mj mn : Nat} {th fd0 pc0 dw0 lt0 ic0 tr0 sg0 ln0 at0 rd0 dr0 ma0 en0 : Int32} {fd : Nat} {at0q : Int32} (hfd : fd ≤ 16384) (hn : ¬ inR at0q (fd + 1)) : Fn (S := Unit) (gG D cI cJ cT) l yX9_rewind (.code yX9_rewind cX9_rewind 3 (some .int)) (rmD 1) [.ref m, .int at0q] [(m, .inr (9, [.int th, .int (nI fd), .int pc0, .int dw0, .int lt0, .ref mt, .ref mw, .ref mb, .ref ml, .ref mq, .ref mz, .ref ms, .ref mr, .int ic0, .ref mi, .int tr0, .int sg0, .int ln0, .int at0, .int rd0, .int dr0, .int ma0, .ref mk, .int en0, .ref mj, .ref mn]))] (fun _ => True) (fun u => some (.int (nI 0))) (fun u => [(m, .inr (9, [.int (nI 1), .int (nI fd), .int pc0, .int dw0, .int lt0, .ref mt, .ref mw, .ref mb, .ref ml, .ref mq, .ref mz, .ref ms, .ref mr, .int ic0, .ref mi, .int tr0, .int sg0, .int ln0, .int at0, .int rd0, .int dr0, .int ma0, .ref mk, .int en0, .ref mj, .ref mn]))]) := by
  refine Fn.intro (by decide) (Nat.le_of_ble_eq_true rfl) ?_
  intro X hX hE hin
  subst hX
  show V (gG D cI cJ cT) X _ cX9_rewind 3 RX9 _ 0 0 [(0, .ref m), (1, .int at0q)] 0 []
  refine v_aload_n 0 dX9_rewind_0 rfl rfl ?_
  refine v_iconst (v := nI 0) dX9_rewind_1 (by decide) ?_
  refine v_put (ws' := [(m, .inr (9, [.int (nI 0), .int (nI fd), .int pc0, .int dw0, .int lt0, .ref mt, .ref mw, .ref mb, .ref ml, .ref mq, .ref mz, .ref ms, .ref mr, .int ic0, .ref mi, .int tr0, .int sg0, .int ln0, .int at0, .int rd0, .int dr0, .int ma0, .ref mk, .int en0, .ref mj, .ref mn]))]) fw_SampleDeskModel_47 0 rfl (rfl) (rfl) (Nat.le_of_ble_eq_true rfl) dX9_rewind_2 rfl ?_
  refine v_iload_n 1 dX9_rewind_5 rfl rfl ?_
  refine v_i2l (v := at0q.toInt64) dX9_rewind_6 (rfl) ?_
  refine v_lconst (v := 0) dX9_rewind_7 (by decide) ?_
  refine v_aload_n 0 dX9_rewind_8 rfl rfl ?_
  refine v_get f_SampleDeskModel_51 0 rfl rfl dX9_rewind_9 ?_
  refine v_i2l (v := (nI fd).toInt64) dX9_rewind_12 (rfl) ?_
  refine v_callS (as := [.long at0q.toInt64, .long 0, .long ((nI fd).toInt64)]) (rest := []) (ws' := fun u => [(m, .inr (9, [.int (nI 0), .int (nI fd), .int pc0, .int dw0, .int lt0, .ref mt, .ref mw, .ref mb, .ref ml, .ref mq, .ref mz, .ref ms, .ref mr, .int ic0, .ref mi, .int tr0, .int sg0, .int ln0, .int at0, .int rd0, .int dr0, .int ma0, .ref mk, .int en0, .ref mj, .ref mn]))]) m_SampleDeskModel_58 (kX9_within X.l (v := at0q.toInt64) (lo := 0) (hi := (nI fd).toInt64)) k_code_X9_within [] rfl rfl dX9_rewind_13 (Nat.le_of_ble_eq_true rfl) ⟨rfl, rfl, by decide, by decide⟩ ⟨Nat.zero_le _, Nat.zero_le _⟩ rfl rfl (fun _ => rfl) (v_mgU rfl (fun _ => rfl)) ?_
  intro uu c13
  try dsimp only at c13
  show V (gG D cI cJ cT) X (rmD 1) cX9_rewind 3 RX9 [(m, .inr (9, [.int (nI 0), .int (nI fd), .int pc0, .int dw0, .int lt0, .ref mt, .ref mw, .ref mb, .ref ml, .ref mq, .ref mz, .ref ms, .ref mr, .int ic0, .ref mi, .int tr0, .int sg0, .int ln0, .int at0, .int rd0, .int dr0, .int ma0, .ref mk, .int en0, .ref mj, .ref mn]))] 0 0 [(0, .ref m), (1, .int at0q)] 16 [.int (dI (wi at0q.toInt64 0 ((nI fd).toInt64)))]
  refine v_topi (y := dI false) (congrArg dI ((show wi at0q.toInt64 0 ((nI fd).toInt64) = up at0q (nI fd) by exact wi_up _ _).trans (upF1 (by omega) hn))) ?_
  refine v_if_ne (tgt := 25) dX9_rewind_16 (by decide) (fun b16 => absurd b16 (fun q => q rfl)) (fun b16 => ?_)
  refine v_aload_n 0 dX9_rewind_19 rfl rfl ?_
  refine v_iconst (v := nI 1) dX9_rewind_20 (by decide) ?_
  refine v_callV (as := [.int (nI 1)]) (rest := []) (ws' := fun u => [(m, .inr (9, [.int (nI 1), .int (nI fd), .int pc0, .int dw0, .int lt0, .ref mt, .ref mw, .ref mb, .ref ml, .ref mq, .ref mz, .ref ms, .ref mr, .int ic0, .ref mi, .int tr0, .int sg0, .int ln0, .int at0, .int rd0, .int dr0, .int ma0, .ref mk, .int en0, .ref mj, .ref mn]))]) m_SampleDeskModel_54 (kX9_fail X.l (m := m) (mt := mt) (mw := mw) (mb := mb) (ml := ml) (mq := mq) (mz := mz) (ms := ms) (mr := mr) (mi := mi) (mk := mk) (mj := mj) (mn := mn) (th := nI 0) (fd0 := nI fd) (pc0 := pc0) (dw0 := dw0) (lt0 := lt0) (ic0 := ic0) (tr0 := tr0) (sg0 := sg0) (ln0 := ln0) (at0 := at0) (rd0 := rd0) (dr0 := dr0) (ma0 := ma0) (en0 := en0) (cd := nI 1)) k_code_X9_fail [0] 0 rfl rfl rfl rfl dX9_rewind_21 (Nat.le_of_ble_eq_true rfl) ⟨rfl, rfl, by decide, by decide⟩ ⟨Nat.zero_le _, Nat.zero_le _⟩ rfl rfl (fun _ => rfl) (v_mgU rfl (fun _ => rfl)) ?_
  intro uu c21
  try dsimp only at c21
  show V (gG D cI cJ cT) X (rmD 1) cX9_rewind 3 RX9 [(m, .inr (9, [.int (nI 1), .int (nI fd), .int pc0, .int dw0, .int lt0, .ref mt, .ref mw, .ref mb, .ref ml, .ref mq, .ref mz, .ref ms, .ref mr, .int ic0, .ref mi, .int tr0, .int sg0, .int ln0, .int at0, .int rd0, .int dr0, .int ma0, .ref mk, .int en0, .ref mj, .ref mn]))] 0 0 [(0, .ref m), (1, .int at0q)] 24 [.int (nI 0)]
  exact v_iret hE dX9_rewind_24 () (trivial) rfl rfl
set_option maxRecDepth 100000 in
set_option maxHeartbeats 1000000 in
theorem kX9_rewind_0 {D : va_G} {cI cJ cT : ClassId} (l : Launch) {m mt mw mb ml mq mz ms mr mi mk mj mn : Nat} {th fd0 pc0 dw0 lt0 ic0 tr0 sg0 ln0 at0 rd0 dr0 ma0 en0 : Int32} {fd : Nat} {at0q : Int32} (hfd : fd ≤ 16384) (hn : inR at0q (fd + 1)) : Fn (S := Unit) (gG D cI cJ cT) l yX9_rewind (.code yX9_rewind cX9_rewind 3 (some .int)) (rmD 1) [.ref m, .int at0q] [(m, .inr (9, [.int th, .int (nI fd), .int pc0, .int dw0, .int lt0, .ref mt, .ref mw, .ref mb, .ref ml, .ref mq, .ref mz, .ref ms, .ref mr, .int ic0, .ref mi, .int tr0, .int sg0, .int ln0, .int at0, .int rd0, .int dr0, .int ma0, .ref mk, .int en0, .ref mj, .ref mn]))] (fun _ => True) (fun u => some (.int pc0)) (fun u => [(m, .inr (9, [.int (nI 0), .int (nI fd), .int at0q, .int dw0, .int lt0, .ref mt, .ref mw, .ref mb, .ref ml, .ref mq, .ref mz, .ref ms, .ref mr, .int ic0, .ref mi, .int tr0, .int sg0, .int ln0, .int at0, .int rd0, .int dr0, .int ma0, .ref mk, .int en0, .ref mj, .ref mn]))]) := by
  refine Fn.intro (by decide) (Nat.le_of_ble_eq_true rfl) ?_
  intro X hX hE hin
  subst hX
  show V (gG D cI cJ cT) X _ cX9_rewind 3 RX9 _ 0 0 [(0, .ref m), (1, .int at0q)] 0 []
  refine v_aload_n 0 dX9_rewind_0 rfl rfl ?_
  refine v_iconst (v := nI 0) dX9_rewind_1 (by decide) ?_
  refine v_put (ws' := [(m, .inr (9, [.int (nI 0), .int (nI fd), .int pc0, .int dw0, .int lt0, .ref mt, .ref mw, .ref mb, .ref ml, .ref mq, .ref mz, .ref ms, .ref mr, .int ic0, .ref mi, .int tr0, .int sg0, .int ln0, .int at0, .int rd0, .int dr0, .int ma0, .ref mk, .int en0, .ref mj, .ref mn]))]) fw_SampleDeskModel_47 0 rfl (rfl) (rfl) (Nat.le_of_ble_eq_true rfl) dX9_rewind_2 rfl ?_
  refine v_iload_n 1 dX9_rewind_5 rfl rfl ?_
  refine v_i2l (v := at0q.toInt64) dX9_rewind_6 (rfl) ?_
  refine v_lconst (v := 0) dX9_rewind_7 (by decide) ?_
  refine v_aload_n 0 dX9_rewind_8 rfl rfl ?_
  refine v_get f_SampleDeskModel_51 0 rfl rfl dX9_rewind_9 ?_
  refine v_i2l (v := (nI fd).toInt64) dX9_rewind_12 (rfl) ?_
  refine v_callS (as := [.long at0q.toInt64, .long 0, .long ((nI fd).toInt64)]) (rest := []) (ws' := fun u => [(m, .inr (9, [.int (nI 0), .int (nI fd), .int pc0, .int dw0, .int lt0, .ref mt, .ref mw, .ref mb, .ref ml, .ref mq, .ref mz, .ref ms, .ref mr, .int ic0, .ref mi, .int tr0, .int sg0, .int ln0, .int at0, .int rd0, .int dr0, .int ma0, .ref mk, .int en0, .ref mj, .ref mn]))]) m_SampleDeskModel_58 (kX9_within X.l (v := at0q.toInt64) (lo := 0) (hi := (nI fd).toInt64)) k_code_X9_within [] rfl rfl dX9_rewind_13 (Nat.le_of_ble_eq_true rfl) ⟨rfl, rfl, by decide, by decide⟩ ⟨Nat.zero_le _, Nat.zero_le _⟩ rfl rfl (fun _ => rfl) (v_mgU rfl (fun _ => rfl)) ?_
  intro uu c13
  try dsimp only at c13
  show V (gG D cI cJ cT) X (rmD 1) cX9_rewind 3 RX9 [(m, .inr (9, [.int (nI 0), .int (nI fd), .int pc0, .int dw0, .int lt0, .ref mt, .ref mw, .ref mb, .ref ml, .ref mq, .ref mz, .ref ms, .ref mr, .int ic0, .ref mi, .int tr0, .int sg0, .int ln0, .int at0, .int rd0, .int dr0, .int ma0, .ref mk, .int en0, .ref mj, .ref mn]))] 0 0 [(0, .ref m), (1, .int at0q)] 16 [.int (dI (wi at0q.toInt64 0 ((nI fd).toInt64)))]
  refine v_topi (y := dI true) (congrArg dI ((show wi at0q.toInt64 0 ((nI fd).toInt64) = up at0q (nI fd) by exact wi_up _ _).trans (upT1 (by omega) hn))) ?_
  refine v_if_ne (tgt := 25) dX9_rewind_16 (by decide) (fun b16 => ?_) (fun b16 => absurd b16 (by decide))
  refine v_aload_n 0 dX9_rewind_25 rfl rfl ?_
  refine v_get f_SampleDeskModel_62 0 rfl rfl dX9_rewind_26 ?_
  refine v_istore_n (lv' := [(2, .int pc0), (0, .ref m), (1, .int at0q)]) dX9_rewind_29 rfl (by decide) rfl ?_
  refine v_aload_n 1 dX9_rewind_30 rfl rfl ?_
  refine v_iload_n 2 dX9_rewind_31 rfl rfl ?_
  refine v_put (ws' := [(m, .inr (9, [.int (nI 0), .int (nI fd), .int at0q, .int dw0, .int lt0, .ref mt, .ref mw, .ref mb, .ref ml, .ref mq, .ref mz, .ref ms, .ref mr, .int ic0, .ref mi, .int tr0, .int sg0, .int ln0, .int at0, .int rd0, .int dr0, .int ma0, .ref mk, .int en0, .ref mj, .ref mn]))]) fw_SampleDeskModel_62 0 rfl (rfl) (rfl) (Nat.le_of_ble_eq_true rfl) dX9_rewind_32 rfl ?_
  refine v_iload_n 0 dX9_rewind_35 rfl rfl ?_
  exact v_iret hE dX9_rewind_36 () (trivial) rfl rfl
set_option maxRecDepth 100000 in
set_option maxHeartbeats 1000000 in
theorem kX9_weight_1a {D : va_G} {cI cJ cT : ClassId} (l : Launch) {m mt mw mb ml mq mz ms mr mi mk mj mn : Nat} {th fd0 pc0 dw0 lt0 ic0 tr0 sg0 ln0 at0 rd0 dr0 ma0 en0 : Int32} {t i wt : Int32} {gW : Nat → Int64} {gB : Nat → Int32} (ht : ¬ inR t 8) : Fn (S := Unit) (gG D cI cJ cT) l yX9_weight (.code yX9_weight cX9_weight 5 (some .int)) (rmD 1) [.ref m, .int t, .int i, .int wt] [(m, .inr (9, [.int th, .int fd0, .int pc0, .int dw0, .int lt0, .ref mt, .ref mw, .ref mb, .ref ml, .ref mq, .ref mz, .ref ms, .ref mr, .int ic0, .ref mi, .int tr0, .int sg0, .int ln0, .int at0, .int rd0, .int dr0, .int ma0, .ref mk, .int en0, .ref mj, .ref mn])), (mw, .inl (cJ, 512, .inr (.inl gW))), (mb, .inl (cI, 8, .inl gB))] (fun _ => True) (fun u => some (.int (nI 0))) (fun u => [(m, .inr (9, [.int (nI 1), .int fd0, .int pc0, .int dw0, .int lt0, .ref mt, .ref mw, .ref mb, .ref ml, .ref mq, .ref mz, .ref ms, .ref mr, .int ic0, .ref mi, .int tr0, .int sg0, .int ln0, .int at0, .int rd0, .int dr0, .int ma0, .ref mk, .int en0, .ref mj, .ref mn])), (mw, .inl (cJ, 512, .inr (.inl gW))), (mb, .inl (cI, 8, .inl gB))]) := by
  refine Fn.intro (by decide) (Nat.le_of_ble_eq_true rfl) ?_
  intro X hX hE hin
  subst hX
  show V (gG D cI cJ cT) X _ cX9_weight 5 RX9 _ 0 0 [(0, .ref m), (1, .int t), (2, .int i), (3, .int wt)] 0 []
  refine v_aload_n 0 dX9_weight_0 rfl rfl ?_
  refine v_iconst (v := nI 0) dX9_weight_1 (by decide) ?_
  refine v_put (ws' := [(m, .inr (9, [.int (nI 0), .int fd0, .int pc0, .int dw0, .int lt0, .ref mt, .ref mw, .ref mb, .ref ml, .ref mq, .ref mz, .ref ms, .ref mr, .int ic0, .ref mi, .int tr0, .int sg0, .int ln0, .int at0, .int rd0, .int dr0, .int ma0, .ref mk, .int en0, .ref mj, .ref mn])), (mw, .inl (cJ, 512, .inr (.inl gW))), (mb, .inl (cI, 8, .inl gB))]) fw_SampleDeskModel_47 0 rfl (rfl) (rfl) (Nat.le_of_ble_eq_true rfl) dX9_weight_2 rfl ?_
  refine v_iload_n 1 dX9_weight_5 rfl rfl ?_
  refine v_i2l (v := t.toInt64) dX9_weight_6 (rfl) ?_
  refine v_lconst (v := 0) dX9_weight_7 (by decide) ?_
  refine v_ldc2 (v := 7) k_c_SampleDeskModel_65 dX9_weight_8 ?_
  refine v_callS (as := [.long t.toInt64, .long 0, .long 7]) (rest := []) (ws' := fun u => [(m, .inr (9, [.int (nI 0), .int fd0, .int pc0, .int dw0, .int lt0, .ref mt, .ref mw, .ref mb, .ref ml, .ref mq, .ref mz, .ref ms, .ref mr, .int ic0, .ref mi, .int tr0, .int sg0, .int ln0, .int at0, .int rd0, .int dr0, .int ma0, .ref mk, .int en0, .ref mj, .ref mn])), (mw, .inl (cJ, 512, .inr (.inl gW))), (mb, .inl (cI, 8, .inl gB))]) m_SampleDeskModel_58 (kX9_within X.l (v := t.toInt64) (lo := 0) (hi := 7)) k_code_X9_within [] rfl rfl dX9_weight_11 (Nat.le_of_ble_eq_true rfl) ⟨rfl, rfl, by decide, by decide⟩ ⟨Nat.zero_le _, Nat.zero_le _⟩ rfl rfl (fun _ => rfl) (v_mgU rfl (fun _ => rfl)) ?_
  intro uu c11
  try dsimp only at c11
  show V (gG D cI cJ cT) X (rmD 1) cX9_weight 5 RX9 [(m, .inr (9, [.int (nI 0), .int fd0, .int pc0, .int dw0, .int lt0, .ref mt, .ref mw, .ref mb, .ref ml, .ref mq, .ref mz, .ref ms, .ref mr, .int ic0, .ref mi, .int tr0, .int sg0, .int ln0, .int at0, .int rd0, .int dr0, .int ma0, .ref mk, .int en0, .ref mj, .ref mn])), (mw, .inl (cJ, 512, .inr (.inl gW))), (mb, .inl (cI, 8, .inl gB))] 0 0 [(0, .ref m), (1, .int t), (2, .int i), (3, .int wt)] 14 [.int (dI (wi t.toInt64 0 7))]
  refine v_topi (y := dI false) (congrArg dI ((show wi t.toInt64 0 7 = up t 7 by rw [show (7 : Int64) = (7 : Int32).toInt64 by decide, wi_up]; try rfl).trans (upF1 (n := 7) (by decide) ht))) ?_
  refine v_if_eq (tgt := 29) dX9_weight_14 (by decide) (fun b14 => ?_) (fun b14 => absurd (rfl) b14)
  refine v_aload_n 0 dX9_weight_29 rfl rfl ?_
  refine v_iconst (v := nI 1) dX9_weight_30 (by decide) ?_
  refine v_callV (as := [.int (nI 1)]) (rest := []) (ws' := fun u => [(m, .inr (9, [.int (nI 1), .int fd0, .int pc0, .int dw0, .int lt0, .ref mt, .ref mw, .ref mb, .ref ml, .ref mq, .ref mz, .ref ms, .ref mr, .int ic0, .ref mi, .int tr0, .int sg0, .int ln0, .int at0, .int rd0, .int dr0, .int ma0, .ref mk, .int en0, .ref mj, .ref mn])), (mw, .inl (cJ, 512, .inr (.inl gW))), (mb, .inl (cI, 8, .inl gB))]) m_SampleDeskModel_54 (kX9_fail X.l (m := m) (mt := mt) (mw := mw) (mb := mb) (ml := ml) (mq := mq) (mz := mz) (ms := ms) (mr := mr) (mi := mi) (mk := mk) (mj := mj) (mn := mn) (th := nI 0) (fd0 := fd0) (pc0 := pc0) (dw0 := dw0) (lt0 := lt0) (ic0 := ic0) (tr0 := tr0) (sg0 := sg0) (ln0 := ln0) (at0 := at0) (rd0 := rd0) (dr0 := dr0) (ma0 := ma0) (en0 := en0) (cd := nI 1)) k_code_X9_fail [0] 0 rfl rfl rfl rfl dX9_weight_31 (Nat.le_of_ble_eq_true rfl) ⟨rfl, rfl, by decide, by decide⟩ ⟨Nat.zero_le _, Nat.zero_le _⟩ rfl rfl (fun _ => rfl) (v_mgU rfl (fun _ => rfl)) ?_
  intro uu c31
  try dsimp only at c31
  show V (gG D cI cJ cT) X (rmD 1) cX9_weight 5 RX9 [(m, .inr (9, [.int (nI 1), .int fd0, .int pc0, .int dw0, .int lt0, .ref mt, .ref mw, .ref mb, .ref ml, .ref mq, .ref mz, .ref ms, .ref mr, .int ic0, .ref mi, .int tr0, .int sg0, .int ln0, .int at0, .int rd0, .int dr0, .int ma0, .ref mk, .int en0, .ref mj, .ref mn])), (mw, .inl (cJ, 512, .inr (.inl gW))), (mb, .inl (cI, 8, .inl gB))] 0 0 [(0, .ref m), (1, .int t), (2, .int i), (3, .int wt)] 34 [.int (nI 0)]
  exact v_iret hE dX9_weight_34 () (trivial) rfl rfl
set_option maxRecDepth 100000 in
set_option maxHeartbeats 1000000 in
theorem kX9_weight_1b {D : va_G} {cI cJ cT : ClassId} (l : Launch) {m mt mw mb ml mq mz ms mr mi mk mj mn : Nat} {th fd0 pc0 dw0 lt0 ic0 tr0 sg0 ln0 at0 rd0 dr0 ma0 en0 : Int32} {t i wt : Int32} {gW : Nat → Int64} {gB : Nat → Int32} (ht : inR t 8) (hi : ¬ inR i 64) : Fn (S := Unit) (gG D cI cJ cT) l yX9_weight (.code yX9_weight cX9_weight 5 (some .int)) (rmD 1) [.ref m, .int t, .int i, .int wt] [(m, .inr (9, [.int th, .int fd0, .int pc0, .int dw0, .int lt0, .ref mt, .ref mw, .ref mb, .ref ml, .ref mq, .ref mz, .ref ms, .ref mr, .int ic0, .ref mi, .int tr0, .int sg0, .int ln0, .int at0, .int rd0, .int dr0, .int ma0, .ref mk, .int en0, .ref mj, .ref mn])), (mw, .inl (cJ, 512, .inr (.inl gW))), (mb, .inl (cI, 8, .inl gB))] (fun _ => True) (fun u => some (.int (nI 0))) (fun u => [(m, .inr (9, [.int (nI 1), .int fd0, .int pc0, .int dw0, .int lt0, .ref mt, .ref mw, .ref mb, .ref ml, .ref mq, .ref mz, .ref ms, .ref mr, .int ic0, .ref mi, .int tr0, .int sg0, .int ln0, .int at0, .int rd0, .int dr0, .int ma0, .ref mk, .int en0, .ref mj, .ref mn])), (mw, .inl (cJ, 512, .inr (.inl gW))), (mb, .inl (cI, 8, .inl gB))]) := by
  refine Fn.intro (by decide) (Nat.le_of_ble_eq_true rfl) ?_
  intro X hX hE hin
  subst hX
  show V (gG D cI cJ cT) X _ cX9_weight 5 RX9 _ 0 0 [(0, .ref m), (1, .int t), (2, .int i), (3, .int wt)] 0 []
  refine v_aload_n 0 dX9_weight_0 rfl rfl ?_
  refine v_iconst (v := nI 0) dX9_weight_1 (by decide) ?_
  refine v_put (ws' := [(m, .inr (9, [.int (nI 0), .int fd0, .int pc0, .int dw0, .int lt0, .ref mt, .ref mw, .ref mb, .ref ml, .ref mq, .ref mz, .ref ms, .ref mr, .int ic0, .ref mi, .int tr0, .int sg0, .int ln0, .int at0, .int rd0, .int dr0, .int ma0, .ref mk, .int en0, .ref mj, .ref mn])), (mw, .inl (cJ, 512, .inr (.inl gW))), (mb, .inl (cI, 8, .inl gB))]) fw_SampleDeskModel_47 0 rfl (rfl) (rfl) (Nat.le_of_ble_eq_true rfl) dX9_weight_2 rfl ?_
  refine v_iload_n 1 dX9_weight_5 rfl rfl ?_
  refine v_i2l (v := t.toInt64) dX9_weight_6 (rfl) ?_
  refine v_lconst (v := 0) dX9_weight_7 (by decide) ?_
  refine v_ldc2 (v := 7) k_c_SampleDeskModel_65 dX9_weight_8 ?_
  refine v_callS (as := [.long t.toInt64, .long 0, .long 7]) (rest := []) (ws' := fun u => [(m, .inr (9, [.int (nI 0), .int fd0, .int pc0, .int dw0, .int lt0, .ref mt, .ref mw, .ref mb, .ref ml, .ref mq, .ref mz, .ref ms, .ref mr, .int ic0, .ref mi, .int tr0, .int sg0, .int ln0, .int at0, .int rd0, .int dr0, .int ma0, .ref mk, .int en0, .ref mj, .ref mn])), (mw, .inl (cJ, 512, .inr (.inl gW))), (mb, .inl (cI, 8, .inl gB))]) m_SampleDeskModel_58 (kX9_within X.l (v := t.toInt64) (lo := 0) (hi := 7)) k_code_X9_within [] rfl rfl dX9_weight_11 (Nat.le_of_ble_eq_true rfl) ⟨rfl, rfl, by decide, by decide⟩ ⟨Nat.zero_le _, Nat.zero_le _⟩ rfl rfl (fun _ => rfl) (v_mgU rfl (fun _ => rfl)) ?_
  intro uu c11
  try dsimp only at c11
  show V (gG D cI cJ cT) X (rmD 1) cX9_weight 5 RX9 [(m, .inr (9, [.int (nI 0), .int fd0, .int pc0, .int dw0, .int lt0, .ref mt, .ref mw, .ref mb, .ref ml, .ref mq, .ref mz, .ref ms, .ref mr, .int ic0, .ref mi, .int tr0, .int sg0, .int ln0, .int at0, .int rd0, .int dr0, .int ma0, .ref mk, .int en0, .ref mj, .ref mn])), (mw, .inl (cJ, 512, .inr (.inl gW))), (mb, .inl (cI, 8, .inl gB))] 0 0 [(0, .ref m), (1, .int t), (2, .int i), (3, .int wt)] 14 [.int (dI (wi t.toInt64 0 7))]
  refine v_topi (y := dI true) (congrArg dI ((show wi t.toInt64 0 7 = up t 7 by rw [show (7 : Int64) = (7 : Int32).toInt64 by decide, wi_up]; try rfl).trans (upT1 (n := 7) (by decide) ht))) ?_
  refine v_if_eq (tgt := 29) dX9_weight_14 (by decide) (fun b14 => absurd b14 (by decide)) (fun b14 => ?_)
  refine v_iload_n 2 dX9_weight_17 rfl rfl ?_
  refine v_i2l (v := i.toInt64) dX9_weight_18 (rfl) ?_
  refine v_lconst (v := 0) dX9_weight_19 (by decide) ?_
  refine v_ldc2 (v := 63) k_c_SampleDeskModel_67 dX9_weight_20 ?_
  refine v_callS (as := [.long i.toInt64, .long 0, .long 63]) (rest := []) (ws' := fun u => [(m, .inr (9, [.int (nI 0), .int fd0, .int pc0, .int dw0, .int lt0, .ref mt, .ref mw, .ref mb, .ref ml, .ref mq, .ref mz, .ref ms, .ref mr, .int ic0, .ref mi, .int tr0, .int sg0, .int ln0, .int at0, .int rd0, .int dr0, .int ma0, .ref mk, .int en0, .ref mj, .ref mn])), (mw, .inl (cJ, 512, .inr (.inl gW))), (mb, .inl (cI, 8, .inl gB))]) m_SampleDeskModel_58 (kX9_within X.l (v := i.toInt64) (lo := 0) (hi := 63)) k_code_X9_within [] rfl rfl dX9_weight_23 (Nat.le_of_ble_eq_true rfl) ⟨rfl, rfl, by decide, by decide⟩ ⟨Nat.zero_le _, Nat.zero_le _⟩ rfl rfl (fun _ => rfl) (v_mgU rfl (fun _ => rfl)) ?_
  intro uu c23
  try dsimp only at c23
  show V (gG D cI cJ cT) X (rmD 1) cX9_weight 5 RX9 [(m, .inr (9, [.int (nI 0), .int fd0, .int pc0, .int dw0, .int lt0, .ref mt, .ref mw, .ref mb, .ref ml, .ref mq, .ref mz, .ref ms, .ref mr, .int ic0, .ref mi, .int tr0, .int sg0, .int ln0, .int at0, .int rd0, .int dr0, .int ma0, .ref mk, .int en0, .ref mj, .ref mn])), (mw, .inl (cJ, 512, .inr (.inl gW))), (mb, .inl (cI, 8, .inl gB))] 0 0 [(0, .ref m), (1, .int t), (2, .int i), (3, .int wt)] 26 [.int (dI (wi i.toInt64 0 63))]
  refine v_topi (y := dI false) (congrArg dI ((show wi i.toInt64 0 63 = up i 63 by rw [show (63 : Int64) = (63 : Int32).toInt64 by decide, wi_up]; try rfl).trans (upF1 (n := 63) (by decide) hi))) ?_
  refine v_if_ne (tgt := 35) dX9_weight_26 (by decide) (fun b26 => absurd b26 (fun q => q rfl)) (fun b26 => ?_)
  refine v_aload_n 0 dX9_weight_29 rfl rfl ?_
  refine v_iconst (v := nI 1) dX9_weight_30 (by decide) ?_
  refine v_callV (as := [.int (nI 1)]) (rest := []) (ws' := fun u => [(m, .inr (9, [.int (nI 1), .int fd0, .int pc0, .int dw0, .int lt0, .ref mt, .ref mw, .ref mb, .ref ml, .ref mq, .ref mz, .ref ms, .ref mr, .int ic0, .ref mi, .int tr0, .int sg0, .int ln0, .int at0, .int rd0, .int dr0, .int ma0, .ref mk, .int en0, .ref mj, .ref mn])), (mw, .inl (cJ, 512, .inr (.inl gW))), (mb, .inl (cI, 8, .inl gB))]) m_SampleDeskModel_54 (kX9_fail X.l (m := m) (mt := mt) (mw := mw) (mb := mb) (ml := ml) (mq := mq) (mz := mz) (ms := ms) (mr := mr) (mi := mi) (mk := mk) (mj := mj) (mn := mn) (th := nI 0) (fd0 := fd0) (pc0 := pc0) (dw0 := dw0) (lt0 := lt0) (ic0 := ic0) (tr0 := tr0) (sg0 := sg0) (ln0 := ln0) (at0 := at0) (rd0 := rd0) (dr0 := dr0) (ma0 := ma0) (en0 := en0) (cd := nI 1)) k_code_X9_fail [0] 0 rfl rfl rfl rfl dX9_weight_31 (Nat.le_of_ble_eq_true rfl) ⟨rfl, rfl, by decide, by decide⟩ ⟨Nat.zero_le _, Nat.zero_le _⟩ rfl rfl (fun _ => rfl) (v_mgU rfl (fun _ => rfl)) ?_
  intro uu c31
  try dsimp only at c31
  show V (gG D cI cJ cT) X (rmD 1) cX9_weight 5 RX9 [(m, .inr (9, [.int (nI 1), .int fd0, .int pc0, .int dw0, .int lt0, .ref mt, .ref mw, .ref mb, .ref ml, .ref mq, .ref mz, .ref ms, .ref mr, .int ic0, .ref mi, .int tr0, .int sg0, .int ln0, .int at0, .int rd0, .int dr0, .int ma0, .ref mk, .int en0, .ref mj, .ref mn])), (mw, .inl (cJ, 512, .inr (.inl gW))), (mb, .inl (cI, 8, .inl gB))] 0 0 [(0, .ref m), (1, .int t), (2, .int i), (3, .int wt)] 34 [.int (nI 0)]
  exact v_iret hE dX9_weight_34 () (trivial) rfl rfl
set_option maxRecDepth 100000 in
set_option maxHeartbeats 1000000 in
theorem kX9_weight_2 {D : va_G} {cI cJ cT : ClassId} (l : Launch) {m mt mw mb ml mq mz ms mr mi mk mj mn : Nat} {th fd0 pc0 dw0 lt0 ic0 tr0 sg0 ln0 at0 rd0 dr0 ma0 en0 : Int32} {t i wt : Int32} {gW : Nat → Int64} {gB : Nat → Int32} (ht : inR t 8) (hi : inR i 64) (hw : wt < 0) : Fn (S := Unit) (gG D cI cJ cT) l yX9_weight (.code yX9_weight cX9_weight 5 (some .int)) (rmD 1) [.ref m, .int t, .int i, .int wt] [(m, .inr (9, [.int th, .int fd0, .int pc0, .int dw0, .int lt0, .ref mt, .ref mw, .ref mb, .ref ml, .ref mq, .ref mz, .ref ms, .ref mr, .int ic0, .ref mi, .int tr0, .int sg0, .int ln0, .int at0, .int rd0, .int dr0, .int ma0, .ref mk, .int en0, .ref mj, .ref mn])), (mw, .inl (cJ, 512, .inr (.inl gW))), (mb, .inl (cI, 8, .inl gB))] (fun _ => True) (fun u => some (.int (nI 0))) (fun u => [(m, .inr (9, [.int (nI 2), .int fd0, .int pc0, .int dw0, .int lt0, .ref mt, .ref mw, .ref mb, .ref ml, .ref mq, .ref mz, .ref ms, .ref mr, .int ic0, .ref mi, .int tr0, .int sg0, .int ln0, .int at0, .int rd0, .int dr0, .int ma0, .ref mk, .int en0, .ref mj, .ref mn])), (mw, .inl (cJ, 512, .inr (.inl gW))), (mb, .inl (cI, 8, .inl gB))]) := by
  refine Fn.intro (by decide) (Nat.le_of_ble_eq_true rfl) ?_
  intro X hX hE hin
  subst hX
  show V (gG D cI cJ cT) X _ cX9_weight 5 RX9 _ 0 0 [(0, .ref m), (1, .int t), (2, .int i), (3, .int wt)] 0 []
  refine v_aload_n 0 dX9_weight_0 rfl rfl ?_
  refine v_iconst (v := nI 0) dX9_weight_1 (by decide) ?_
  refine v_put (ws' := [(m, .inr (9, [.int (nI 0), .int fd0, .int pc0, .int dw0, .int lt0, .ref mt, .ref mw, .ref mb, .ref ml, .ref mq, .ref mz, .ref ms, .ref mr, .int ic0, .ref mi, .int tr0, .int sg0, .int ln0, .int at0, .int rd0, .int dr0, .int ma0, .ref mk, .int en0, .ref mj, .ref mn])), (mw, .inl (cJ, 512, .inr (.inl gW))), (mb, .inl (cI, 8, .inl gB))]) fw_SampleDeskModel_47 0 rfl (rfl) (rfl) (Nat.le_of_ble_eq_true rfl) dX9_weight_2 rfl ?_
  refine v_iload_n 1 dX9_weight_5 rfl rfl ?_
  refine v_i2l (v := t.toInt64) dX9_weight_6 (rfl) ?_
  refine v_lconst (v := 0) dX9_weight_7 (by decide) ?_
  refine v_ldc2 (v := 7) k_c_SampleDeskModel_65 dX9_weight_8 ?_
  refine v_callS (as := [.long t.toInt64, .long 0, .long 7]) (rest := []) (ws' := fun u => [(m, .inr (9, [.int (nI 0), .int fd0, .int pc0, .int dw0, .int lt0, .ref mt, .ref mw, .ref mb, .ref ml, .ref mq, .ref mz, .ref ms, .ref mr, .int ic0, .ref mi, .int tr0, .int sg0, .int ln0, .int at0, .int rd0, .int dr0, .int ma0, .ref mk, .int en0, .ref mj, .ref mn])), (mw, .inl (cJ, 512, .inr (.inl gW))), (mb, .inl (cI, 8, .inl gB))]) m_SampleDeskModel_58 (kX9_within X.l (v := t.toInt64) (lo := 0) (hi := 7)) k_code_X9_within [] rfl rfl dX9_weight_11 (Nat.le_of_ble_eq_true rfl) ⟨rfl, rfl, by decide, by decide⟩ ⟨Nat.zero_le _, Nat.zero_le _⟩ rfl rfl (fun _ => rfl) (v_mgU rfl (fun _ => rfl)) ?_
  intro uu c11
  try dsimp only at c11
  show V (gG D cI cJ cT) X (rmD 1) cX9_weight 5 RX9 [(m, .inr (9, [.int (nI 0), .int fd0, .int pc0, .int dw0, .int lt0, .ref mt, .ref mw, .ref mb, .ref ml, .ref mq, .ref mz, .ref ms, .ref mr, .int ic0, .ref mi, .int tr0, .int sg0, .int ln0, .int at0, .int rd0, .int dr0, .int ma0, .ref mk, .int en0, .ref mj, .ref mn])), (mw, .inl (cJ, 512, .inr (.inl gW))), (mb, .inl (cI, 8, .inl gB))] 0 0 [(0, .ref m), (1, .int t), (2, .int i), (3, .int wt)] 14 [.int (dI (wi t.toInt64 0 7))]
  refine v_topi (y := dI true) (congrArg dI ((show wi t.toInt64 0 7 = up t 7 by rw [show (7 : Int64) = (7 : Int32).toInt64 by decide, wi_up]; try rfl).trans (upT1 (n := 7) (by decide) ht))) ?_
  refine v_if_eq (tgt := 29) dX9_weight_14 (by decide) (fun b14 => absurd b14 (by decide)) (fun b14 => ?_)
  refine v_iload_n 2 dX9_weight_17 rfl rfl ?_
  refine v_i2l (v := i.toInt64) dX9_weight_18 (rfl) ?_
  refine v_lconst (v := 0) dX9_weight_19 (by decide) ?_
  refine v_ldc2 (v := 63) k_c_SampleDeskModel_67 dX9_weight_20 ?_
  refine v_callS (as := [.long i.toInt64, .long 0, .long 63]) (rest := []) (ws' := fun u => [(m, .inr (9, [.int (nI 0), .int fd0, .int pc0, .int dw0, .int lt0, .ref mt, .ref mw, .ref mb, .ref ml, .ref mq, .ref mz, .ref ms, .ref mr, .int ic0, .ref mi, .int tr0, .int sg0, .int ln0, .int at0, .int rd0, .int dr0, .int ma0, .ref mk, .int en0, .ref mj, .ref mn])), (mw, .inl (cJ, 512, .inr (.inl gW))), (mb, .inl (cI, 8, .inl gB))]) m_SampleDeskModel_58 (kX9_within X.l (v := i.toInt64) (lo := 0) (hi := 63)) k_code_X9_within [] rfl rfl dX9_weight_23 (Nat.le_of_ble_eq_true rfl) ⟨rfl, rfl, by decide, by decide⟩ ⟨Nat.zero_le _, Nat.zero_le _⟩ rfl rfl (fun _ => rfl) (v_mgU rfl (fun _ => rfl)) ?_
  intro uu c23
  try dsimp only at c23
  show V (gG D cI cJ cT) X (rmD 1) cX9_weight 5 RX9 [(m, .inr (9, [.int (nI 0), .int fd0, .int pc0, .int dw0, .int lt0, .ref mt, .ref mw, .ref mb, .ref ml, .ref mq, .ref mz, .ref ms, .ref mr, .int ic0, .ref mi, .int tr0, .int sg0, .int ln0, .int at0, .int rd0, .int dr0, .int ma0, .ref mk, .int en0, .ref mj, .ref mn])), (mw, .inl (cJ, 512, .inr (.inl gW))), (mb, .inl (cI, 8, .inl gB))] 0 0 [(0, .ref m), (1, .int t), (2, .int i), (3, .int wt)] 26 [.int (dI (wi i.toInt64 0 63))]
  refine v_topi (y := dI true) (congrArg dI ((show wi i.toInt64 0 63 = up i 63 by rw [show (63 : Int64) = (63 : Int32).toInt64 by decide, wi_up]; try rfl).trans (upT1 (n := 63) (by decide) hi))) ?_
  refine v_if_ne (tgt := 35) dX9_weight_26 (by decide) (fun b26 => ?_) (fun b26 => absurd b26 (by decide))
  refine v_iload_n 3 dX9_weight_35 rfl rfl ?_
  refine v_if_ge (tgt := 45) dX9_weight_36 (by decide) (fun b36 => absurd b36 (fun q => absurd q (Int32.not_le.mpr hw))) (fun b36 => ?_)
  refine v_aload_n 0 dX9_weight_39 rfl rfl ?_
  refine v_iconst (v := nI 2) dX9_weight_40 (by decide) ?_
  refine v_callV (as := [.int (nI 2)]) (rest := []) (ws' := fun u => [(m, .inr (9, [.int (nI 2), .int fd0, .int pc0, .int dw0, .int lt0, .ref mt, .ref mw, .ref mb, .ref ml, .ref mq, .ref mz, .ref ms, .ref mr, .int ic0, .ref mi, .int tr0, .int sg0, .int ln0, .int at0, .int rd0, .int dr0, .int ma0, .ref mk, .int en0, .ref mj, .ref mn])), (mw, .inl (cJ, 512, .inr (.inl gW))), (mb, .inl (cI, 8, .inl gB))]) m_SampleDeskModel_54 (kX9_fail X.l (m := m) (mt := mt) (mw := mw) (mb := mb) (ml := ml) (mq := mq) (mz := mz) (ms := ms) (mr := mr) (mi := mi) (mk := mk) (mj := mj) (mn := mn) (th := nI 0) (fd0 := fd0) (pc0 := pc0) (dw0 := dw0) (lt0 := lt0) (ic0 := ic0) (tr0 := tr0) (sg0 := sg0) (ln0 := ln0) (at0 := at0) (rd0 := rd0) (dr0 := dr0) (ma0 := ma0) (en0 := en0) (cd := nI 2)) k_code_X9_fail [0] 0 rfl rfl rfl rfl dX9_weight_41 (Nat.le_of_ble_eq_true rfl) ⟨rfl, rfl, by decide, by decide⟩ ⟨Nat.zero_le _, Nat.zero_le _⟩ rfl rfl (fun _ => rfl) (v_mgU rfl (fun _ => rfl)) ?_
  intro uu c41
  try dsimp only at c41
  show V (gG D cI cJ cT) X (rmD 1) cX9_weight 5 RX9 [(m, .inr (9, [.int (nI 2), .int fd0, .int pc0, .int dw0, .int lt0, .ref mt, .ref mw, .ref mb, .ref ml, .ref mq, .ref mz, .ref ms, .ref mr, .int ic0, .ref mi, .int tr0, .int sg0, .int ln0, .int at0, .int rd0, .int dr0, .int ma0, .ref mk, .int en0, .ref mj, .ref mn])), (mw, .inl (cJ, 512, .inr (.inl gW))), (mb, .inl (cI, 8, .inl gB))] 0 0 [(0, .ref m), (1, .int t), (2, .int i), (3, .int wt)] 44 [.int (nI 0)]
  exact v_iret hE dX9_weight_44 () (trivial) rfl rfl
set_option maxRecDepth 100000 in
set_option maxHeartbeats 1000000 in
theorem kX9_weight_0 {D : va_G} {cI cJ cT : ClassId} (l : Launch) {m mt mw mb ml mq mz ms mr mi mk mj mn : Nat} {th fd0 pc0 dw0 lt0 ic0 tr0 sg0 ln0 at0 rd0 dr0 ma0 en0 : Int32} {y i : Nat} {wt : Int32} {gW : Nat → Int64} {gB : Nat → Int32} (hy : y < 8) (hi : i < 64) (hw : ¬ wt < 0) : Fn (S := Unit) (gG D cI cJ cT) l yX9_weight (.code yX9_weight cX9_weight 5 (some .int)) (rmD 1) [.ref m, .int (nI y), .int (nI i), .int wt] [(m, .inr (9, [.int th, .int fd0, .int pc0, .int dw0, .int lt0, .ref mt, .ref mw, .ref mb, .ref ml, .ref mq, .ref mz, .ref ms, .ref mr, .int ic0, .ref mi, .int tr0, .int sg0, .int ln0, .int at0, .int rd0, .int dr0, .int ma0, .ref mk, .int en0, .ref mj, .ref mn])), (mw, .inl (cJ, 512, .inr (.inl gW))), (mb, .inl (cI, 8, .inl gB))] (fun _ => True) (fun u => some (.int (gW (64 * y + i)).toInt32)) (fun u => [(m, .inr (9, [.int (nI 0), .int fd0, .int pc0, .int dw0, .int lt0, .ref mt, .ref mw, .ref mb, .ref ml, .ref mq, .ref mz, .ref ms, .ref mr, .int ic0, .ref mi, .int tr0, .int sg0, .int ln0, .int at0, .int rd0, .int dr0, .int ma0, .ref mk, .int en0, .ref mj, .ref mn])), (mw, .inl (cJ, 512, .inr (.inl (vp_updL gW (64 * y + i) wt.toInt64)))), (mb, .inl (cI, 8, .inl (upd gB y (nI 0))))]) := by
  refine Fn.intro (by decide) (Nat.le_of_ble_eq_true rfl) ?_
  intro X hX hE hin
  subst hX
  show V (gG D cI cJ cT) X _ cX9_weight 5 RX9 _ 0 0 [(0, .ref m), (1, .int (nI y)), (2, .int (nI i)), (3, .int wt)] 0 []
  refine v_aload_n 0 dX9_weight_0 rfl rfl ?_
  refine v_iconst (v := nI 0) dX9_weight_1 (by decide) ?_
  refine v_put (ws' := [(m, .inr (9, [.int (nI 0), .int fd0, .int pc0, .int dw0, .int lt0, .ref mt, .ref mw, .ref mb, .ref ml, .ref mq, .ref mz, .ref ms, .ref mr, .int ic0, .ref mi, .int tr0, .int sg0, .int ln0, .int at0, .int rd0, .int dr0, .int ma0, .ref mk, .int en0, .ref mj, .ref mn])), (mw, .inl (cJ, 512, .inr (.inl gW))), (mb, .inl (cI, 8, .inl gB))]) fw_SampleDeskModel_47 0 rfl (rfl) (rfl) (Nat.le_of_ble_eq_true rfl) dX9_weight_2 rfl ?_
  refine v_iload_n 1 dX9_weight_5 rfl rfl ?_
  refine v_i2l (v := (nI y).toInt64) dX9_weight_6 (rfl) ?_
  refine v_lconst (v := 0) dX9_weight_7 (by decide) ?_
  refine v_ldc2 (v := 7) k_c_SampleDeskModel_65 dX9_weight_8 ?_
  refine v_callS (as := [.long ((nI y).toInt64), .long 0, .long 7]) (rest := []) (ws' := fun u => [(m, .inr (9, [.int (nI 0), .int fd0, .int pc0, .int dw0, .int lt0, .ref mt, .ref mw, .ref mb, .ref ml, .ref mq, .ref mz, .ref ms, .ref mr, .int ic0, .ref mi, .int tr0, .int sg0, .int ln0, .int at0, .int rd0, .int dr0, .int ma0, .ref mk, .int en0, .ref mj, .ref mn])), (mw, .inl (cJ, 512, .inr (.inl gW))), (mb, .inl (cI, 8, .inl gB))]) m_SampleDeskModel_58 (kX9_within X.l (v := (nI y).toInt64) (lo := 0) (hi := 7)) k_code_X9_within [] rfl rfl dX9_weight_11 (Nat.le_of_ble_eq_true rfl) ⟨rfl, rfl, by decide, by decide⟩ ⟨Nat.zero_le _, Nat.zero_le _⟩ rfl rfl (fun _ => rfl) (v_mgU rfl (fun _ => rfl)) ?_
  intro uu c11
  try dsimp only at c11
  show V (gG D cI cJ cT) X (rmD 1) cX9_weight 5 RX9 [(m, .inr (9, [.int (nI 0), .int fd0, .int pc0, .int dw0, .int lt0, .ref mt, .ref mw, .ref mb, .ref ml, .ref mq, .ref mz, .ref ms, .ref mr, .int ic0, .ref mi, .int tr0, .int sg0, .int ln0, .int at0, .int rd0, .int dr0, .int ma0, .ref mk, .int en0, .ref mj, .ref mn])), (mw, .inl (cJ, 512, .inr (.inl gW))), (mb, .inl (cI, 8, .inl gB))] 0 0 [(0, .ref m), (1, .int (nI y)), (2, .int (nI i)), (3, .int wt)] 14 [.int (dI (wi ((nI y).toInt64) 0 7))]
  refine v_topi (y := dI true) (congrArg dI ((show wi ((nI y).toInt64) 0 7 = up (nI y) 7 by rw [show (7 : Int64) = (7 : Int32).toInt64 by decide, wi_up]; try rfl).trans (upT1 (n := 7) (by decide) ⟨y, hy, rfl⟩))) ?_
  refine v_if_eq (tgt := 29) dX9_weight_14 (by decide) (fun b14 => absurd b14 (by decide)) (fun b14 => ?_)
  refine v_iload_n 2 dX9_weight_17 rfl rfl ?_
  refine v_i2l (v := (nI i).toInt64) dX9_weight_18 (rfl) ?_
  refine v_lconst (v := 0) dX9_weight_19 (by decide) ?_
  refine v_ldc2 (v := 63) k_c_SampleDeskModel_67 dX9_weight_20 ?_
  refine v_callS (as := [.long ((nI i).toInt64), .long 0, .long 63]) (rest := []) (ws' := fun u => [(m, .inr (9, [.int (nI 0), .int fd0, .int pc0, .int dw0, .int lt0, .ref mt, .ref mw, .ref mb, .ref ml, .ref mq, .ref mz, .ref ms, .ref mr, .int ic0, .ref mi, .int tr0, .int sg0, .int ln0, .int at0, .int rd0, .int dr0, .int ma0, .ref mk, .int en0, .ref mj, .ref mn])), (mw, .inl (cJ, 512, .inr (.inl gW))), (mb, .inl (cI, 8, .inl gB))]) m_SampleDeskModel_58 (kX9_within X.l (v := (nI i).toInt64) (lo := 0) (hi := 63)) k_code_X9_within [] rfl rfl dX9_weight_23 (Nat.le_of_ble_eq_true rfl) ⟨rfl, rfl, by decide, by decide⟩ ⟨Nat.zero_le _, Nat.zero_le _⟩ rfl rfl (fun _ => rfl) (v_mgU rfl (fun _ => rfl)) ?_
  intro uu c23
  try dsimp only at c23
  show V (gG D cI cJ cT) X (rmD 1) cX9_weight 5 RX9 [(m, .inr (9, [.int (nI 0), .int fd0, .int pc0, .int dw0, .int lt0, .ref mt, .ref mw, .ref mb, .ref ml, .ref mq, .ref mz, .ref ms, .ref mr, .int ic0, .ref mi, .int tr0, .int sg0, .int ln0, .int at0, .int rd0, .int dr0, .int ma0, .ref mk, .int en0, .ref mj, .ref mn])), (mw, .inl (cJ, 512, .inr (.inl gW))), (mb, .inl (cI, 8, .inl gB))] 0 0 [(0, .ref m), (1, .int (nI y)), (2, .int (nI i)), (3, .int wt)] 26 [.int (dI (wi ((nI i).toInt64) 0 63))]
  refine v_topi (y := dI true) (congrArg dI ((show wi ((nI i).toInt64) 0 63 = up (nI i) 63 by rw [show (63 : Int64) = (63 : Int32).toInt64 by decide, wi_up]; try rfl).trans (upT1 (n := 63) (by decide) ⟨i, hi, rfl⟩))) ?_
  refine v_if_ne (tgt := 35) dX9_weight_26 (by decide) (fun b26 => ?_) (fun b26 => absurd b26 (by decide))
  refine v_iload_n 3 dX9_weight_35 rfl rfl ?_
  refine v_if_ge (tgt := 45) dX9_weight_36 (by decide) (fun b36 => ?_) (fun b36 => absurd (Int32.not_lt.mp hw) b36)
  refine v_aload_n 0 dX9_weight_45 rfl rfl ?_
  refine v_get f_SampleDeskModel_13 0 rfl rfl dX9_weight_46 ?_
  refine v_bipush (v := nI 64) dX9_weight_49 (by decide) ?_
  refine v_iload_n 1 dX9_weight_51 rfl rfl ?_
  refine v_imul dX9_weight_52 ?_
  refine v_topi (y := nI (64 * y)) (pk_mul _ _) ?_
  refine v_iload_n 2 dX9_weight_53 rfl rfl ?_
  refine v_iadd dX9_weight_54 ?_
  refine v_topi (y := nI (64 * y + i)) (nI_add _ _) ?_
  refine v_lald 1 1 rfl rfl (by omega) (by omega) dX9_weight_55 ?_
  refine v_l2i (v := (gW ((64 * y + i))).toInt32) dX9_weight_56 (rfl) ?_
  refine v_istore (lv' := [(4, .int ((gW ((64 * y + i))).toInt32)), (0, .ref m), (1, .int (nI y)), (2, .int (nI i)), (3, .int wt)]) dX9_weight_57 (by decide) rfl ?_
  refine v_aload_n 1 dX9_weight_59 rfl rfl ?_
  refine v_get f_SampleDeskModel_13 0 rfl rfl dX9_weight_60 ?_
  refine v_bipush (v := nI 64) dX9_weight_63 (by decide) ?_
  refine v_iload_n 2 dX9_weight_65 rfl rfl ?_
  refine v_imul dX9_weight_66 ?_
  refine v_topi (y := nI (64 * y)) (pk_mul _ _) ?_
  refine v_iload_n 3 dX9_weight_67 rfl rfl ?_
  refine v_iadd dX9_weight_68 ?_
  refine v_topi (y := nI (64 * y + i)) (nI_add _ _) ?_
  refine v_iload_n 4 dX9_weight_69 rfl rfl ?_
  refine v_i2l (v := wt.toInt64) dX9_weight_70 (rfl) ?_
  refine v_last (ws' := [(m, .inr (9, [.int (nI 0), .int fd0, .int pc0, .int dw0, .int lt0, .ref mt, .ref mw, .ref mb, .ref ml, .ref mq, .ref mz, .ref ms, .ref mr, .int ic0, .ref mi, .int tr0, .int sg0, .int ln0, .int at0, .int rd0, .int dr0, .int ma0, .ref mk, .int en0, .ref mj, .ref mn])), (mw, .inl (cJ, 512, .inr (.inl (vp_updL gW ((64 * y + i)) wt.toInt64)))), (mb, .inl (cI, 8, .inl gB))]) 1 1 rfl rfl (by omega) (by omega) dX9_weight_71 rfl ?_
  refine v_aload_n 1 dX9_weight_72 rfl rfl ?_
  refine v_get f_SampleDeskModel_17 0 rfl rfl dX9_weight_73 ?_
  refine v_iload_n 2 dX9_weight_76 rfl rfl ?_
  refine v_iconst (v := nI 0) dX9_weight_77 (by decide) ?_
  refine v_iast (ws' := [(m, .inr (9, [.int (nI 0), .int fd0, .int pc0, .int dw0, .int lt0, .ref mt, .ref mw, .ref mb, .ref ml, .ref mq, .ref mz, .ref ms, .ref mr, .int ic0, .ref mi, .int tr0, .int sg0, .int ln0, .int at0, .int rd0, .int dr0, .int ma0, .ref mk, .int en0, .ref mj, .ref mn])), (mw, .inl (cJ, 512, .inr (.inl (vp_updL gW ((64 * y + i)) wt.toInt64)))), (mb, .inl (cI, 8, .inl (upd gB y (nI 0))))]) 0 2 rfl rfl (by omega) (by omega) dX9_weight_78 rfl ?_
  refine v_iload 0 dX9_weight_79 rfl ?_
  exact v_iret hE dX9_weight_81 () (trivial) rfl rfl
