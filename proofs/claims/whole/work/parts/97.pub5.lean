/-! THE REFERENCE: note, draw, replay -/
theorem kX9_sumAny {D : va_G} {cI cJ cT : ClassId} (l : Launch) {m mt mw mb ml mq mz ms mr mi mk mj mn : Nat} {th fd0 pc0 dw0 lt0 ic0 tr0 sg0 ln0 at0 rd0 dr0 ma0 en0 : Int32} {n1 : Nat} {kd : Int32} {gK : Nat → Int32} {F : Nat → Nat} (hs0 : kd ≤ nI 8 → n1 = 0) (hs1 : ¬ kd ≤ nI 8 → ma0 = nI n1 ∧ n1 ≤ 256 ∧ (∀ x, x < n1 → gK x = nI (F x)) ∧ ∀ x, x < n1 → F x < 65536) : Fn (S := Unit) (gG D cI cJ cT) l yX9_sumOfItems (.code yX9_sumOfItems cX9_sumOfItems 5 (some .int)) (rmD 0) [.ref m, .int kd] [(m, .inr (9, [.int th, .int fd0, .int pc0, .int dw0, .int lt0, .ref mt, .ref mw, .ref mb, .ref ml, .ref mq, .ref mz, .ref ms, .ref mr, .int ic0, .ref mi, .int tr0, .int sg0, .int ln0, .int at0, .int rd0, .int dr0, .int ma0, .ref mk, .int en0, .ref mj, .ref mn])), (mk, .inl (cI, 256, .inl gK))] (fun _ => True) (fun u => some (.int (nI (csN F n1 % 1000003)))) (fun u => [(m, .inr (9, [.int th, .int fd0, .int pc0, .int dw0, .int lt0, .ref mt, .ref mw, .ref mb, .ref ml, .ref mq, .ref mz, .ref ms, .ref mr, .int ic0, .ref mi, .int tr0, .int sg0, .int ln0, .int at0, .int rd0, .int dr0, .int ma0, .ref mk, .int en0, .ref mj, .ref mn])), (mk, .inl (cI, 256, .inl gK))]) := by
  by_cases h : kd ≤ nI 8
  · rw [hs0 h]
    exact kX9_sumOfItems_0 l h
  · obtain ⟨rfl, h2, h3, h4⟩ := hs1 h
    exact kX9_sumOfItems (ma0 := nI n1) l h2 h3 h4 h
set_option maxRecDepth 100000 in
set_option maxHeartbeats 1000000 in
theorem kX9_note_l1 {D : va_G} {cI cJ cT : ClassId} {X : vX} {m mt mw mb ml mq mz ms mr mi mk mj mn : Nat} {th fd0 pc0 dw0 lt0 ic0 tr0 sg0 ln0 at0 rd0 dr0 ma0 en0 : Int32} {pl bi n1 en : Nat} {kd a b1 c : Int32} {an : Int64} {gK gJ : Nat → Int32} {gN : Nat → Int64} {F : Nat → Nat} (hq : ∀ gJ1 : Nat → Int32, (∀ x, x < 693 → gJ1 x = gJ (x + 7)) → V (gG D cI cJ cT) X (rmD 1) cX9_note 8 RX9 [(m, .inr (9, [.int th, .int fd0, .int (nI pl), .int dw0, .int lt0, .ref mt, .ref mw, .ref mb, .ref ml, .ref mq, .ref mz, .ref ms, .ref mr, .int ic0, .ref mi, .int tr0, .int sg0, .int ln0, .int at0, .int (nI bi), .int dr0, .int ma0, .ref mk, .int (nI 100), .ref mj, .ref mn])), (mk, .inl (cI, 256, .inl gK)), (mj, .inl (cI, 700, .inl gJ1)), (mn, .inl (cJ, 100, .inr (.inl gN)))] 0 0 [(0, .ref m), (1, .int kd), (2, .int a), (3, .int b1), (4, .int c), (5, .long an)] 43 [])  :
    ∀ (k : Nat) (i : Nat) (g1 : Nat → Int32), 693 - i < k → i ≤ 693 → (∀ x, x < i → g1 x = gJ (x + 7)) → (∀ x, i ≤ x → g1 x = gJ x) → V (gG D cI cJ cT) X (rmD 1) cX9_note 8 RX9 [(m, .inr (9, [.int th, .int fd0, .int (nI pl), .int dw0, .int lt0, .ref mt, .ref mw, .ref mb, .ref ml, .ref mq, .ref mz, .ref ms, .ref mr, .int ic0, .ref mi, .int tr0, .int sg0, .int ln0, .int at0, .int (nI bi), .int dr0, .int ma0, .ref mk, .int (nI 100), .ref mj, .ref mn])), (mk, .inl (cI, 256, .inl gK)), (mj, .inl (cI, 700, .inl g1)), (mn, .inl (cJ, 100, .inr (.inl gN)))] 0 0 [(0, .ref m), (1, .int kd), (2, .int a), (3, .int b1), (4, .int c), (5, .long an), (7, .int (nI i))] 12 [] := by
  intro k
  induction k with
  | zero => intro i g1 hk hi h1 h2; omega
  | succ k ih =>
    intro i g1 hk hi h1 h2
    refine v_iload 6 dX9_note_12 rfl ?_
    refine v_sipush (v := nI 693) dX9_note_14 (by decide) ?_
    refine v_icmp_ge (tgt := 43) dX9_note_17 (by decide) (fun b17 => ?_) (fun b17 => ?_)
    · have b17 : 693 ≤ i := (nI_leI (by decide) (by omega)).mp b17
      have hie : i = 693 := by omega
      subst hie
      refine v_lv [0, 1, 2, 3, 4, 5] rfl ?_
      exact hq g1 h1
    · have b17 : ¬ (693 ≤ i) := fun q => b17 ((nI_leI (by decide) (by omega)).mpr q)
      refine v_aload_n 0 dX9_note_20 rfl rfl ?_
      refine v_get f_SampleDeskModel_41 0 rfl rfl dX9_note_21 ?_
      refine v_iload 6 dX9_note_24 rfl ?_
      refine v_aload_n 0 dX9_note_26 rfl rfl ?_
      refine v_get f_SampleDeskModel_41 0 rfl rfl dX9_note_27 ?_
      refine v_iload 6 dX9_note_30 rfl ?_
      refine v_bipush (v := nI 7) dX9_note_32 (by decide) ?_
      refine v_iadd dX9_note_34 ?_
      refine v_topi (y := nI (i + 7)) (nI_add _ _) ?_
      refine v_iald 0 2 rfl rfl (by omega) (by omega) dX9_note_35 ?_
      refine v_iast (ws' := [(m, .inr (9, [.int th, .int fd0, .int (nI pl), .int dw0, .int lt0, .ref mt, .ref mw, .ref mb, .ref ml, .ref mq, .ref mz, .ref ms, .ref mr, .int ic0, .ref mi, .int tr0, .int sg0, .int ln0, .int at0, .int (nI bi), .int dr0, .int ma0, .ref mk, .int (nI 100), .ref mj, .ref mn])), (mk, .inl (cI, 256, .inl gK)), (mj, .inl (cI, 700, .inl (upd g1 i (g1 ((i + 7)))))), (mn, .inl (cJ, 100, .inr (.inl gN)))]) 0 2 rfl rfl (by omega) (by omega) dX9_note_36 rfl ?_
      refine v_iinc (lv' := [(7, .int (nI (i + 1))), (0, .ref m), (1, .int kd), (2, .int a), (3, .int b1), (4, .int c), (5, .long an)]) (v := nI (i + 1)) 6 dX9_note_37 rfl (nI_1 i) (by decide) rfl ?_
      refine v_goto (tgt := 12) dX9_note_40 (by decide) ?_
      refine v_lv [1, 2, 3, 4, 5, 6, 0] rfl ?_
      exact ih (i + 1) _ (by omega) (by omega) (shift_step h1 h2).1 (shift_step h1 h2).2
set_option maxRecDepth 100000 in
set_option maxHeartbeats 1000000 in
theorem kX9_note_l2 {D : va_G} {cI cJ cT : ClassId} {X : vX} {m mt mw mb ml mq mz ms mr mi mk mj mn : Nat} {th fd0 pc0 dw0 lt0 ic0 tr0 sg0 ln0 at0 rd0 dr0 ma0 en0 : Int32} {pl bi n1 en : Nat} {kd a b1 c : Int32} {an : Int64} {gK gJ : Nat → Int32} {gN : Nat → Int64} {F : Nat → Nat} (hq : ∀ gN1 : Nat → Int64, (∀ x, x < 99 → gN1 x = gN (x + 1)) → V (gG D cI cJ cT) X (rmD 1) cX9_note 8 RX9 [(m, .inr (9, [.int th, .int fd0, .int (nI pl), .int dw0, .int lt0, .ref mt, .ref mw, .ref mb, .ref ml, .ref mq, .ref mz, .ref ms, .ref mr, .int ic0, .ref mi, .int tr0, .int sg0, .int ln0, .int at0, .int (nI bi), .int dr0, .int ma0, .ref mk, .int (nI 100), .ref mj, .ref mn])), (mk, .inl (cI, 256, .inl gK)), (mj, .inl (cI, 700, .inl gJ)), (mn, .inl (cJ, 100, .inr (.inl gN1)))] 0 0 [(0, .ref m), (1, .int kd), (2, .int a), (3, .int b1), (4, .int c), (5, .long an)] 75 [])  :
    ∀ (k : Nat) (i : Nat) (g1 : Nat → Int64), 99 - i < k → i ≤ 99 → (∀ x, x < i → g1 x = gN (x + 1)) → (∀ x, i ≤ x → g1 x = gN x) → V (gG D cI cJ cT) X (rmD 1) cX9_note 8 RX9 [(m, .inr (9, [.int th, .int fd0, .int (nI pl), .int dw0, .int lt0, .ref mt, .ref mw, .ref mb, .ref ml, .ref mq, .ref mz, .ref ms, .ref mr, .int ic0, .ref mi, .int tr0, .int sg0, .int ln0, .int at0, .int (nI bi), .int dr0, .int ma0, .ref mk, .int (nI 100), .ref mj, .ref mn])), (mk, .inl (cI, 256, .inl gK)), (mj, .inl (cI, 700, .inl gJ)), (mn, .inl (cJ, 100, .inr (.inl g1)))] 0 0 [(0, .ref m), (1, .int kd), (2, .int a), (3, .int b1), (4, .int c), (5, .long an), (7, .int (nI i))] 46 [] := by
  intro k
  induction k with
  | zero => intro i g1 hk hi h1 h2; omega
  | succ k ih =>
    intro i g1 hk hi h1 h2
    refine v_iload 6 dX9_note_46 rfl ?_
    refine v_bipush (v := nI 99) dX9_note_48 (by decide) ?_
    refine v_icmp_ge (tgt := 75) dX9_note_50 (by decide) (fun b50 => ?_) (fun b50 => ?_)
    · have b50 : 99 ≤ i := (nI_leI (by decide) (by omega)).mp b50
      have hie : i = 99 := by omega
      subst hie
      refine v_lv [0, 1, 2, 3, 4, 5] rfl ?_
      exact hq g1 h1
    · have b50 : ¬ (99 ≤ i) := fun q => b50 ((nI_leI (by decide) (by omega)).mpr q)
      refine v_aload_n 0 dX9_note_53 rfl rfl ?_
      refine v_get f_SampleDeskModel_44 0 rfl rfl dX9_note_54 ?_
      refine v_iload 6 dX9_note_57 rfl ?_
      refine v_aload_n 0 dX9_note_59 rfl rfl ?_
      refine v_get f_SampleDeskModel_44 0 rfl rfl dX9_note_60 ?_
      refine v_iload 6 dX9_note_63 rfl ?_
      refine v_iconst (v := nI 1) dX9_note_65 (by decide) ?_
      refine v_iadd dX9_note_66 ?_
      refine v_topi (y := nI (i + 1)) (nI_add _ _) ?_
      refine v_lald 1 3 rfl rfl (by omega) (by omega) dX9_note_67 ?_
      refine v_last (ws' := [(m, .inr (9, [.int th, .int fd0, .int (nI pl), .int dw0, .int lt0, .ref mt, .ref mw, .ref mb, .ref ml, .ref mq, .ref mz, .ref ms, .ref mr, .int ic0, .ref mi, .int tr0, .int sg0, .int ln0, .int at0, .int (nI bi), .int dr0, .int ma0, .ref mk, .int (nI 100), .ref mj, .ref mn])), (mk, .inl (cI, 256, .inl gK)), (mj, .inl (cI, 700, .inl gJ)), (mn, .inl (cJ, 100, .inr (.inl (vp_updL g1 i (g1 ((i + 1)))))))]) 1 3 rfl rfl (by omega) (by omega) dX9_note_68 rfl ?_
      refine v_iinc (lv' := [(7, .int (nI (i + 1))), (0, .ref m), (1, .int kd), (2, .int a), (3, .int b1), (4, .int c), (5, .long an)]) (v := nI (i + 1)) 6 dX9_note_69 rfl (nI_1 i) (by decide) rfl ?_
      refine v_goto (tgt := 46) dX9_note_72 (by decide) ?_
      refine v_lv [1, 2, 3, 4, 5, 6, 0] rfl ?_
      exact ih (i + 1) _ (by omega) (by omega) (shift_stepL h1 h2).1 (shift_stepL h1 h2).2
set_option maxRecDepth 100000 in
set_option maxHeartbeats 1000000 in
theorem kX9_note {D : va_G} {cI cJ cT : ClassId} (l : Launch) {m mt mw mb ml mq mz ms mr mi mk mj mn : Nat} {th fd0 pc0 dw0 lt0 ic0 tr0 sg0 ln0 at0 rd0 dr0 ma0 en0 : Int32} {pl bi n1 en : Nat} {kd a b1 c : Int32} {an : Int64} {gK gJ : Nat → Int32} {gN : Nat → Int64} {F : Nat → Nat} {J : Nat → JE} (hJ : JMod gJ gN en J) (hen : en ≤ 100) (hs0 : kd ≤ nI 8 → n1 = 0) (hs1 : ¬ kd ≤ nI 8 → ma0 = nI n1 ∧ n1 ≤ 256 ∧ (∀ x, x < n1 → gK x = nI (F x)) ∧ ∀ x, x < n1 → F x < 65536) : Fn (S := (Nat → Int32) × (Nat → Int64)) (gG D cI cJ cT) l yX9_note (.code yX9_note cX9_note 8 none) (rmD 1) [.ref m, .int kd, .int a, .int b1, .int c, .long an] [(m, .inr (9, [.int th, .int fd0, .int (nI pl), .int dw0, .int lt0, .ref mt, .ref mw, .ref mb, .ref ml, .ref mq, .ref mz, .ref ms, .ref mr, .int ic0, .ref mi, .int tr0, .int sg0, .int ln0, .int at0, .int (nI bi), .int dr0, .int ma0, .ref mk, .int (nI en), .ref mj, .ref mn])), (mk, .inl (cI, 256, .inl gK)), (mj, .inl (cI, 700, .inl gJ)), (mn, .inl (cJ, 100, .inr (.inl gN)))] (fun u => JMod u.1 u.2 (min (en + 1) 100) (jPush en J (kd, a, b1, c, pl, bi, an, csN F n1 % 1000003))) (fun u => none) (fun u => [(m, .inr (9, [.int th, .int fd0, .int (nI pl), .int dw0, .int lt0, .ref mt, .ref mw, .ref mb, .ref ml, .ref mq, .ref mz, .ref ms, .ref mr, .int ic0, .ref mi, .int tr0, .int sg0, .int ln0, .int at0, .int (nI bi), .int dr0, .int ma0, .ref mk, .int (nI (min (en + 1) 100)), .ref mj, .ref mn])), (mk, .inl (cI, 256, .inl gK)), (mj, .inl (cI, 700, .inl u.1)), (mn, .inl (cJ, 100, .inr (.inl u.2)))]) := by
  refine Fn.intro (by decide) (Nat.le_of_ble_eq_true rfl) ?_
  intro X hX hE hin
  subst hX
  show V (gG D cI cJ cT) X _ cX9_note 8 RX9 _ 0 0 [(0, .ref m), (1, .int kd), (2, .int a), (3, .int b1), (4, .int c), (5, .long an)] 0 []
  refine v_aload_n 0 dX9_note_0 rfl rfl ?_
  refine v_get f_SampleDeskModel_191 0 rfl rfl dX9_note_1 ?_
  refine v_bipush (v := nI 100) dX9_note_4 (by decide) ?_
  refine v_icmp_ne (tgt := 85) dX9_note_6 (by decide) (fun b6 => ?_) (fun b6 => ?_)
  · have b6 : ¬ (en = 100) := fun q => b6 ((nI_eq (by omega) (by decide)).mpr q)
    refine v_aload_n 0 dX9_note_85 rfl rfl ?_
    refine v_get f_SampleDeskModel_41 0 rfl rfl dX9_note_86 ?_
    refine v_bipush (v := nI 7) dX9_note_89 (by decide) ?_
    refine v_aload_n 0 dX9_note_91 rfl rfl ?_
    refine v_get f_SampleDeskModel_191 0 rfl rfl dX9_note_92 ?_
    refine v_imul dX9_note_95 ?_
    refine v_topi (y := nI (7 * en)) (pk_mul _ _) ?_
    refine v_iload_n 1 dX9_note_96 rfl rfl ?_
    refine v_iast (ws' := [(m, .inr (9, [.int th, .int fd0, .int (nI pl), .int dw0, .int lt0, .ref mt, .ref mw, .ref mb, .ref ml, .ref mq, .ref mz, .ref ms, .ref mr, .int ic0, .ref mi, .int tr0, .int sg0, .int ln0, .int at0, .int (nI bi), .int dr0, .int ma0, .ref mk, .int (nI en), .ref mj, .ref mn])), (mk, .inl (cI, 256, .inl gK)), (mj, .inl (cI, 700, .inl (upd gJ ((7 * en)) kd))), (mn, .inl (cJ, 100, .inr (.inl gN)))]) 0 2 rfl rfl (by omega) (by omega) dX9_note_97 rfl ?_
    refine v_aload_n 0 dX9_note_98 rfl rfl ?_
    refine v_get f_SampleDeskModel_41 0 rfl rfl dX9_note_99 ?_
    refine v_bipush (v := nI 7) dX9_note_102 (by decide) ?_
    refine v_aload_n 0 dX9_note_104 rfl rfl ?_
    refine v_get f_SampleDeskModel_191 0 rfl rfl dX9_note_105 ?_
    refine v_imul dX9_note_108 ?_
    refine v_topi (y := nI (7 * en)) (pk_mul _ _) ?_
    refine v_iconst (v := nI 1) dX9_note_109 (by decide) ?_
    refine v_iadd dX9_note_110 ?_
    refine v_topi (y := nI (7 * en + 1)) (nI_add _ _) ?_
    refine v_iload_n 2 dX9_note_111 rfl rfl ?_
    refine v_iast (ws' := [(m, .inr (9, [.int th, .int fd0, .int (nI pl), .int dw0, .int lt0, .ref mt, .ref mw, .ref mb, .ref ml, .ref mq, .ref mz, .ref ms, .ref mr, .int ic0, .ref mi, .int tr0, .int sg0, .int ln0, .int at0, .int (nI bi), .int dr0, .int ma0, .ref mk, .int (nI en), .ref mj, .ref mn])), (mk, .inl (cI, 256, .inl gK)), (mj, .inl (cI, 700, .inl (upd (upd gJ ((7 * en)) kd) ((7 * en + 1)) a))), (mn, .inl (cJ, 100, .inr (.inl gN)))]) 0 2 rfl rfl (by omega) (by omega) dX9_note_112 rfl ?_
    refine v_aload_n 0 dX9_note_113 rfl rfl ?_
    refine v_get f_SampleDeskModel_41 0 rfl rfl dX9_note_114 ?_
    refine v_bipush (v := nI 7) dX9_note_117 (by decide) ?_
    refine v_aload_n 0 dX9_note_119 rfl rfl ?_
    refine v_get f_SampleDeskModel_191 0 rfl rfl dX9_note_120 ?_
    refine v_imul dX9_note_123 ?_
    refine v_topi (y := nI (7 * en)) (pk_mul _ _) ?_
    refine v_iconst (v := nI 2) dX9_note_124 (by decide) ?_
    refine v_iadd dX9_note_125 ?_
    refine v_topi (y := nI (7 * en + 2)) (nI_add _ _) ?_
    refine v_iload_n 3 dX9_note_126 rfl rfl ?_
    refine v_iast (ws' := [(m, .inr (9, [.int th, .int fd0, .int (nI pl), .int dw0, .int lt0, .ref mt, .ref mw, .ref mb, .ref ml, .ref mq, .ref mz, .ref ms, .ref mr, .int ic0, .ref mi, .int tr0, .int sg0, .int ln0, .int at0, .int (nI bi), .int dr0, .int ma0, .ref mk, .int (nI en), .ref mj, .ref mn])), (mk, .inl (cI, 256, .inl gK)), (mj, .inl (cI, 700, .inl (upd (upd (upd gJ ((7 * en)) kd) ((7 * en + 1)) a) ((7 * en + 2)) b1))), (mn, .inl (cJ, 100, .inr (.inl gN)))]) 0 2 rfl rfl (by omega) (by omega) dX9_note_127 rfl ?_
    refine v_aload_n 0 dX9_note_128 rfl rfl ?_
    refine v_get f_SampleDeskModel_41 0 rfl rfl dX9_note_129 ?_
    refine v_bipush (v := nI 7) dX9_note_132 (by decide) ?_
    refine v_aload_n 0 dX9_note_134 rfl rfl ?_
    refine v_get f_SampleDeskModel_191 0 rfl rfl dX9_note_135 ?_
    refine v_imul dX9_note_138 ?_
    refine v_topi (y := nI (7 * en)) (pk_mul _ _) ?_
    refine v_iconst (v := nI 3) dX9_note_139 (by decide) ?_
    refine v_iadd dX9_note_140 ?_
    refine v_topi (y := nI (7 * en + 3)) (nI_add _ _) ?_
    refine v_iload 4 dX9_note_141 rfl ?_
    refine v_iast (ws' := [(m, .inr (9, [.int th, .int fd0, .int (nI pl), .int dw0, .int lt0, .ref mt, .ref mw, .ref mb, .ref ml, .ref mq, .ref mz, .ref ms, .ref mr, .int ic0, .ref mi, .int tr0, .int sg0, .int ln0, .int at0, .int (nI bi), .int dr0, .int ma0, .ref mk, .int (nI en), .ref mj, .ref mn])), (mk, .inl (cI, 256, .inl gK)), (mj, .inl (cI, 700, .inl (upd (upd (upd (upd gJ ((7 * en)) kd) ((7 * en + 1)) a) ((7 * en + 2)) b1) ((7 * en + 3)) c))), (mn, .inl (cJ, 100, .inr (.inl gN)))]) 0 2 rfl rfl (by omega) (by omega) dX9_note_143 rfl ?_
    refine v_aload_n 0 dX9_note_144 rfl rfl ?_
    refine v_get f_SampleDeskModel_41 0 rfl rfl dX9_note_145 ?_
    refine v_bipush (v := nI 7) dX9_note_148 (by decide) ?_
    refine v_aload_n 0 dX9_note_150 rfl rfl ?_
    refine v_get f_SampleDeskModel_191 0 rfl rfl dX9_note_151 ?_
    refine v_imul dX9_note_154 ?_
    refine v_topi (y := nI (7 * en)) (pk_mul _ _) ?_
    refine v_iconst (v := nI 4) dX9_note_155 (by decide) ?_
    refine v_iadd dX9_note_156 ?_
    refine v_topi (y := nI (7 * en + 4)) (nI_add _ _) ?_
    refine v_aload_n 0 dX9_note_157 rfl rfl ?_
    refine v_get f_SampleDeskModel_62 0 rfl rfl dX9_note_158 ?_
    refine v_iast (ws' := [(m, .inr (9, [.int th, .int fd0, .int (nI pl), .int dw0, .int lt0, .ref mt, .ref mw, .ref mb, .ref ml, .ref mq, .ref mz, .ref ms, .ref mr, .int ic0, .ref mi, .int tr0, .int sg0, .int ln0, .int at0, .int (nI bi), .int dr0, .int ma0, .ref mk, .int (nI en), .ref mj, .ref mn])), (mk, .inl (cI, 256, .inl gK)), (mj, .inl (cI, 700, .inl (upd (upd (upd (upd (upd gJ ((7 * en)) kd) ((7 * en + 1)) a) ((7 * en + 2)) b1) ((7 * en + 3)) c) ((7 * en + 4)) (nI pl)))), (mn, .inl (cJ, 100, .inr (.inl gN)))]) 0 2 rfl rfl (by omega) (by omega) dX9_note_161 rfl ?_
    refine v_aload_n 0 dX9_note_162 rfl rfl ?_
    refine v_get f_SampleDeskModel_41 0 rfl rfl dX9_note_163 ?_
    refine v_bipush (v := nI 7) dX9_note_166 (by decide) ?_
    refine v_aload_n 0 dX9_note_168 rfl rfl ?_
    refine v_get f_SampleDeskModel_191 0 rfl rfl dX9_note_169 ?_
    refine v_imul dX9_note_172 ?_
    refine v_topi (y := nI (7 * en)) (pk_mul _ _) ?_
    refine v_iconst (v := nI 5) dX9_note_173 (by decide) ?_
    refine v_iadd dX9_note_174 ?_
    refine v_topi (y := nI (7 * en + 5)) (nI_add _ _) ?_
    refine v_aload_n 0 dX9_note_175 rfl rfl ?_
    refine v_get f_SampleDeskModel_93 0 rfl rfl dX9_note_176 ?_
    refine v_iast (ws' := [(m, .inr (9, [.int th, .int fd0, .int (nI pl), .int dw0, .int lt0, .ref mt, .ref mw, .ref mb, .ref ml, .ref mq, .ref mz, .ref ms, .ref mr, .int ic0, .ref mi, .int tr0, .int sg0, .int ln0, .int at0, .int (nI bi), .int dr0, .int ma0, .ref mk, .int (nI en), .ref mj, .ref mn])), (mk, .inl (cI, 256, .inl gK)), (mj, .inl (cI, 700, .inl (upd (upd (upd (upd (upd (upd gJ ((7 * en)) kd) ((7 * en + 1)) a) ((7 * en + 2)) b1) ((7 * en + 3)) c) ((7 * en + 4)) (nI pl)) ((7 * en + 5)) (nI bi)))), (mn, .inl (cJ, 100, .inr (.inl gN)))]) 0 2 rfl rfl (by omega) (by omega) dX9_note_179 rfl ?_
    refine v_aload_n 0 dX9_note_180 rfl rfl ?_
    refine v_get f_SampleDeskModel_41 0 rfl rfl dX9_note_181 ?_
    refine v_bipush (v := nI 7) dX9_note_184 (by decide) ?_
    refine v_aload_n 0 dX9_note_186 rfl rfl ?_
    refine v_get f_SampleDeskModel_191 0 rfl rfl dX9_note_187 ?_
    refine v_imul dX9_note_190 ?_
    refine v_topi (y := nI (7 * en)) (pk_mul _ _) ?_
    refine v_bipush (v := nI 6) dX9_note_191 (by decide) ?_
    refine v_iadd dX9_note_193 ?_
    refine v_topi (y := nI (7 * en + 6)) (nI_add _ _) ?_
    refine v_aload_n 0 dX9_note_194 rfl rfl ?_
    refine v_iload_n 1 dX9_note_195 rfl rfl ?_
    refine v_callV (as := [.int kd]) (rest := [.int (nI (7 * en + 6)), .ref mj]) (ws' := fun u => [(m, .inr (9, [.int th, .int fd0, .int (nI pl), .int dw0, .int lt0, .ref mt, .ref mw, .ref mb, .ref ml, .ref mq, .ref mz, .ref ms, .ref mr, .int ic0, .ref mi, .int tr0, .int sg0, .int ln0, .int at0, .int (nI bi), .int dr0, .int ma0, .ref mk, .int (nI en), .ref mj, .ref mn])), (mk, .inl (cI, 256, .inl gK)), (mj, .inl (cI, 700, .inl (upd (upd (upd (upd (upd (upd gJ ((7 * en)) kd) ((7 * en + 1)) a) ((7 * en + 2)) b1) ((7 * en + 3)) c) ((7 * en + 4)) (nI pl)) ((7 * en + 5)) (nI bi)))), (mn, .inl (cJ, 100, .inr (.inl gN)))]) m_SampleDeskModel_194 (kX9_sumAny X.l (m := m) (mt := mt) (mw := mw) (mb := mb) (ml := ml) (mq := mq) (mz := mz) (ms := ms) (mr := mr) (mi := mi) (mk := mk) (mj := mj) (mn := mn) (th := th) (fd0 := fd0) (pc0 := nI pl) (dw0 := dw0) (lt0 := lt0) (ic0 := ic0) (tr0 := tr0) (sg0 := sg0) (ln0 := ln0) (at0 := at0) (rd0 := nI bi) (dr0 := dr0) (ma0 := ma0) (en0 := nI en) (n1 := n1) (kd := kd) (gK := gK) (F := F) hs0 hs1) k_code_X9_sumOfItems [0, 1] 0 rfl rfl rfl rfl dX9_note_196 (Nat.le_of_ble_eq_true rfl) ⟨rfl, rfl, by decide, by decide⟩ ⟨Nat.zero_le _, Nat.zero_le _⟩ rfl rfl (fun _ => rfl) (v_mgU rfl (fun _ => rfl)) ?_
    intro uu c196
    try dsimp only at c196
    show V (gG D cI cJ cT) X (rmD 1) cX9_note 8 RX9 [(m, .inr (9, [.int th, .int fd0, .int (nI pl), .int dw0, .int lt0, .ref mt, .ref mw, .ref mb, .ref ml, .ref mq, .ref mz, .ref ms, .ref mr, .int ic0, .ref mi, .int tr0, .int sg0, .int ln0, .int at0, .int (nI bi), .int dr0, .int ma0, .ref mk, .int (nI en), .ref mj, .ref mn])), (mk, .inl (cI, 256, .inl gK)), (mj, .inl (cI, 700, .inl (upd (upd (upd (upd (upd (upd gJ ((7 * en)) kd) ((7 * en + 1)) a) ((7 * en + 2)) b1) ((7 * en + 3)) c) ((7 * en + 4)) (nI pl)) ((7 * en + 5)) (nI bi)))), (mn, .inl (cJ, 100, .inr (.inl gN)))] 0 0 [(0, .ref m), (1, .int kd), (2, .int a), (3, .int b1), (4, .int c), (5, .long an)] 199 [.int (nI (csN F n1 % 1000003)), .int (nI (7 * en + 6)), .ref mj]
    refine v_iast (ws' := [(m, .inr (9, [.int th, .int fd0, .int (nI pl), .int dw0, .int lt0, .ref mt, .ref mw, .ref mb, .ref ml, .ref mq, .ref mz, .ref ms, .ref mr, .int ic0, .ref mi, .int tr0, .int sg0, .int ln0, .int at0, .int (nI bi), .int dr0, .int ma0, .ref mk, .int (nI en), .ref mj, .ref mn])), (mk, .inl (cI, 256, .inl gK)), (mj, .inl (cI, 700, .inl (upd (upd (upd (upd (upd (upd (upd gJ ((7 * en)) kd) ((7 * en + 1)) a) ((7 * en + 2)) b1) ((7 * en + 3)) c) ((7 * en + 4)) (nI pl)) ((7 * en + 5)) (nI bi)) ((7 * en + 6)) (nI (csN F n1 % 1000003))))), (mn, .inl (cJ, 100, .inr (.inl gN)))]) 0 2 rfl rfl (by omega) (by omega) dX9_note_199 rfl ?_
    refine v_aload_n 0 dX9_note_200 rfl rfl ?_
    refine v_get f_SampleDeskModel_44 0 rfl rfl dX9_note_201 ?_
    refine v_aload_n 0 dX9_note_204 rfl rfl ?_
    refine v_get f_SampleDeskModel_191 0 rfl rfl dX9_note_205 ?_
    refine v_lload 5 dX9_note_208 rfl ?_
    refine v_last (ws' := [(m, .inr (9, [.int th, .int fd0, .int (nI pl), .int dw0, .int lt0, .ref mt, .ref mw, .ref mb, .ref ml, .ref mq, .ref mz, .ref ms, .ref mr, .int ic0, .ref mi, .int tr0, .int sg0, .int ln0, .int at0, .int (nI bi), .int dr0, .int ma0, .ref mk, .int (nI en), .ref mj, .ref mn])), (mk, .inl (cI, 256, .inl gK)), (mj, .inl (cI, 700, .inl (upd (upd (upd (upd (upd (upd (upd gJ ((7 * en)) kd) ((7 * en + 1)) a) ((7 * en + 2)) b1) ((7 * en + 3)) c) ((7 * en + 4)) (nI pl)) ((7 * en + 5)) (nI bi)) ((7 * en + 6)) (nI (csN F n1 % 1000003))))), (mn, .inl (cJ, 100, .inr (.inl (vp_updL gN en an))))]) 1 3 rfl rfl (by omega) (by omega) dX9_note_210 rfl ?_
    refine v_aload_n 0 dX9_note_211 rfl rfl ?_
    refine v_dup dX9_note_212 rfl ?_
    refine v_get f_SampleDeskModel_191 0 rfl rfl dX9_note_213 ?_
    refine v_iconst (v := nI 1) dX9_note_216 (by decide) ?_
    refine v_iadd dX9_note_217 ?_
    refine v_topi (y := nI (min (en + 1) 100)) (by rw [nI_add, Nat.min_eq_left (by omega)]) ?_
    refine v_put (ws' := [(m, .inr (9, [.int th, .int fd0, .int (nI pl), .int dw0, .int lt0, .ref mt, .ref mw, .ref mb, .ref ml, .ref mq, .ref mz, .ref ms, .ref mr, .int ic0, .ref mi, .int tr0, .int sg0, .int ln0, .int at0, .int (nI bi), .int dr0, .int ma0, .ref mk, .int (nI (min (en + 1) 100)), .ref mj, .ref mn])), (mk, .inl (cI, 256, .inl gK)), (mj, .inl (cI, 700, .inl (upd (upd (upd (upd (upd (upd (upd gJ ((7 * en)) kd) ((7 * en + 1)) a) ((7 * en + 2)) b1) ((7 * en + 3)) c) ((7 * en + 4)) (nI pl)) ((7 * en + 5)) (nI bi)) ((7 * en + 6)) (nI (csN F n1 % 1000003))))), (mn, .inl (cJ, 100, .inr (.inl (vp_updL gN en an))))]) fw_SampleDeskModel_191 0 rfl (rfl) (rfl) (Nat.le_of_ble_eq_true rfl) dX9_note_218 rfl ?_
    exact v_vret hE dX9_note_221 (jE gJ en kd a b1 c (nI pl) (nI bi) (nI (csN F n1 % 1000003)), vp_updL gN en an) (JMod_a hJ (by omega)) rfl rfl
  · have b6 : en = 100 := (nI_eq (by omega) (by decide)).mp b6
    refine v_iconst (v := nI 0) dX9_note_9 (by decide) ?_
    refine v_istore (lv' := [(7, .int (nI 0)), (0, .ref m), (1, .int kd), (2, .int a), (3, .int b1), (4, .int c), (5, .long an)]) dX9_note_10 (by decide) rfl ?_
    subst b6
    refine v_lv [1, 2, 3, 4, 5, 6, 0] rfl ?_
    refine kX9_note_l1 (en := 0) (n1 := 0) (F := fun _ => 0) (pc0 := pc0) (rd0 := rd0) (en0 := en0) (fun gJ1 h1 => ?_) 694 0 gJ (by omega) (by omega) (fun x hx => absurd hx (Nat.not_lt_zero _)) (fun _ _ => rfl)
    refine v_iconst (v := nI 0) dX9_note_43 (by decide) ?_
    refine v_istore (lv' := [(7, .int (nI 0)), (0, .ref m), (1, .int kd), (2, .int a), (3, .int b1), (4, .int c), (5, .long an)]) dX9_note_44 (by decide) rfl ?_
    refine v_lv [1, 2, 3, 4, 5, 6, 0] rfl ?_
    refine kX9_note_l2 (en := 0) (n1 := 0) (F := fun _ => 0) (pc0 := pc0) (rd0 := rd0) (en0 := en0) (fun gN1 h2 => ?_) 100 0 gN (by omega) (by omega) (fun x hx => absurd hx (Nat.not_lt_zero _)) (fun _ _ => rfl)
    refine v_aload_n 0 dX9_note_75 rfl rfl ?_
    refine v_dup dX9_note_76 rfl ?_
    refine v_get f_SampleDeskModel_191 0 rfl rfl dX9_note_77 ?_
    refine v_iconst (v := nI 1) dX9_note_80 (by decide) ?_
    refine v_isub dX9_note_81 ?_
    refine v_topi (y := nI 99) (pk_sub (by decide)) ?_
    refine v_put (ws' := [(m, .inr (9, [.int th, .int fd0, .int (nI pl), .int dw0, .int lt0, .ref mt, .ref mw, .ref mb, .ref ml, .ref mq, .ref mz, .ref ms, .ref mr, .int ic0, .ref mi, .int tr0, .int sg0, .int ln0, .int at0, .int (nI bi), .int dr0, .int ma0, .ref mk, .int (nI 99), .ref mj, .ref mn])), (mk, .inl (cI, 256, .inl gK)), (mj, .inl (cI, 700, .inl gJ1)), (mn, .inl (cJ, 100, .inr (.inl gN1)))]) fw_SampleDeskModel_191 0 rfl (rfl) (rfl) (Nat.le_of_ble_eq_true rfl) dX9_note_82 rfl ?_
    refine v_aload_n 0 dX9_note_85 rfl rfl ?_
    refine v_get f_SampleDeskModel_41 0 rfl rfl dX9_note_86 ?_
    refine v_bipush (v := nI 7) dX9_note_89 (by decide) ?_
    refine v_aload_n 0 dX9_note_91 rfl rfl ?_
    refine v_get f_SampleDeskModel_191 0 rfl rfl dX9_note_92 ?_
    refine v_imul dX9_note_95 ?_
    refine v_topi (y := nI (7 * 99)) (pk_mul _ _) ?_
    refine v_iload_n 1 dX9_note_96 rfl rfl ?_
    refine v_iast (ws' := [(m, .inr (9, [.int th, .int fd0, .int (nI pl), .int dw0, .int lt0, .ref mt, .ref mw, .ref mb, .ref ml, .ref mq, .ref mz, .ref ms, .ref mr, .int ic0, .ref mi, .int tr0, .int sg0, .int ln0, .int at0, .int (nI bi), .int dr0, .int ma0, .ref mk, .int (nI 99), .ref mj, .ref mn])), (mk, .inl (cI, 256, .inl gK)), (mj, .inl (cI, 700, .inl (upd gJ1 ((7 * 99)) kd))), (mn, .inl (cJ, 100, .inr (.inl gN1)))]) 0 2 rfl rfl (by omega) (by omega) dX9_note_97 rfl ?_
    refine v_aload_n 0 dX9_note_98 rfl rfl ?_
    refine v_get f_SampleDeskModel_41 0 rfl rfl dX9_note_99 ?_
    refine v_bipush (v := nI 7) dX9_note_102 (by decide) ?_
    refine v_aload_n 0 dX9_note_104 rfl rfl ?_
    refine v_get f_SampleDeskModel_191 0 rfl rfl dX9_note_105 ?_
    refine v_imul dX9_note_108 ?_
    refine v_topi (y := nI (7 * 99)) (pk_mul _ _) ?_
    refine v_iconst (v := nI 1) dX9_note_109 (by decide) ?_
    refine v_iadd dX9_note_110 ?_
    refine v_topi (y := nI (7 * 99 + 1)) (nI_add _ _) ?_
    refine v_iload_n 2 dX9_note_111 rfl rfl ?_
    refine v_iast (ws' := [(m, .inr (9, [.int th, .int fd0, .int (nI pl), .int dw0, .int lt0, .ref mt, .ref mw, .ref mb, .ref ml, .ref mq, .ref mz, .ref ms, .ref mr, .int ic0, .ref mi, .int tr0, .int sg0, .int ln0, .int at0, .int (nI bi), .int dr0, .int ma0, .ref mk, .int (nI 99), .ref mj, .ref mn])), (mk, .inl (cI, 256, .inl gK)), (mj, .inl (cI, 700, .inl (upd (upd gJ1 ((7 * 99)) kd) ((7 * 99 + 1)) a))), (mn, .inl (cJ, 100, .inr (.inl gN1)))]) 0 2 rfl rfl (by omega) (by omega) dX9_note_112 rfl ?_
    refine v_aload_n 0 dX9_note_113 rfl rfl ?_
    refine v_get f_SampleDeskModel_41 0 rfl rfl dX9_note_114 ?_
    refine v_bipush (v := nI 7) dX9_note_117 (by decide) ?_
    refine v_aload_n 0 dX9_note_119 rfl rfl ?_
    refine v_get f_SampleDeskModel_191 0 rfl rfl dX9_note_120 ?_
    refine v_imul dX9_note_123 ?_
    refine v_topi (y := nI (7 * 99)) (pk_mul _ _) ?_
    refine v_iconst (v := nI 2) dX9_note_124 (by decide) ?_
    refine v_iadd dX9_note_125 ?_
    refine v_topi (y := nI (7 * 99 + 2)) (nI_add _ _) ?_
    refine v_iload_n 3 dX9_note_126 rfl rfl ?_
    refine v_iast (ws' := [(m, .inr (9, [.int th, .int fd0, .int (nI pl), .int dw0, .int lt0, .ref mt, .ref mw, .ref mb, .ref ml, .ref mq, .ref mz, .ref ms, .ref mr, .int ic0, .ref mi, .int tr0, .int sg0, .int ln0, .int at0, .int (nI bi), .int dr0, .int ma0, .ref mk, .int (nI 99), .ref mj, .ref mn])), (mk, .inl (cI, 256, .inl gK)), (mj, .inl (cI, 700, .inl (upd (upd (upd gJ1 ((7 * 99)) kd) ((7 * 99 + 1)) a) ((7 * 99 + 2)) b1))), (mn, .inl (cJ, 100, .inr (.inl gN1)))]) 0 2 rfl rfl (by omega) (by omega) dX9_note_127 rfl ?_
    refine v_aload_n 0 dX9_note_128 rfl rfl ?_
    refine v_get f_SampleDeskModel_41 0 rfl rfl dX9_note_129 ?_
    refine v_bipush (v := nI 7) dX9_note_132 (by decide) ?_
    refine v_aload_n 0 dX9_note_134 rfl rfl ?_
    refine v_get f_SampleDeskModel_191 0 rfl rfl dX9_note_135 ?_
    refine v_imul dX9_note_138 ?_
    refine v_topi (y := nI (7 * 99)) (pk_mul _ _) ?_
    refine v_iconst (v := nI 3) dX9_note_139 (by decide) ?_
    refine v_iadd dX9_note_140 ?_
    refine v_topi (y := nI (7 * 99 + 3)) (nI_add _ _) ?_
    refine v_iload 4 dX9_note_141 rfl ?_
    refine v_iast (ws' := [(m, .inr (9, [.int th, .int fd0, .int (nI pl), .int dw0, .int lt0, .ref mt, .ref mw, .ref mb, .ref ml, .ref mq, .ref mz, .ref ms, .ref mr, .int ic0, .ref mi, .int tr0, .int sg0, .int ln0, .int at0, .int (nI bi), .int dr0, .int ma0, .ref mk, .int (nI 99), .ref mj, .ref mn])), (mk, .inl (cI, 256, .inl gK)), (mj, .inl (cI, 700, .inl (upd (upd (upd (upd gJ1 ((7 * 99)) kd) ((7 * 99 + 1)) a) ((7 * 99 + 2)) b1) ((7 * 99 + 3)) c))), (mn, .inl (cJ, 100, .inr (.inl gN1)))]) 0 2 rfl rfl (by omega) (by omega) dX9_note_143 rfl ?_
    refine v_aload_n 0 dX9_note_144 rfl rfl ?_
    refine v_get f_SampleDeskModel_41 0 rfl rfl dX9_note_145 ?_
    refine v_bipush (v := nI 7) dX9_note_148 (by decide) ?_
    refine v_aload_n 0 dX9_note_150 rfl rfl ?_
    refine v_get f_SampleDeskModel_191 0 rfl rfl dX9_note_151 ?_
    refine v_imul dX9_note_154 ?_
    refine v_topi (y := nI (7 * 99)) (pk_mul _ _) ?_
    refine v_iconst (v := nI 4) dX9_note_155 (by decide) ?_
    refine v_iadd dX9_note_156 ?_
    refine v_topi (y := nI (7 * 99 + 4)) (nI_add _ _) ?_
    refine v_aload_n 0 dX9_note_157 rfl rfl ?_
    refine v_get f_SampleDeskModel_62 0 rfl rfl dX9_note_158 ?_
    refine v_iast (ws' := [(m, .inr (9, [.int th, .int fd0, .int (nI pl), .int dw0, .int lt0, .ref mt, .ref mw, .ref mb, .ref ml, .ref mq, .ref mz, .ref ms, .ref mr, .int ic0, .ref mi, .int tr0, .int sg0, .int ln0, .int at0, .int (nI bi), .int dr0, .int ma0, .ref mk, .int (nI 99), .ref mj, .ref mn])), (mk, .inl (cI, 256, .inl gK)), (mj, .inl (cI, 700, .inl (upd (upd (upd (upd (upd gJ1 ((7 * 99)) kd) ((7 * 99 + 1)) a) ((7 * 99 + 2)) b1) ((7 * 99 + 3)) c) ((7 * 99 + 4)) (nI pl)))), (mn, .inl (cJ, 100, .inr (.inl gN1)))]) 0 2 rfl rfl (by omega) (by omega) dX9_note_161 rfl ?_
    refine v_aload_n 0 dX9_note_162 rfl rfl ?_
    refine v_get f_SampleDeskModel_41 0 rfl rfl dX9_note_163 ?_
    refine v_bipush (v := nI 7) dX9_note_166 (by decide) ?_
    refine v_aload_n 0 dX9_note_168 rfl rfl ?_
    refine v_get f_SampleDeskModel_191 0 rfl rfl dX9_note_169 ?_
    refine v_imul dX9_note_172 ?_
    refine v_topi (y := nI (7 * 99)) (pk_mul _ _) ?_
    refine v_iconst (v := nI 5) dX9_note_173 (by decide) ?_
    refine v_iadd dX9_note_174 ?_
    refine v_topi (y := nI (7 * 99 + 5)) (nI_add _ _) ?_
    refine v_aload_n 0 dX9_note_175 rfl rfl ?_
    refine v_get f_SampleDeskModel_93 0 rfl rfl dX9_note_176 ?_
    refine v_iast (ws' := [(m, .inr (9, [.int th, .int fd0, .int (nI pl), .int dw0, .int lt0, .ref mt, .ref mw, .ref mb, .ref ml, .ref mq, .ref mz, .ref ms, .ref mr, .int ic0, .ref mi, .int tr0, .int sg0, .int ln0, .int at0, .int (nI bi), .int dr0, .int ma0, .ref mk, .int (nI 99), .ref mj, .ref mn])), (mk, .inl (cI, 256, .inl gK)), (mj, .inl (cI, 700, .inl (upd (upd (upd (upd (upd (upd gJ1 ((7 * 99)) kd) ((7 * 99 + 1)) a) ((7 * 99 + 2)) b1) ((7 * 99 + 3)) c) ((7 * 99 + 4)) (nI pl)) ((7 * 99 + 5)) (nI bi)))), (mn, .inl (cJ, 100, .inr (.inl gN1)))]) 0 2 rfl rfl (by omega) (by omega) dX9_note_179 rfl ?_
    refine v_aload_n 0 dX9_note_180 rfl rfl ?_
    refine v_get f_SampleDeskModel_41 0 rfl rfl dX9_note_181 ?_
    refine v_bipush (v := nI 7) dX9_note_184 (by decide) ?_
    refine v_aload_n 0 dX9_note_186 rfl rfl ?_
    refine v_get f_SampleDeskModel_191 0 rfl rfl dX9_note_187 ?_
    refine v_imul dX9_note_190 ?_
    refine v_topi (y := nI (7 * 99)) (pk_mul _ _) ?_
    refine v_bipush (v := nI 6) dX9_note_191 (by decide) ?_
    refine v_iadd dX9_note_193 ?_
    refine v_topi (y := nI (7 * 99 + 6)) (nI_add _ _) ?_
    refine v_aload_n 0 dX9_note_194 rfl rfl ?_
    refine v_iload_n 1 dX9_note_195 rfl rfl ?_
    refine v_callV (as := [.int kd]) (rest := [.int (nI (7 * 99 + 6)), .ref mj]) (ws' := fun u => [(m, .inr (9, [.int th, .int fd0, .int (nI pl), .int dw0, .int lt0, .ref mt, .ref mw, .ref mb, .ref ml, .ref mq, .ref mz, .ref ms, .ref mr, .int ic0, .ref mi, .int tr0, .int sg0, .int ln0, .int at0, .int (nI bi), .int dr0, .int ma0, .ref mk, .int (nI 99), .ref mj, .ref mn])), (mk, .inl (cI, 256, .inl gK)), (mj, .inl (cI, 700, .inl (upd (upd (upd (upd (upd (upd gJ1 ((7 * 99)) kd) ((7 * 99 + 1)) a) ((7 * 99 + 2)) b1) ((7 * 99 + 3)) c) ((7 * 99 + 4)) (nI pl)) ((7 * 99 + 5)) (nI bi)))), (mn, .inl (cJ, 100, .inr (.inl gN1)))]) m_SampleDeskModel_194 (kX9_sumAny X.l (m := m) (mt := mt) (mw := mw) (mb := mb) (ml := ml) (mq := mq) (mz := mz) (ms := ms) (mr := mr) (mi := mi) (mk := mk) (mj := mj) (mn := mn) (th := th) (fd0 := fd0) (pc0 := nI pl) (dw0 := dw0) (lt0 := lt0) (ic0 := ic0) (tr0 := tr0) (sg0 := sg0) (ln0 := ln0) (at0 := at0) (rd0 := nI bi) (dr0 := dr0) (ma0 := ma0) (en0 := nI 99) (n1 := n1) (kd := kd) (gK := gK) (F := F) hs0 hs1) k_code_X9_sumOfItems [0, 1] 0 rfl rfl rfl rfl dX9_note_196 (Nat.le_of_ble_eq_true rfl) ⟨rfl, rfl, by decide, by decide⟩ ⟨Nat.zero_le _, Nat.zero_le _⟩ rfl rfl (fun _ => rfl) (v_mgU rfl (fun _ => rfl)) ?_
    intro uu c196
    try dsimp only at c196
    show V (gG D cI cJ cT) X (rmD 1) cX9_note 8 RX9 [(m, .inr (9, [.int th, .int fd0, .int (nI pl), .int dw0, .int lt0, .ref mt, .ref mw, .ref mb, .ref ml, .ref mq, .ref mz, .ref ms, .ref mr, .int ic0, .ref mi, .int tr0, .int sg0, .int ln0, .int at0, .int (nI bi), .int dr0, .int ma0, .ref mk, .int (nI 99), .ref mj, .ref mn])), (mk, .inl (cI, 256, .inl gK)), (mj, .inl (cI, 700, .inl (upd (upd (upd (upd (upd (upd gJ1 ((7 * 99)) kd) ((7 * 99 + 1)) a) ((7 * 99 + 2)) b1) ((7 * 99 + 3)) c) ((7 * 99 + 4)) (nI pl)) ((7 * 99 + 5)) (nI bi)))), (mn, .inl (cJ, 100, .inr (.inl gN1)))] 0 0 [(0, .ref m), (1, .int kd), (2, .int a), (3, .int b1), (4, .int c), (5, .long an)] 199 [.int (nI (csN F n1 % 1000003)), .int (nI (7 * 99 + 6)), .ref mj]
    refine v_iast (ws' := [(m, .inr (9, [.int th, .int fd0, .int (nI pl), .int dw0, .int lt0, .ref mt, .ref mw, .ref mb, .ref ml, .ref mq, .ref mz, .ref ms, .ref mr, .int ic0, .ref mi, .int tr0, .int sg0, .int ln0, .int at0, .int (nI bi), .int dr0, .int ma0, .ref mk, .int (nI 99), .ref mj, .ref mn])), (mk, .inl (cI, 256, .inl gK)), (mj, .inl (cI, 700, .inl (upd (upd (upd (upd (upd (upd (upd gJ1 ((7 * 99)) kd) ((7 * 99 + 1)) a) ((7 * 99 + 2)) b1) ((7 * 99 + 3)) c) ((7 * 99 + 4)) (nI pl)) ((7 * 99 + 5)) (nI bi)) ((7 * 99 + 6)) (nI (csN F n1 % 1000003))))), (mn, .inl (cJ, 100, .inr (.inl gN1)))]) 0 2 rfl rfl (by omega) (by omega) dX9_note_199 rfl ?_
    refine v_aload_n 0 dX9_note_200 rfl rfl ?_
    refine v_get f_SampleDeskModel_44 0 rfl rfl dX9_note_201 ?_
    refine v_aload_n 0 dX9_note_204 rfl rfl ?_
    refine v_get f_SampleDeskModel_191 0 rfl rfl dX9_note_205 ?_
    refine v_lload 5 dX9_note_208 rfl ?_
    refine v_last (ws' := [(m, .inr (9, [.int th, .int fd0, .int (nI pl), .int dw0, .int lt0, .ref mt, .ref mw, .ref mb, .ref ml, .ref mq, .ref mz, .ref ms, .ref mr, .int ic0, .ref mi, .int tr0, .int sg0, .int ln0, .int at0, .int (nI bi), .int dr0, .int ma0, .ref mk, .int (nI 99), .ref mj, .ref mn])), (mk, .inl (cI, 256, .inl gK)), (mj, .inl (cI, 700, .inl (upd (upd (upd (upd (upd (upd (upd gJ1 ((7 * 99)) kd) ((7 * 99 + 1)) a) ((7 * 99 + 2)) b1) ((7 * 99 + 3)) c) ((7 * 99 + 4)) (nI pl)) ((7 * 99 + 5)) (nI bi)) ((7 * 99 + 6)) (nI (csN F n1 % 1000003))))), (mn, .inl (cJ, 100, .inr (.inl (vp_updL gN1 99 an))))]) 1 3 rfl rfl (by omega) (by omega) dX9_note_210 rfl ?_
    refine v_aload_n 0 dX9_note_211 rfl rfl ?_
    refine v_dup dX9_note_212 rfl ?_
    refine v_get f_SampleDeskModel_191 0 rfl rfl dX9_note_213 ?_
    refine v_iconst (v := nI 1) dX9_note_216 (by decide) ?_
    refine v_iadd dX9_note_217 ?_
    refine v_topi (y := nI (min (100 + 1) 100)) (by decide) ?_
    refine v_put (ws' := [(m, .inr (9, [.int th, .int fd0, .int (nI pl), .int dw0, .int lt0, .ref mt, .ref mw, .ref mb, .ref ml, .ref mq, .ref mz, .ref ms, .ref mr, .int ic0, .ref mi, .int tr0, .int sg0, .int ln0, .int at0, .int (nI bi), .int dr0, .int ma0, .ref mk, .int (nI (min (100 + 1) 100)), .ref mj, .ref mn])), (mk, .inl (cI, 256, .inl gK)), (mj, .inl (cI, 700, .inl (upd (upd (upd (upd (upd (upd (upd gJ1 ((7 * 99)) kd) ((7 * 99 + 1)) a) ((7 * 99 + 2)) b1) ((7 * 99 + 3)) c) ((7 * 99 + 4)) (nI pl)) ((7 * 99 + 5)) (nI bi)) ((7 * 99 + 6)) (nI (csN F n1 % 1000003))))), (mn, .inl (cJ, 100, .inr (.inl (vp_updL gN1 99 an))))]) fw_SampleDeskModel_191 0 rfl (rfl) (rfl) (Nat.le_of_ble_eq_true rfl) dX9_note_218 rfl ?_
    exact v_vret hE dX9_note_221 (jE gJ1 99 kd a b1 c (nI pl) (nI bi) (nI (csN F n1 % 1000003)), vp_updL gN1 99 an) (JMod_b hJ h1 h2) rfl rfl
