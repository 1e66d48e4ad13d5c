def noT (t : Int32) : Bool := decide (t < 0) || !decide (t < 8)
set_option maxRecDepth 100000 in
set_option maxHeartbeats 4000000 in
theorem kX8_isNoTable {D : va_G} {cI cJ cT : ClassId} (l : Launch) {t : Int32} : Fn (S := Unit) (gG D cI cJ cT) l yX8_isNoTable (.code yX8_isNoTable cX8_isNoTable 1 (some .boolean)) (rmD 0) [.int t] [] (fun _ => True) (fun u => some (.int (dI (noT t)))) (fun u => []) := by
  refine Fn.intro (by decide) (Nat.le_of_ble_eq_true rfl) ?_
  intro X hX hE hin
  subst hX
  show V (gG D cI cJ cT) X _ cX8_isNoTable 1 RX8 _ 0 0 [(0, .int t)] 0 []
  refine v_iload_n 0 dX8_isNoTable_0 rfl rfl ?_
  refine v_if_lt (tgt := 10) dX8_isNoTable_1 (by decide) (fun b1 => ?_) (fun b1 => ?_)
  · refine v_iconst (v := 1) dX8_isNoTable_10 (by decide) ?_
    refine v_goto (tgt := 15) dX8_isNoTable_11 (by decide) ?_
    exact v_zret hE rfl dX8_isNoTable_15 () trivial (by simp [noT, dI, *]) rfl
  · refine v_iload_n 0 dX8_isNoTable_4 rfl rfl ?_
    refine v_bipush (v := 8) dX8_isNoTable_5 (by decide) ?_
    refine v_icmp_lt (tgt := 14) dX8_isNoTable_7 (by decide) (fun b7 => ?_) (fun b7 => ?_)
    · refine v_iconst (v := 0) dX8_isNoTable_14 (by decide) ?_
      exact v_zret hE rfl dX8_isNoTable_15 () trivial (by simp [noT, dI, *]) rfl
    · refine v_iconst (v := 1) dX8_isNoTable_10 (by decide) ?_
      refine v_goto (tgt := 15) dX8_isNoTable_11 (by decide) ?_
      exact v_zret hE rfl dX8_isNoTable_15 () trivial (by simp [noT, dI, *]) rfl
theorem noT_f {t : Int32} (h : noT t = false) : ∃ a, a < 8 ∧ t = nI a := by
  unfold noT at h
  simp only [Bool.or_eq_false_iff, decide_eq_false_iff_not, Bool.not_eq_false', decide_eq_true_eq] at h
  obtain ⟨a, ha, rfl⟩ := nI_of h.1
  exact ⟨a, (nI_ltI (b := 8) ha (by decide)).mp h.2, rfl⟩
theorem noT_t {t : Int32} (h : noT t = true) : ¬ inR t 8 := by
  rintro ⟨a, ha, rfl⟩
  unfold noT at h
  simp only [Bool.or_eq_true, decide_eq_true_eq, Bool.not_eq_true', decide_eq_false_iff_not] at h
  rcases h with h | h
  · exact absurd ((nI_ltI (b := 0) (by omega) (by decide)).mp h) (by omega)
  · exact h ((nI_ltI (b := 8) (by omega) (by decide)).mpr ha)
set_option maxRecDepth 100000 in
set_option maxHeartbeats 4000000 in
theorem kX8_feed {D : va_G} {cI cJ cT : ClassId} (l : Launch) {x ta tq sa oo lo sg ia w : Nat} (hst : l.stackTraces = false) {ic lb : Int32} {sz pl : Nat} {f : Nat → Int32} {a b c dd : Int32} (hsz : sz ≤ 16384) : FnX (S := Unit) (SX := Unit) (gG D cI cJ cT) l yX8_feed (.code yX8_feed cX8_feed 5 (some .int)) (rmX 6) [.ref x, .int a, .int b, .int c, .int dd] [(x, .inr (8, [.ref ta, .ref tq, .ref sa, .ref oo, .ref lo, .ref sg, .ref ia, .int ic, .int lb])), (ta, .inr (7, [.ref w, .int (nI sz), .int (nI pl)])), (w, .inl (cI, 512, .inl f))] (fun _ => sz + 128 ≤ 16384) (fun u => some (.int (nI (sz + 32 + 32 + 32 + 32)))) (fun u => [(x, .inr (8, [.ref ta, .ref tq, .ref sa, .ref oo, .ref lo, .ref sg, .ref ia, .int ic, .int lb])), (ta, .inr (7, [.ref w, .int (nI (sz + 32 + 32 + 32 + 32)), .int (nI pl)])), (w, .inl (cI, 512, .inl (upd (upd (upd (upd f (sz / 32) a) ((sz + 32) / 32) b) ((sz + 32 + 32) / 32) c) ((sz + 32 + 32 + 32) / 32) dd)))]) (fun E _ => E = "java/lang/IllegalStateException" ∧ ¬ sz + 128 ≤ 16384) (fun u => [(x, .inr (8, [.ref ta, .ref tq, .ref sa, .ref oo, .ref lo, .ref sg, .ref ia, .int ic, .int lb])), (ta, .inr (7, [.ref w, .int (nI sz), .int (nI pl)])), (w, .inl (cI, 512, .inl f))]) := by
  refine FnX.intro (by decide) (Nat.le_of_ble_eq_true rfl) hst ?_
  intro X hX hE htab
  subst hX
  show V (gG D cI cJ cT) X _ cX8_feed 5 RX8 _ 0 0 [(0, .ref x), (1, .int a), (2, .int b), (3, .int c), (4, .int dd)] 0 []
  refine v_aload_n 0 dX8_feed_0 rfl rfl ?_
  refine v_get f_SampleDesk_18 0 rfl rfl dX8_feed_1 ?_
  refine v_get f_SampleDesk_71 1 rfl rfl dX8_feed_4 ?_
  refine v_sipush (v := nI 128) dX8_feed_7 (by decide) ?_
  refine v_iadd dX8_feed_10 ?_
  refine v_topi (y := nI (sz + 128)) (nI_add _ _) ?_
  refine v_sipush (v := nI 16384) dX8_feed_11 (by decide) ?_
  refine v_icmp_le (tgt := 25) dX8_feed_14 (by decide) (fun b14 => ?_) (fun b14 => ?_)
  · have b14 : sz + 128 ≤ 16384 := (nI_leI (by omega) (by decide)).mp b14
    refine v_aload_n 0 dX8_feed_25 rfl rfl ?_
    refine v_get f_SampleDesk_18 0 rfl rfl dX8_feed_26 ?_
    refine v_iload_n 1 dX8_feed_29 rfl rfl ?_
    refine v_callV (as := [.int a]) (rest := []) (ws' := fun u => [(x, .inr (8, [.ref ta, .ref tq, .ref sa, .ref oo, .ref lo, .ref sg, .ref ia, .int ic, .int lb])), (ta, .inr (7, [.ref w, .int (nI (sz + 32)), .int (nI pl)])), (w, .inl (cI, 512, .inl (upd f (sz / 32) a)))]) m_SampleDesk_77 (kX7_append X.l (ta := ta) (w := w) (sz := sz) (pl := pl) (f := f) (v := a) (by omega)) k_code_X7_append [1, 2] 1 rfl rfl rfl rfl dX8_feed_30 (Nat.le_of_ble_eq_true rfl) ⟨rfl, rfl, by decide, by decide⟩ ⟨Nat.zero_le _, Nat.zero_le _⟩ rfl rfl (fun _ => rfl) (v_mgU rfl (fun _ => rfl)) ?_
    intro uu c30
    try dsimp only at c30
    show V (gG D cI cJ cT) X (rmX 6) cX8_feed 5 RX8 [(x, .inr (8, [.ref ta, .ref tq, .ref sa, .ref oo, .ref lo, .ref sg, .ref ia, .int ic, .int lb])), (ta, .inr (7, [.ref w, .int (nI (sz + 32)), .int (nI pl)])), (w, .inl (cI, 512, .inl (upd f (sz / 32) a)))] 0 0 [(0, .ref x), (1, .int a), (2, .int b), (3, .int c), (4, .int dd)] 33 []
    refine v_aload_n 0 dX8_feed_33 rfl rfl ?_
    refine v_get f_SampleDesk_18 0 rfl rfl dX8_feed_34 ?_
    refine v_iload_n 2 dX8_feed_37 rfl rfl ?_
    refine v_callV (as := [.int b]) (rest := []) (ws' := fun u => [(x, .inr (8, [.ref ta, .ref tq, .ref sa, .ref oo, .ref lo, .ref sg, .ref ia, .int ic, .int lb])), (ta, .inr (7, [.ref w, .int (nI (sz + 32 + 32)), .int (nI pl)])), (w, .inl (cI, 512, .inl (upd (upd f (sz / 32) a) ((sz + 32) / 32) b)))]) m_SampleDesk_77 (kX7_append X.l (ta := ta) (w := w) (sz := sz + 32) (pl := pl) (f := upd f (sz / 32) a) (v := b) (by omega)) k_code_X7_append [1, 2] 1 rfl rfl rfl rfl dX8_feed_38 (Nat.le_of_ble_eq_true rfl) ⟨rfl, rfl, by decide, by decide⟩ ⟨Nat.zero_le _, Nat.zero_le _⟩ rfl rfl (fun _ => rfl) (v_mgU rfl (fun _ => rfl)) ?_
    intro uu c38
    try dsimp only at c38
    show V (gG D cI cJ cT) X (rmX 6) cX8_feed 5 RX8 [(x, .inr (8, [.ref ta, .ref tq, .ref sa, .ref oo, .ref lo, .ref sg, .ref ia, .int ic, .int lb])), (ta, .inr (7, [.ref w, .int (nI (sz + 32 + 32)), .int (nI pl)])), (w, .inl (cI, 512, .inl (upd (upd f (sz / 32) a) ((sz + 32) / 32) b)))] 0 0 [(0, .ref x), (1, .int a), (2, .int b), (3, .int c), (4, .int dd)] 41 []
    refine v_aload_n 0 dX8_feed_41 rfl rfl ?_
    refine v_get f_SampleDesk_18 0 rfl rfl dX8_feed_42 ?_
    refine v_iload_n 3 dX8_feed_45 rfl rfl ?_
    refine v_callV (as := [.int c]) (rest := []) (ws' := fun u => [(x, .inr (8, [.ref ta, .ref tq, .ref sa, .ref oo, .ref lo, .ref sg, .ref ia, .int ic, .int lb])), (ta, .inr (7, [.ref w, .int (nI (sz + 32 + 32 + 32)), .int (nI pl)])), (w, .inl (cI, 512, .inl (upd (upd (upd f (sz / 32) a) ((sz + 32) / 32) b) ((sz + 32 + 32) / 32) c)))]) m_SampleDesk_77 (kX7_append X.l (ta := ta) (w := w) (sz := sz + 32 + 32) (pl := pl) (f := upd (upd f (sz / 32) a) ((sz + 32) / 32) b) (v := c) (by omega)) k_code_X7_append [1, 2] 1 rfl rfl rfl rfl dX8_feed_46 (Nat.le_of_ble_eq_true rfl) ⟨rfl, rfl, by decide, by decide⟩ ⟨Nat.zero_le _, Nat.zero_le _⟩ rfl rfl (fun _ => rfl) (v_mgU rfl (fun _ => rfl)) ?_
    intro uu c46
    try dsimp only at c46
    show V (gG D cI cJ cT) X (rmX 6) cX8_feed 5 RX8 [(x, .inr (8, [.ref ta, .ref tq, .ref sa, .ref oo, .ref lo, .ref sg, .ref ia, .int ic, .int lb])), (ta, .inr (7, [.ref w, .int (nI (sz + 32 + 32 + 32)), .int (nI pl)])), (w, .inl (cI, 512, .inl (upd (upd (upd f (sz / 32) a) ((sz + 32) / 32) b) ((sz + 32 + 32) / 32) c)))] 0 0 [(0, .ref x), (1, .int a), (2, .int b), (3, .int c), (4, .int dd)] 49 []
    refine v_aload_n 0 dX8_feed_49 rfl rfl ?_
    refine v_get f_SampleDesk_18 0 rfl rfl dX8_feed_50 ?_
    refine v_iload 4 dX8_feed_53 rfl ?_
    refine v_callV (as := [.int dd]) (rest := []) (ws' := fun u => [(x, .inr (8, [.ref ta, .ref tq, .ref sa, .ref oo, .ref lo, .ref sg, .ref ia, .int ic, .int lb])), (ta, .inr (7, [.ref w, .int (nI (sz + 32 + 32 + 32 + 32)), .int (nI pl)])), (w, .inl (cI, 512, .inl (upd (upd (upd (upd f (sz / 32) a) ((sz + 32) / 32) b) ((sz + 32 + 32) / 32) c) ((sz + 32 + 32 + 32) / 32) dd)))]) m_SampleDesk_77 (kX7_append X.l (ta := ta) (w := w) (sz := sz + 32 + 32 + 32) (pl := pl) (f := upd (upd (upd f (sz / 32) a) ((sz + 32) / 32) b) ((sz + 32 + 32) / 32) c) (v := dd) (by omega)) k_code_X7_append [1, 2] 1 rfl rfl rfl rfl dX8_feed_55 (Nat.le_of_ble_eq_true rfl) ⟨rfl, rfl, by decide, by decide⟩ ⟨Nat.zero_le _, Nat.zero_le _⟩ rfl rfl (fun _ => rfl) (v_mgU rfl (fun _ => rfl)) ?_
    intro uu c55
    try dsimp only at c55
    show V (gG D cI cJ cT) X (rmX 6) cX8_feed 5 RX8 [(x, .inr (8, [.ref ta, .ref tq, .ref sa, .ref oo, .ref lo, .ref sg, .ref ia, .int ic, .int lb])), (ta, .inr (7, [.ref w, .int (nI (sz + 32 + 32 + 32 + 32)), .int (nI pl)])), (w, .inl (cI, 512, .inl (upd (upd (upd (upd f (sz / 32) a) ((sz + 32) / 32) b) ((sz + 32 + 32) / 32) c) ((sz + 32 + 32 + 32) / 32) dd)))] 0 0 [(0, .ref x), (1, .int a), (2, .int b), (3, .int c), (4, .int dd)] 58 []
    refine v_aload_n 0 dX8_feed_58 rfl rfl ?_
    refine v_get f_SampleDesk_18 0 rfl rfl dX8_feed_59 ?_
    refine v_get f_SampleDesk_71 1 rfl rfl dX8_feed_62 ?_
    exact v_iretX hE (Nat.zero_le _) (Nat.zero_le _) dX8_feed_65 () (b14) rfl rfl
  · have b14 : ¬ (sz + 128 ≤ 16384) := fun q => b14 ((nI_leI (by omega) (by decide)).mpr q)
    exact v_throw hE.r htab th_ISE dX8_feed_17 dX8_feed_20 dX8_feed_21 dX8_feed_24 ⟨by decide, by decide, by decide, by decide⟩ () (⟨rfl, b14⟩) rfl
set_option maxRecDepth 100000 in
set_option maxHeartbeats 4000000 in
theorem kX8_bit {D : va_G} {cI cJ cT : ClassId} (l : Launch) {x ta tq sa oo lo sg ia w : Nat} (hst : l.stackTraces = false) {ic lb : Int32} {sz pl : Nat} {f : Nat → Int32} {at0 bt : Int32} (hsz : sz ≤ 16384) : FnX (S := Nat × Nat) (SX := Unit) (gG D cI cJ cT) l yX8_bit (.code yX8_bit cX8_bit 3 (some .int)) (rmX 6) [.ref x, .int at0, .int bt] [(x, .inr (8, [.ref ta, .ref tq, .ref sa, .ref oo, .ref lo, .ref sg, .ref ia, .int ic, .int lb])), (ta, .inr (7, [.ref w, .int (nI sz), .int (nI pl)])), (w, .inl (cI, 512, .inl f))] (fun u => u.1 < sz ∧ at0 = nI u.1 ∧ u.2 < 2 ∧ bt = nI u.2) (fun u => some (.int (nI (bitW f u.1)))) (fun u => [(x, .inr (8, [.ref ta, .ref tq, .ref sa, .ref oo, .ref lo, .ref sg, .ref ia, .int ic, .int lb])), (ta, .inr (7, [.ref w, .int (nI sz), .int (nI pl)])), (w, .inl (cI, 512, .inl (exW f u.1 u.2)))]) (fun E _ => (E = "java/lang/IndexOutOfBoundsException" ∧ ¬ inR at0 sz) ∨ (E = "java/lang/IllegalArgumentException" ∧ inR at0 sz ∧ ¬ bt = nI 0 ∧ ¬ bt = nI 1)) (fun u => [(x, .inr (8, [.ref ta, .ref tq, .ref sa, .ref oo, .ref lo, .ref sg, .ref ia, .int ic, .int lb])), (ta, .inr (7, [.ref w, .int (nI sz), .int (nI pl)])), (w, .inl (cI, 512, .inl f))]) := by
  refine FnX.intro (by decide) (Nat.le_of_ble_eq_true rfl) hst ?_
  intro X hX hE htab
  subst hX
  show V (gG D cI cJ cT) X _ cX8_bit 3 RX8 _ 0 0 [(0, .ref x), (1, .int at0), (2, .int bt)] 0 []
  refine v_iload_n 1 dX8_bit_0 rfl rfl ?_
  refine v_if_lt (tgt := 15) dX8_bit_1 (by decide) (fun b1 => ?_) (fun b1 => ?_)
  · exact v_throw hE.r htab th_IOB dX8_bit_15 dX8_bit_18 dX8_bit_19 dX8_bit_22 ⟨by decide, by decide, by decide, by decide⟩ () (Or.inl ⟨rfl, inR_neg (by omega) b1⟩) rfl
  · obtain ⟨a, ha, ea⟩ := nI_of b1
    subst ea
    refine v_iload_n 1 dX8_bit_4 rfl rfl ?_
    refine v_aload_n 0 dX8_bit_5 rfl rfl ?_
    refine v_get f_SampleDesk_18 0 rfl rfl dX8_bit_6 ?_
    refine v_get f_SampleDesk_71 1 rfl rfl dX8_bit_9 ?_
    refine v_icmp_lt (tgt := 23) dX8_bit_12 (by decide) (fun b12 => ?_) (fun b12 => ?_)
    · have b12 : a < sz := (nI_ltI ha (by omega)).mp b12
      refine v_iload_n 2 dX8_bit_23 rfl rfl ?_
      refine v_if_eq (tgt := 40) dX8_bit_24 (by decide) (fun b24 => ?_) (fun b24 => ?_)
      · subst b24
        refine v_aload_n 0 dX8_bit_40 rfl rfl ?_
        refine v_get f_SampleDesk_18 0 rfl rfl dX8_bit_41 ?_
        refine v_iload_n 1 dX8_bit_44 rfl rfl ?_
        refine v_iload_n 2 dX8_bit_45 rfl rfl ?_
        refine v_callV (as := [.int (nI a), .int (nI 0)]) (rest := []) (ws' := fun u => [(x, .inr (8, [.ref ta, .ref tq, .ref sa, .ref oo, .ref lo, .ref sg, .ref ia, .int ic, .int lb])), (ta, .inr (7, [.ref w, .int (nI sz), .int (nI pl)])), (w, .inl (cI, 512, .inl (exW f a 0)))]) m_SampleDesk_87 (kX7_exchange X.l (ta := ta) (w := w) (sz := sz) (pl := pl) (a := a) (t := 0) (f := f) (by omega)) k_code_X7_exchange [1, 2] 1 rfl rfl rfl rfl dX8_bit_46 (Nat.le_of_ble_eq_true rfl) ⟨rfl, rfl, by decide, by decide⟩ ⟨Nat.zero_le _, Nat.zero_le _⟩ rfl rfl (fun _ => rfl) (v_mgU rfl (fun _ => rfl)) ?_
        intro uu c46
        try dsimp only at c46
        show V (gG D cI cJ cT) X (rmX 6) cX8_bit 3 RX8 [(x, .inr (8, [.ref ta, .ref tq, .ref sa, .ref oo, .ref lo, .ref sg, .ref ia, .int ic, .int lb])), (ta, .inr (7, [.ref w, .int (nI sz), .int (nI pl)])), (w, .inl (cI, 512, .inl (exW f a 0)))] 0 0 [(0, .ref x), (1, .int (nI a)), (2, .int (nI 0))] 49 [.int (nI (bitW f a))]
        exact v_iretX hE (Nat.zero_le _) (Nat.zero_le _) dX8_bit_49 (a, 0) (⟨b12, rfl, Nat.le_of_ble_eq_true rfl, rfl⟩) rfl rfl
      · refine v_iload_n 2 dX8_bit_27 rfl rfl ?_
        refine v_iconst (v := nI 1) dX8_bit_28 (by decide) ?_
        refine v_icmp_eq (tgt := 40) dX8_bit_29 (by decide) (fun b29 => ?_) (fun b29 => ?_)
        · subst b29
          refine v_aload_n 0 dX8_bit_40 rfl rfl ?_
          refine v_get f_SampleDesk_18 0 rfl rfl dX8_bit_41 ?_
          refine v_iload_n 1 dX8_bit_44 rfl rfl ?_
          refine v_iload_n 2 dX8_bit_45 rfl rfl ?_
          refine v_callV (as := [.int (nI a), .int (nI 1)]) (rest := []) (ws' := fun u => [(x, .inr (8, [.ref ta, .ref tq, .ref sa, .ref oo, .ref lo, .ref sg, .ref ia, .int ic, .int lb])), (ta, .inr (7, [.ref w, .int (nI sz), .int (nI pl)])), (w, .inl (cI, 512, .inl (exW f a 1)))]) m_SampleDesk_87 (kX7_exchange X.l (ta := ta) (w := w) (sz := sz) (pl := pl) (a := a) (t := 1) (f := f) (by omega)) k_code_X7_exchange [1, 2] 1 rfl rfl rfl rfl dX8_bit_46 (Nat.le_of_ble_eq_true rfl) ⟨rfl, rfl, by decide, by decide⟩ ⟨Nat.zero_le _, Nat.zero_le _⟩ rfl rfl (fun _ => rfl) (v_mgU rfl (fun _ => rfl)) ?_
          intro uu c46
          try dsimp only at c46
          show V (gG D cI cJ cT) X (rmX 6) cX8_bit 3 RX8 [(x, .inr (8, [.ref ta, .ref tq, .ref sa, .ref oo, .ref lo, .ref sg, .ref ia, .int ic, .int lb])), (ta, .inr (7, [.ref w, .int (nI sz), .int (nI pl)])), (w, .inl (cI, 512, .inl (exW f a 1)))] 0 0 [(0, .ref x), (1, .int (nI a)), (2, .int (nI 1))] 49 [.int (nI (bitW f a))]
          exact v_iretX hE (Nat.zero_le _) (Nat.zero_le _) dX8_bit_49 (a, 1) (⟨b12, rfl, Nat.le_of_ble_eq_true rfl, rfl⟩) rfl rfl
        · exact v_throw hE.r htab th_IAE dX8_bit_32 dX8_bit_35 dX8_bit_36 dX8_bit_39 ⟨by decide, by decide, by decide, by decide⟩ () (Or.inr ⟨rfl, ⟨a, b12, rfl⟩, b24, b29⟩) rfl
    · have b12 : ¬ (a < sz) := fun q => b12 ((nI_ltI ha (by omega)).mpr q)
      exact v_throw hE.r htab th_IOB dX8_bit_15 dX8_bit_18 dX8_bit_19 dX8_bit_22 ⟨by decide, by decide, by decide, by decide⟩ () (Or.inl ⟨rfl, fun q => b12 ((inR_nI ha (by omega)).mp q)⟩) rfl
set_option maxRecDepth 100000 in
set_option maxHeartbeats 4000000 in
theorem kX8_rewind {D : va_G} {cI cJ cT : ClassId} (l : Launch) {x ta tq sa oo lo sg ia w : Nat} (hst : l.stackTraces = false) {ic lb : Int32} {sz pl : Nat} {at0 : Int32} (hsz : sz ≤ 16384) : FnX (S := Nat) (SX := Unit) (gG D cI cJ cT) l yX8_rewind (.code yX8_rewind cX8_rewind 3 (some .int)) (rmX 6) [.ref x, .int at0] [(x, .inr (8, [.ref ta, .ref tq, .ref sa, .ref oo, .ref lo, .ref sg, .ref ia, .int ic, .int lb])), (ta, .inr (7, [.ref w, .int (nI sz), .int (nI pl)]))] (fun u => u ≤ sz ∧ at0 = nI u) (fun u => some (.int (nI pl))) (fun u => [(x, .inr (8, [.ref ta, .ref tq, .ref sa, .ref oo, .ref lo, .ref sg, .ref ia, .int ic, .int lb])), (ta, .inr (7, [.ref w, .int (nI sz), .int (nI u)]))]) (fun E _ => E = "java/lang/IndexOutOfBoundsException" ∧ ¬ inR at0 (sz + 1)) (fun u => [(x, .inr (8, [.ref ta, .ref tq, .ref sa, .ref oo, .ref lo, .ref sg, .ref ia, .int ic, .int lb])), (ta, .inr (7, [.ref w, .int (nI sz), .int (nI pl)]))]) := by
  refine FnX.intro (by decide) (Nat.le_of_ble_eq_true rfl) hst ?_
  intro X hX hE htab
  subst hX
  show V (gG D cI cJ cT) X _ cX8_rewind 3 RX8 _ 0 0 [(0, .ref x), (1, .int at0)] 0 []
  refine v_iload_n 1 dX8_rewind_0 rfl rfl ?_
  refine v_if_lt (tgt := 15) dX8_rewind_1 (by decide) (fun b1 => ?_) (fun b1 => ?_)
  · exact v_throw hE.r htab th_IOB dX8_rewind_15 dX8_rewind_18 dX8_rewind_19 dX8_rewind_22 ⟨by decide, by decide, by decide, by decide⟩ () (⟨rfl, inR_neg (by omega) b1⟩) rfl
  · obtain ⟨a, ha, ea⟩ := nI_of b1
    subst ea
    refine v_iload_n 1 dX8_rewind_4 rfl rfl ?_
    refine v_aload_n 0 dX8_rewind_5 rfl rfl ?_
    refine v_get f_SampleDesk_18 0 rfl rfl dX8_rewind_6 ?_
    refine v_get f_SampleDesk_71 1 rfl rfl dX8_rewind_9 ?_
    refine v_icmp_le (tgt := 23) dX8_rewind_12 (by decide) (fun b12 => ?_) (fun b12 => ?_)
    · have b12 : a ≤ sz := (nI_leI ha (by omega)).mp b12
      refine v_aload_n 0 dX8_rewind_23 rfl rfl ?_
      refine v_get f_SampleDesk_18 0 rfl rfl dX8_rewind_24 ?_
      refine v_get f_SampleDesk_91 1 rfl rfl dX8_rewind_27 ?_
      refine v_istore_n (lv' := [(2, .int (nI pl)), (0, .ref x), (1, .int (nI a))]) dX8_rewind_30 rfl (by decide) rfl ?_
      refine v_aload_n 1 dX8_rewind_31 rfl rfl ?_
      refine v_get f_SampleDesk_18 0 rfl rfl dX8_rewind_32 ?_
      refine v_iload_n 2 dX8_rewind_35 rfl rfl ?_
      refine v_put (ws' := [(x, .inr (8, [.ref ta, .ref tq, .ref sa, .ref oo, .ref lo, .ref sg, .ref ia, .int ic, .int lb])), (ta, .inr (7, [.ref w, .int (nI sz), .int (nI a)]))]) fw_SampleDesk_91 1 rfl (rfl) (rfl) (Nat.le_of_ble_eq_true rfl) dX8_rewind_36 rfl ?_
      refine v_iload_n 0 dX8_rewind_39 rfl rfl ?_
      exact v_iretX hE (Nat.zero_le _) (Nat.zero_le _) dX8_rewind_40 a (⟨b12, rfl⟩) rfl rfl
    · have b12 : ¬ (a ≤ sz) := fun q => b12 ((nI_leI ha (by omega)).mpr q)
      exact v_throw hE.r htab th_IOB dX8_rewind_15 dX8_rewind_18 dX8_rewind_19 dX8_rewind_22 ⟨by decide, by decide, by decide, by decide⟩ () (⟨rfl, fun q => absurd ((inR_nI ha (by omega)).mp q) (by omega)⟩) rfl
set_option maxRecDepth 100000 in
set_option maxHeartbeats 4000000 in
theorem kX8_item {D : va_G} {cI cJ cT : ClassId} (l : Launch) {x ta tq sa oo lo sg ia : Nat} (hst : l.stackTraces = false) {lb : Int32} {ic : Nat} {gt : Nat → Int32} {at0 : Int32} (hic : ic ≤ 256) : FnX (S := Nat) (SX := Unit) (gG D cI cJ cT) l yX8_item (.code yX8_item cX8_item 2 (some .int)) (rmX 6) [.ref x, .int at0] [(x, .inr (8, [.ref ta, .ref tq, .ref sa, .ref oo, .ref lo, .ref sg, .ref ia, .int (nI ic), .int lb])), (ia, .inl (cI, 256, .inl gt))] (fun u => u < ic ∧ at0 = nI u) (fun u => some (.int (gt u))) (fun u => [(x, .inr (8, [.ref ta, .ref tq, .ref sa, .ref oo, .ref lo, .ref sg, .ref ia, .int (nI ic), .int lb])), (ia, .inl (cI, 256, .inl gt))]) (fun E _ => E = "java/lang/IndexOutOfBoundsException" ∧ ¬ inR at0 ic) (fun u => [(x, .inr (8, [.ref ta, .ref tq, .ref sa, .ref oo, .ref lo, .ref sg, .ref ia, .int (nI ic), .int lb])), (ia, .inl (cI, 256, .inl gt))]) := by
  refine FnX.intro (by decide) (Nat.le_of_ble_eq_true rfl) hst ?_
  intro X hX hE htab
  subst hX
  show V (gG D cI cJ cT) X _ cX8_item 2 RX8 _ 0 0 [(0, .ref x), (1, .int at0)] 0 []
  refine v_iload_n 1 dX8_item_0 rfl rfl ?_
  refine v_if_lt (tgt := 12) dX8_item_1 (by decide) (fun b1 => ?_) (fun b1 => ?_)
  · exact v_throw hE.r htab th_IOB dX8_item_12 dX8_item_15 dX8_item_16 dX8_item_19 ⟨by decide, by decide, by decide, by decide⟩ () (⟨rfl, inR_neg (by omega) b1⟩) rfl
  · obtain ⟨a, ha, ea⟩ := nI_of b1
    subst ea
    refine v_iload_n 1 dX8_item_4 rfl rfl ?_
    refine v_aload_n 0 dX8_item_5 rfl rfl ?_
    refine v_get f_SampleDesk_64 0 rfl rfl dX8_item_6 ?_
    refine v_icmp_lt (tgt := 20) dX8_item_9 (by decide) (fun b9 => ?_) (fun b9 => ?_)
    · have b9 : a < ic := (nI_ltI ha (by omega)).mp b9
      refine v_aload_n 0 dX8_item_20 rfl rfl ?_
      refine v_get f_SampleDesk_61 0 rfl rfl dX8_item_21 ?_
      refine v_iload_n 1 dX8_item_24 rfl rfl ?_
      refine v_iald 0 1 rfl rfl (by omega) (by omega) dX8_item_25 ?_
      exact v_iretX hE (Nat.zero_le _) (Nat.zero_le _) dX8_item_26 a (⟨b9, rfl⟩) rfl rfl
    · have b9 : ¬ (a < ic) := fun q => b9 ((nI_ltI ha (by omega)).mpr q)
      exact v_throw hE.r htab th_IOB dX8_item_12 dX8_item_15 dX8_item_16 dX8_item_19 ⟨by decide, by decide, by decide, by decide⟩ () (⟨rfl, fun q => absurd ((inR_nI ha (by omega)).mp q) (by omega)⟩) rfl
set_option maxRecDepth 100000 in
set_option maxHeartbeats 4000000 in
theorem kX8_journal {D : va_G} {cI cJ cT : ClassId} (l : Launch) {x ta tq sa oo lo sg ia lc : Nat} (hst : l.stackTraces = false) {ic lb : Int32} {nx ls dw : Nat} {g : Nat → Int64} {at0 wh : Int32} (hnx : nx < 100) (hls : ls ≤ 100) : FnX (S := Nat × Nat) (SX := Unit) (gG D cI cJ cT) l yX8_journal (.code yX8_journal cX8_journal 3 (some .long)) (rmX 6) [.ref x, .int at0, .int wh] [(x, .inr (8, [.ref ta, .ref tq, .ref sa, .ref oo, .ref lo, .ref sg, .ref ia, .int ic, .int lb])), (lo, .inr (2, [.ref lc, .int (nI nx), .int (nI ls), .int (nI dw)])), (lc, .inl (cJ, 800, .inr (.inl g)))] (fun u => u.1 < ls ∧ at0 = nI u.1 ∧ u.2 < 7 ∧ wh = nI u.2) (fun u => some (.long (g ((nx + 100 - ls + u.1) % 100 * 8 + u.2)))) (fun u => [(x, .inr (8, [.ref ta, .ref tq, .ref sa, .ref oo, .ref lo, .ref sg, .ref ia, .int ic, .int lb])), (lo, .inr (2, [.ref lc, .int (nI nx), .int (nI ls), .int (nI dw)])), (lc, .inl (cJ, 800, .inr (.inl g)))]) (fun E _ => E = "java/lang/IndexOutOfBoundsException" ∧ ¬ (inR at0 ls ∧ inR wh 7)) (fun u => [(x, .inr (8, [.ref ta, .ref tq, .ref sa, .ref oo, .ref lo, .ref sg, .ref ia, .int ic, .int lb])), (lo, .inr (2, [.ref lc, .int (nI nx), .int (nI ls), .int (nI dw)])), (lc, .inl (cJ, 800, .inr (.inl g)))]) := by
  refine FnX.intro (by decide) (Nat.le_of_ble_eq_true rfl) hst ?_
  intro X hX hE htab
  subst hX
  show V (gG D cI cJ cT) X _ cX8_journal 3 RX8 _ 0 0 [(0, .ref x), (1, .int at0), (2, .int wh)] 0 []
  refine v_iload_n 1 dX8_journal_0 rfl rfl ?_
  refine v_if_lt (tgt := 25) dX8_journal_1 (by decide) (fun b1 => ?_) (fun b1 => ?_)
  · exact v_throw hE.r htab th_IOB dX8_journal_25 dX8_journal_28 dX8_journal_29 dX8_journal_32 ⟨by decide, by decide, by decide, by decide⟩ () (⟨rfl, fun q => inR_neg (by omega) b1 q.1⟩) rfl
  · obtain ⟨a, ha, ea⟩ := nI_of b1
    subst ea
    refine v_iload_n 1 dX8_journal_4 rfl rfl ?_
    refine v_aload_n 0 dX8_journal_5 rfl rfl ?_
    refine v_get f_SampleDesk_53 0 rfl rfl dX8_journal_6 ?_
    refine v_get f_SampleDesk_170 1 rfl rfl dX8_journal_9 ?_
    refine v_icmp_ge (tgt := 25) dX8_journal_12 (by decide) (fun b12 => ?_) (fun b12 => ?_)
    · have b12 : ls ≤ a := (nI_leI (by omega) ha).mp b12
      exact v_throw hE.r htab th_IOB dX8_journal_25 dX8_journal_28 dX8_journal_29 dX8_journal_32 ⟨by decide, by decide, by decide, by decide⟩ () (⟨rfl, fun q => absurd ((inR_nI ha (by omega)).mp q.1) (by omega)⟩) rfl
    · have b12 : ¬ (ls ≤ a) := fun q => b12 ((nI_leI (by omega) ha).mpr q)
      refine v_iload_n 2 dX8_journal_15 rfl rfl ?_
      refine v_if_lt (tgt := 25) dX8_journal_16 (by decide) (fun b16 => ?_) (fun b16 => ?_)
      · exact v_throw hE.r htab th_IOB dX8_journal_25 dX8_journal_28 dX8_journal_29 dX8_journal_32 ⟨by decide, by decide, by decide, by decide⟩ () (⟨rfl, fun q => inR_neg (by omega) b16 q.2⟩) rfl
      · obtain ⟨v, hv, ev⟩ := nI_of b16
        subst ev
        refine v_iload_n 2 dX8_journal_19 rfl rfl ?_
        refine v_bipush (v := nI 6) dX8_journal_20 (by decide) ?_
        refine v_icmp_le (tgt := 33) dX8_journal_22 (by decide) (fun b22 => ?_) (fun b22 => ?_)
        · have b22 : v ≤ 6 := (nI_leI hv (by decide)).mp b22
          refine v_aload_n 0 dX8_journal_33 rfl rfl ?_
          refine v_get f_SampleDesk_53 0 rfl rfl dX8_journal_34 ?_
          refine v_iload_n 1 dX8_journal_37 rfl rfl ?_
          refine v_iload_n 2 dX8_journal_38 rfl rfl ?_
          refine v_callV (as := [.int (nI a), .int (nI v)]) (rest := []) (ws' := fun u => [(x, .inr (8, [.ref ta, .ref tq, .ref sa, .ref oo, .ref lo, .ref sg, .ref ia, .int ic, .int lb])), (lo, .inr (2, [.ref lc, .int (nI nx), .int (nI ls), .int (nI dw)])), (lc, .inl (cJ, 800, .inr (.inl g)))]) m_SampleDesk_171 (kX2_cell X.l (lo := lo) (lc := lc) (nx := nx) (ls := ls) (dw := dw) (i := a) (wh := v) (g := g) hnx hls (by omega) (by omega)) k_code_X2_cell [1, 2] 1 rfl rfl rfl rfl dX8_journal_39 (Nat.le_of_ble_eq_true rfl) ⟨rfl, rfl, by decide, by decide⟩ ⟨Nat.zero_le _, Nat.zero_le _⟩ rfl rfl (fun _ => rfl) (v_mgU rfl (fun _ => rfl)) ?_
          intro uu c39
          try dsimp only at c39
          show V (gG D cI cJ cT) X (rmX 6) cX8_journal 3 RX8 [(x, .inr (8, [.ref ta, .ref tq, .ref sa, .ref oo, .ref lo, .ref sg, .ref ia, .int ic, .int lb])), (lo, .inr (2, [.ref lc, .int (nI nx), .int (nI ls), .int (nI dw)])), (lc, .inl (cJ, 800, .inr (.inl g)))] 0 0 [(0, .ref x), (1, .int (nI a)), (2, .int (nI v))] 42 [.long (g ((nx + 100 - ls + a) % 100 * 8 + v))]
          exact v_lretX hE (Nat.zero_le _) (Nat.zero_le _) dX8_journal_42 (a, v) (⟨by omega, rfl, by omega, rfl⟩) rfl rfl
        · have b22 : ¬ (v ≤ 6) := fun q => b22 ((nI_leI hv (by decide)).mpr q)
          exact v_throw hE.r htab th_IOB dX8_journal_25 dX8_journal_28 dX8_journal_29 dX8_journal_32 ⟨by decide, by decide, by decide, by decide⟩ () (⟨rfl, fun q => absurd ((inR_nI hv (by omega)).mp q.2) (by omega)⟩) rfl
set_option maxRecDepth 100000 in
set_option maxHeartbeats 4000000 in
theorem kX8_weight {D : va_G} {cI cJ cT : ClassId} (l : Launch) {x ta tq sa oo lo sg ia tb wq sq pq rq : Nat} (hst : l.stackTraces = false) {ic lb : Int32} {tf : Nat → Option Nat} {z : Nat} {t : Int32} {mI : Int32} {tp sm : Nat} {gw : Nat → Int32} {i wt : Int32} (hx : ∀ a, a < 8 → t = nI a → a = z) (htf : tf z = some tb) : FnX (S := Nat) (SX := Unit) (gG D cI cJ cT) l yX8_weight (.code yX8_weight cX8_weight 4 (some .int)) (rmX 6) [.ref x, .int t, .int i, .int wt] [(x, .inr (8, [.ref ta, .ref tq, .ref sa, .ref oo, .ref lo, .ref sg, .ref ia, .int ic, .int lb])), (tq, .inl (cT, 8, .inr (.inr (.inr (.inr tf))))), (tb, .inr (6, [.ref wq, .ref sq, .ref pq, .ref rq, .int mI, .int (nI tp), .long (lN sm)])), (wq, .inl (cI, 64, .inl gw))] (fun u => inR t 8 ∧ u < 64 ∧ i = nI u ∧ ¬ wt < 0) (fun u => some (.int (gw u))) (fun u => [(x, .inr (8, [.ref ta, .ref tq, .ref sa, .ref oo, .ref lo, .ref sg, .ref ia, .int ic, .int lb])), (tq, .inl (cT, 8, .inr (.inr (.inr (.inr tf))))), (tb, .inr (6, [.ref wq, .ref sq, .ref pq, .ref rq, .int (-1), .int (nI tp), .long (lN sm)])), (wq, .inl (cI, 64, .inl (upd gw u wt)))]) (fun E _ => (E = "java/lang/IndexOutOfBoundsException" ∧ ¬ (inR t 8 ∧ inR i 64)) ∨ (E = "java/lang/IllegalArgumentException" ∧ (inR t 8 ∧ inR i 64) ∧ wt < 0)) (fun u => [(x, .inr (8, [.ref ta, .ref tq, .ref sa, .ref oo, .ref lo, .ref sg, .ref ia, .int ic, .int lb])), (tq, .inl (cT, 8, .inr (.inr (.inr (.inr tf))))), (tb, .inr (6, [.ref wq, .ref sq, .ref pq, .ref rq, .int mI, .int (nI tp), .long (lN sm)])), (wq, .inl (cI, 64, .inl gw))]) := by
  refine FnX.intro (by decide) (Nat.le_of_ble_eq_true rfl) hst ?_
  intro X hX hE htab
  subst hX
  show V (gG D cI cJ cT) X _ cX8_weight 4 RX8 _ 0 0 [(0, .ref x), (1, .int t), (2, .int i), (3, .int wt)] 0 []
  refine v_iload_n 1 dX8_weight_0 rfl rfl ?_
  refine v_callS (as := [.int t]) (rest := []) (ws' := fun u => [(x, .inr (8, [.ref ta, .ref tq, .ref sa, .ref oo, .ref lo, .ref sg, .ref ia, .int ic, .int lb])), (tq, .inl (cT, 8, .inr (.inr (.inr (.inr tf))))), (tb, .inr (6, [.ref wq, .ref sq, .ref pq, .ref rq, .int mI, .int (nI tp), .long (lN sm)])), (wq, .inl (cI, 64, .inl gw))]) m_SampleDesk_94 (kX8_isNoTable X.l (t := t)) k_code_X8_isNoTable [] rfl rfl dX8_weight_1 (Nat.le_of_ble_eq_true rfl) ⟨rfl, rfl, by decide, by decide⟩ ⟨Nat.zero_le _, Nat.zero_le _⟩ rfl rfl (fun _ => rfl) (v_mgU rfl (fun _ => rfl)) ?_
  intro uu c1
  try dsimp only at c1
  show V (gG D cI cJ cT) X (rmX 6) cX8_weight 4 RX8 [(x, .inr (8, [.ref ta, .ref tq, .ref sa, .ref oo, .ref lo, .ref sg, .ref ia, .int ic, .int lb])), (tq, .inl (cT, 8, .inr (.inr (.inr (.inr tf))))), (tb, .inr (6, [.ref wq, .ref sq, .ref pq, .ref rq, .int mI, .int (nI tp), .long (lN sm)])), (wq, .inl (cI, 64, .inl gw))] 0 0 [(0, .ref x), (1, .int t), (2, .int i), (3, .int wt)] 4 [.int (dI (noT t))]
  refine v_if_ne (tgt := 17) dX8_weight_4 (by decide) (fun b4 => ?_) (fun b4 => ?_)
  · have b4 : ¬ (noT t = false) := fun q => b4 ((dI_0 _).mpr q)
    exact v_throw hE.r htab th_IOB dX8_weight_17 dX8_weight_20 dX8_weight_21 dX8_weight_24 ⟨by decide, by decide, by decide, by decide⟩ () (Or.inl ⟨rfl, fun q => noT_t (by simpa using b4) q.1⟩) rfl
  · have b4 : noT t = false := (dI_0 _).mp b4
    obtain ⟨y, hy, ey⟩ := noT_f b4
    subst ey
    have exy := hx y hy rfl
    rw [← exy] at htf
    refine v_iload_n 2 dX8_weight_7 rfl rfl ?_
    refine v_if_lt (tgt := 17) dX8_weight_8 (by decide) (fun b8 => ?_) (fun b8 => ?_)
    · exact v_throw hE.r htab th_IOB dX8_weight_17 dX8_weight_20 dX8_weight_21 dX8_weight_24 ⟨by decide, by decide, by decide, by decide⟩ () (Or.inl ⟨rfl, fun q => inR_neg (by omega) b8 q.2⟩) rfl
    · obtain ⟨v, hv, ev⟩ := nI_of b8
      subst ev
      refine v_iload_n 2 dX8_weight_11 rfl rfl ?_
      refine v_bipush (v := nI 64) dX8_weight_12 (by decide) ?_
      refine v_icmp_lt (tgt := 25) dX8_weight_14 (by decide) (fun b14 => ?_) (fun b14 => ?_)
      · have b14 : v < 64 := (nI_ltI hv (by decide)).mp b14
        refine v_iload_n 3 dX8_weight_25 rfl rfl ?_
        refine v_if_ge (tgt := 37) dX8_weight_26 (by decide) (fun b26 => ?_) (fun b26 => ?_)
        · refine v_aload_n 0 dX8_weight_37 rfl rfl ?_
          refine v_get f_SampleDesk_22 0 rfl rfl dX8_weight_38 ?_
          refine v_iload_n 1 dX8_weight_41 rfl rfl ?_
          refine v_aald 2 1 rfl rfl (by omega) (by omega) dX8_weight_42 ?_
          refine v_top (y := .ref tb) (by rw [htf]; rfl) ?_
          refine v_iload_n 2 dX8_weight_43 rfl rfl ?_
          refine v_iload_n 3 dX8_weight_44 rfl rfl ?_
          refine v_callV (as := [.int (nI v), .int wt]) (rest := []) (ws' := fun u => [(x, .inr (8, [.ref ta, .ref tq, .ref sa, .ref oo, .ref lo, .ref sg, .ref ia, .int ic, .int lb])), (tq, .inl (cT, 8, .inr (.inr (.inr (.inr tf))))), (tb, .inr (6, [.ref wq, .ref sq, .ref pq, .ref rq, .int (-1), .int (nI tp), .long (lN sm)])), (wq, .inl (cI, 64, .inl (upd gw v wt)))]) m_SampleDesk_98 (kX6_exchangeWeight X.l (tb := tb) (wq := wq) (sq := sq) (pq := pq) (rq := rq) (m := mI) (tp := tp) (sm := sm) (i := v) (gw := gw) (nw := wt) b14) k_code_X6_exchangeWeight [2, 3] 2 rfl rfl rfl rfl dX8_weight_45 (Nat.le_of_ble_eq_true rfl) ⟨rfl, rfl, by decide, by decide⟩ ⟨Nat.zero_le _, Nat.zero_le _⟩ rfl rfl (fun _ => rfl) (v_mgU rfl (fun _ => rfl)) ?_
          intro uu c45
          try dsimp only at c45
          show V (gG D cI cJ cT) X (rmX 6) cX8_weight 4 RX8 [(x, .inr (8, [.ref ta, .ref tq, .ref sa, .ref oo, .ref lo, .ref sg, .ref ia, .int ic, .int lb])), (tq, .inl (cT, 8, .inr (.inr (.inr (.inr tf))))), (tb, .inr (6, [.ref wq, .ref sq, .ref pq, .ref rq, .int (-1), .int (nI tp), .long (lN sm)])), (wq, .inl (cI, 64, .inl (upd gw v wt)))] 0 0 [(0, .ref x), (1, .int (nI y)), (2, .int (nI v)), (3, .int wt)] 48 [.int (gw v)]
          exact v_iretX hE (Nat.zero_le _) (Nat.zero_le _) dX8_weight_48 v (⟨⟨y, hy, rfl⟩, b14, rfl, fun q => absurd (show (0 : Int32) ≤ wt from b26) (Int32.not_le.mpr q)⟩) rfl rfl
        · exact v_throw hE.r htab th_IAE dX8_weight_29 dX8_weight_32 dX8_weight_33 dX8_weight_36 ⟨by decide, by decide, by decide, by decide⟩ () (Or.inr ⟨rfl, ⟨⟨y, hy, rfl⟩, ⟨v, b14, rfl⟩⟩, Int32.not_le.mp b26⟩) rfl
      · have b14 : ¬ (v < 64) := fun q => b14 ((nI_ltI hv (by decide)).mpr q)
        exact v_throw hE.r htab th_IOB dX8_weight_17 dX8_weight_20 dX8_weight_21 dX8_weight_24 ⟨by decide, by decide, by decide, by decide⟩ () (Or.inl ⟨rfl, fun q => b14 ((inR_nI hv (by omega)).mp q.2)⟩) rfl
set_option maxRecDepth 100000 in
set_option maxHeartbeats 4000000 in
theorem kX8_build {D : va_G} {cI cJ cT : ClassId} (l : Launch) {x ta tq sa oo lo sg ia tb wq sq pq rq : Nat} (hst : l.stackTraces = false) {ic lb : Int32} {tf : Nat → Option Nat} {z : Nat} {t : Int32} {mI : Int32} {tp sm : Nat} {gw gs gp : Nat → Int32} {gr : Nat → Int64} {W : Nat → Nat} {mt : Int32} (hx : ∀ a, a < 8 → t = nI a → a = z) (htf : tf z = some tb) (hW : ∀ x, x < 64 → gw x = nI (W x)) (hWb : ∀ x, x < 64 → W x < 2 ^ 31) : FnX (S := Nat × (Nat → Int32) × (Nat → Int32) × (Nat → Int64)) (SX := Unit) (gG D cI cJ cT) l yX8_build (.code yX8_build cX8_build 3 (some .long)) (rmX 6) [.ref x, .int t, .int mt] [(x, .inr (8, [.ref ta, .ref tq, .ref sa, .ref oo, .ref lo, .ref sg, .ref ia, .int ic, .int lb])), (tq, .inl (cT, 8, .inr (.inr (.inr (.inr tf))))), (tb, .inr (6, [.ref wq, .ref sq, .ref pq, .ref rq, .int mI, .int (nI tp), .long (lN sm)])), (wq, .inl (cI, 64, .inl gw)), (sq, .inl (cI, 64, .inl gs)), (pq, .inl (cI, 64, .inl gp)), (rq, .inl (cJ, 64, .inr (.inl gr)))] (fun u => inR t 8 ∧ u.1 ≤ 1 ∧ mt = nI u.1 ∧ ¬ sumN W 64 = 0 ∧ (u.1 = 0 → u.2 = (gs, gp, gr)) ∧ (u.1 = 1 → (∀ x, x < (topN W 64) → u.2.2.2 x = lN ((alS W (topN W 64) (sumN W 64)).1 x)) ∧ ∀ x, x < (topN W 64) → u.2.2.1 x = nI ((alS W (topN W 64) (sumN W 64)).2 x))) (fun u => some (.long (lN (sumN W 64)))) (fun u => [(x, .inr (8, [.ref ta, .ref tq, .ref sa, .ref oo, .ref lo, .ref sg, .ref ia, .int ic, .int lb])), (tq, .inl (cT, 8, .inr (.inr (.inr (.inr tf))))), (tb, .inr (6, [.ref wq, .ref sq, .ref pq, .ref rq, .int (nI u.1), .int (nI (topN W 64)), .long (lN (sumN W 64))])), (wq, .inl (cI, 64, .inl gw)), (sq, .inl (cI, 64, .inl u.2.1)), (pq, .inl (cI, 64, .inl u.2.2.1)), (rq, .inl (cJ, 64, .inr (.inl u.2.2.2)))]) (fun E _ => (E = "java/lang/IndexOutOfBoundsException" ∧ ¬ inR t 8) ∨ (E = "java/lang/IllegalArgumentException" ∧ inR t 8 ∧ ¬ mt = nI 0 ∧ ¬ mt = nI 1) ∨ (E = "java/lang/IllegalStateException" ∧ inR t 8 ∧ (mt = nI 0 ∨ mt = nI 1) ∧ sumN W 64 = 0)) (fun u => [(x, .inr (8, [.ref ta, .ref tq, .ref sa, .ref oo, .ref lo, .ref sg, .ref ia, .int ic, .int lb])), (tq, .inl (cT, 8, .inr (.inr (.inr (.inr tf))))), (tb, .inr (6, [.ref wq, .ref sq, .ref pq, .ref rq, .int mI, .int (nI tp), .long (lN sm)])), (wq, .inl (cI, 64, .inl gw)), (sq, .inl (cI, 64, .inl gs)), (pq, .inl (cI, 64, .inl gp)), (rq, .inl (cJ, 64, .inr (.inl gr)))]) := by
  refine FnX.intro (by decide) (Nat.le_of_ble_eq_true rfl) hst ?_
  intro X hX hE htab
  subst hX
  show V (gG D cI cJ cT) X _ cX8_build 3 RX8 _ 0 0 [(0, .ref x), (1, .int t), (2, .int mt)] 0 []
  refine v_iload_n 1 dX8_build_0 rfl rfl ?_
  refine v_callS (as := [.int t]) (rest := []) (ws' := fun u => [(x, .inr (8, [.ref ta, .ref tq, .ref sa, .ref oo, .ref lo, .ref sg, .ref ia, .int ic, .int lb])), (tq, .inl (cT, 8, .inr (.inr (.inr (.inr tf))))), (tb, .inr (6, [.ref wq, .ref sq, .ref pq, .ref rq, .int mI, .int (nI tp), .long (lN sm)])), (wq, .inl (cI, 64, .inl gw)), (sq, .inl (cI, 64, .inl gs)), (pq, .inl (cI, 64, .inl gp)), (rq, .inl (cJ, 64, .inr (.inl gr)))]) m_SampleDesk_94 (kX8_isNoTable X.l (t := t)) k_code_X8_isNoTable [] rfl rfl dX8_build_1 (Nat.le_of_ble_eq_true rfl) ⟨rfl, rfl, by decide, by decide⟩ ⟨Nat.zero_le _, Nat.zero_le _⟩ rfl rfl (fun _ => rfl) (v_mgU rfl (fun _ => rfl)) ?_
  intro uu c1
  try dsimp only at c1
  show V (gG D cI cJ cT) X (rmX 6) cX8_build 3 RX8 [(x, .inr (8, [.ref ta, .ref tq, .ref sa, .ref oo, .ref lo, .ref sg, .ref ia, .int ic, .int lb])), (tq, .inl (cT, 8, .inr (.inr (.inr (.inr tf))))), (tb, .inr (6, [.ref wq, .ref sq, .ref pq, .ref rq, .int mI, .int (nI tp), .long (lN sm)])), (wq, .inl (cI, 64, .inl gw)), (sq, .inl (cI, 64, .inl gs)), (pq, .inl (cI, 64, .inl gp)), (rq, .inl (cJ, 64, .inr (.inl gr)))] 0 0 [(0, .ref x), (1, .int t), (2, .int mt)] 4 [.int (dI (noT t))]
  refine v_if_eq (tgt := 15) dX8_build_4 (by decide) (fun b4 => ?_) (fun b4 => ?_)
  · have b4 : noT t = false := (dI_0 _).mp b4
    obtain ⟨y, hy, ey⟩ := noT_f b4
    subst ey
    have exy := hx y hy rfl
    rw [← exy] at htf
    refine v_iload_n 2 dX8_build_15 rfl rfl ?_
    refine v_if_eq (tgt := 32) dX8_build_16 (by decide) (fun b16 => ?_) (fun b16 => ?_)
    · subst b16
      refine v_aload_n 0 dX8_build_32 rfl rfl ?_
      refine v_get f_SampleDesk_22 0 rfl rfl dX8_build_33 ?_
      refine v_iload_n 1 dX8_build_36 rfl rfl ?_
      refine v_aald 2 1 rfl rfl (by omega) (by omega) dX8_build_37 ?_
      refine v_top (y := .ref tb) (by rw [htf]; rfl) ?_
      refine v_callV (as := []) (rest := []) (ws' := fun u => [(x, .inr (8, [.ref ta, .ref tq, .ref sa, .ref oo, .ref lo, .ref sg, .ref ia, .int ic, .int lb])), (tq, .inl (cT, 8, .inr (.inr (.inr (.inr tf))))), (tb, .inr (6, [.ref wq, .ref sq, .ref pq, .ref rq, .int mI, .int (nI tp), .long (lN sm)])), (wq, .inl (cI, 64, .inl gw)), (sq, .inl (cI, 64, .inl gs)), (pq, .inl (cI, 64, .inl gp)), (rq, .inl (cJ, 64, .inr (.inl gr)))]) m_SampleDesk_101 (kX6_sumOfWeights X.l (tb := tb) (wq := wq) (sq := sq) (pq := pq) (rq := rq) (m := mI) (tp := tp) (sm := sm) (gw := gw) (W := W) hW hWb) k_code_X6_sumOfWeights [2, 3] 2 rfl rfl rfl rfl dX8_build_38 (Nat.le_of_ble_eq_true rfl) ⟨rfl, rfl, by decide, by decide⟩ ⟨Nat.zero_le _, Nat.zero_le _⟩ rfl rfl (fun _ => rfl) (v_mgU rfl (fun _ => rfl)) ?_
      intro uu c38
      try dsimp only at c38
      show V (gG D cI cJ cT) X (rmX 6) cX8_build 3 RX8 [(x, .inr (8, [.ref ta, .ref tq, .ref sa, .ref oo, .ref lo, .ref sg, .ref ia, .int ic, .int lb])), (tq, .inl (cT, 8, .inr (.inr (.inr (.inr tf))))), (tb, .inr (6, [.ref wq, .ref sq, .ref pq, .ref rq, .int mI, .int (nI tp), .long (lN sm)])), (wq, .inl (cI, 64, .inl gw)), (sq, .inl (cI, 64, .inl gs)), (pq, .inl (cI, 64, .inl gp)), (rq, .inl (cJ, 64, .inr (.inl gr)))] 0 0 [(0, .ref x), (1, .int (nI y)), (2, .int (nI 0))] 41 [.long (lN (sumN W 64))]
      refine v_lconst (v := lN 0) dX8_build_41 (by decide) ?_
      refine v_lcmp dX8_build_42 ?_
      refine v_if_ne (tgt := 54) dX8_build_43 (by decide) (fun b43 => ?_) (fun b43 => ?_)
      · have b43 : ¬ (sumN W 64 = 0) := fun q => b43 ((z_eq (by have := sumN_le (M := 2 ^ 31) 64 (fun x hx => Nat.le_of_lt (hWb x hx)); omega) (by decide)).mpr q)
        refine v_aload_n 0 dX8_build_54 rfl rfl ?_
        refine v_get f_SampleDesk_22 0 rfl rfl dX8_build_55 ?_
        refine v_iload_n 1 dX8_build_58 rfl rfl ?_
        refine v_aald 2 1 rfl rfl (by omega) (by omega) dX8_build_59 ?_
        refine v_top (y := .ref tb) (by rw [htf]; rfl) ?_
        refine v_iload_n 2 dX8_build_60 rfl rfl ?_
        refine v_callV (as := [.int (nI 0)]) (rest := []) (ws' := fun u => [(x, .inr (8, [.ref ta, .ref tq, .ref sa, .ref oo, .ref lo, .ref sg, .ref ia, .int ic, .int lb])), (tq, .inl (cT, 8, .inr (.inr (.inr (.inr tf))))), (tb, .inr (6, [.ref wq, .ref sq, .ref pq, .ref rq, .int (nI 0), .int (nI (topN W 64)), .long (lN (sumN W 64))])), (wq, .inl (cI, 64, .inl gw)), (sq, .inl (cI, 64, .inl u.1)), (pq, .inl (cI, 64, .inl u.2.1)), (rq, .inl (cJ, 64, .inr (.inl u.2.2)))]) m_SampleDesk_105 (kX6_prepare X.l (tb := tb) (wq := wq) (sq := sq) (pq := pq) (rq := rq) (m := mI) (tp := tp) (sm := sm) (gw := gw) (gs := gs) (gp := gp) (gr := gr) (W := W) (mm := 0) hW hWb (by decide)) k_code_X6_prepare [2, 3, 4, 5, 6] 2 rfl rfl rfl rfl dX8_build_61 (Nat.le_of_ble_eq_true rfl) ⟨rfl, rfl, by decide, by decide⟩ ⟨Nat.zero_le _, Nat.zero_le _⟩ rfl rfl (fun _ => rfl) (v_mgU rfl (fun _ => rfl)) ?_
        intro u61 c61
        obtain ⟨g1, g2, g3⟩ := u61
        try dsimp only at c61
        show V (gG D cI cJ cT) X (rmX 6) cX8_build 3 RX8 [(x, .inr (8, [.ref ta, .ref tq, .ref sa, .ref oo, .ref lo, .ref sg, .ref ia, .int ic, .int lb])), (tq, .inl (cT, 8, .inr (.inr (.inr (.inr tf))))), (tb, .inr (6, [.ref wq, .ref sq, .ref pq, .ref rq, .int (nI 0), .int (nI (topN W 64)), .long (lN (sumN W 64))])), (wq, .inl (cI, 64, .inl gw)), (sq, .inl (cI, 64, .inl g1)), (pq, .inl (cI, 64, .inl g2)), (rq, .inl (cJ, 64, .inr (.inl g3)))] 0 0 [(0, .ref x), (1, .int (nI y)), (2, .int (nI 0))] 64 []
        refine v_aload_n 0 dX8_build_64 rfl rfl ?_
        refine v_get f_SampleDesk_22 0 rfl rfl dX8_build_65 ?_
        refine v_iload_n 1 dX8_build_68 rfl rfl ?_
        refine v_aald 2 1 rfl rfl (by omega) (by omega) dX8_build_69 ?_
        refine v_top (y := .ref tb) (by rw [htf]; rfl) ?_
        refine v_get f_SampleDesk_108 2 rfl rfl dX8_build_70 ?_
        exact v_lretX hE (Nat.zero_le _) (Nat.zero_le _) dX8_build_73 (0, g1, g2, g3) (⟨⟨y, hy, rfl⟩, Nat.le_of_ble_eq_true rfl, rfl, b43, c61⟩) rfl rfl
      · have b43 : sumN W 64 = 0 := (z_eq (by have := sumN_le (M := 2 ^ 31) 64 (fun x hx => Nat.le_of_lt (hWb x hx)); omega) (by decide)).mp b43
        exact v_throw hE.r htab th_ISE dX8_build_46 dX8_build_49 dX8_build_50 dX8_build_53 ⟨by decide, by decide, by decide, by decide⟩ () (Or.inr (Or.inr ⟨rfl, ⟨y, hy, rfl⟩, by first | exact Or.inl rfl | exact Or.inr rfl, b43⟩)) rfl
    · refine v_iload_n 2 dX8_build_19 rfl rfl ?_
      refine v_iconst (v := nI 1) dX8_build_20 (by decide) ?_
      refine v_icmp_eq (tgt := 32) dX8_build_21 (by decide) (fun b21 => ?_) (fun b21 => ?_)
      · subst b21
        refine v_aload_n 0 dX8_build_32 rfl rfl ?_
        refine v_get f_SampleDesk_22 0 rfl rfl dX8_build_33 ?_
        refine v_iload_n 1 dX8_build_36 rfl rfl ?_
        refine v_aald 2 1 rfl rfl (by omega) (by omega) dX8_build_37 ?_
        refine v_top (y := .ref tb) (by rw [htf]; rfl) ?_
        refine v_callV (as := []) (rest := []) (ws' := fun u => [(x, .inr (8, [.ref ta, .ref tq, .ref sa, .ref oo, .ref lo, .ref sg, .ref ia, .int ic, .int lb])), (tq, .inl (cT, 8, .inr (.inr (.inr (.inr tf))))), (tb, .inr (6, [.ref wq, .ref sq, .ref pq, .ref rq, .int mI, .int (nI tp), .long (lN sm)])), (wq, .inl (cI, 64, .inl gw)), (sq, .inl (cI, 64, .inl gs)), (pq, .inl (cI, 64, .inl gp)), (rq, .inl (cJ, 64, .inr (.inl gr)))]) m_SampleDesk_101 (kX6_sumOfWeights X.l (tb := tb) (wq := wq) (sq := sq) (pq := pq) (rq := rq) (m := mI) (tp := tp) (sm := sm) (gw := gw) (W := W) hW hWb) k_code_X6_sumOfWeights [2, 3] 2 rfl rfl rfl rfl dX8_build_38 (Nat.le_of_ble_eq_true rfl) ⟨rfl, rfl, by decide, by decide⟩ ⟨Nat.zero_le _, Nat.zero_le _⟩ rfl rfl (fun _ => rfl) (v_mgU rfl (fun _ => rfl)) ?_
        intro uu c38
        try dsimp only at c38
        show V (gG D cI cJ cT) X (rmX 6) cX8_build 3 RX8 [(x, .inr (8, [.ref ta, .ref tq, .ref sa, .ref oo, .ref lo, .ref sg, .ref ia, .int ic, .int lb])), (tq, .inl (cT, 8, .inr (.inr (.inr (.inr tf))))), (tb, .inr (6, [.ref wq, .ref sq, .ref pq, .ref rq, .int mI, .int (nI tp), .long (lN sm)])), (wq, .inl (cI, 64, .inl gw)), (sq, .inl (cI, 64, .inl gs)), (pq, .inl (cI, 64, .inl gp)), (rq, .inl (cJ, 64, .inr (.inl gr)))] 0 0 [(0, .ref x), (1, .int (nI y)), (2, .int (nI 1))] 41 [.long (lN (sumN W 64))]
        refine v_lconst (v := lN 0) dX8_build_41 (by decide) ?_
        refine v_lcmp dX8_build_42 ?_
        refine v_if_ne (tgt := 54) dX8_build_43 (by decide) (fun b43 => ?_) (fun b43 => ?_)
        · have b43 : ¬ (sumN W 64 = 0) := fun q => b43 ((z_eq (by have := sumN_le (M := 2 ^ 31) 64 (fun x hx => Nat.le_of_lt (hWb x hx)); omega) (by decide)).mpr q)
          refine v_aload_n 0 dX8_build_54 rfl rfl ?_
          refine v_get f_SampleDesk_22 0 rfl rfl dX8_build_55 ?_
          refine v_iload_n 1 dX8_build_58 rfl rfl ?_
          refine v_aald 2 1 rfl rfl (by omega) (by omega) dX8_build_59 ?_
          refine v_top (y := .ref tb) (by rw [htf]; rfl) ?_
          refine v_iload_n 2 dX8_build_60 rfl rfl ?_
          refine v_callV (as := [.int (nI 1)]) (rest := []) (ws' := fun u => [(x, .inr (8, [.ref ta, .ref tq, .ref sa, .ref oo, .ref lo, .ref sg, .ref ia, .int ic, .int lb])), (tq, .inl (cT, 8, .inr (.inr (.inr (.inr tf))))), (tb, .inr (6, [.ref wq, .ref sq, .ref pq, .ref rq, .int (nI 1), .int (nI (topN W 64)), .long (lN (sumN W 64))])), (wq, .inl (cI, 64, .inl gw)), (sq, .inl (cI, 64, .inl u.1)), (pq, .inl (cI, 64, .inl u.2.1)), (rq, .inl (cJ, 64, .inr (.inl u.2.2)))]) m_SampleDesk_105 (kX6_prepare X.l (tb := tb) (wq := wq) (sq := sq) (pq := pq) (rq := rq) (m := mI) (tp := tp) (sm := sm) (gw := gw) (gs := gs) (gp := gp) (gr := gr) (W := W) (mm := 1) hW hWb (by decide)) k_code_X6_prepare [2, 3, 4, 5, 6] 2 rfl rfl rfl rfl dX8_build_61 (Nat.le_of_ble_eq_true rfl) ⟨rfl, rfl, by decide, by decide⟩ ⟨Nat.zero_le _, Nat.zero_le _⟩ rfl rfl (fun _ => rfl) (v_mgU rfl (fun _ => rfl)) ?_
          intro u61 c61
          obtain ⟨g1, g2, g3⟩ := u61
          try dsimp only at c61
          show V (gG D cI cJ cT) X (rmX 6) cX8_build 3 RX8 [(x, .inr (8, [.ref ta, .ref tq, .ref sa, .ref oo, .ref lo, .ref sg, .ref ia, .int ic, .int lb])), (tq, .inl (cT, 8, .inr (.inr (.inr (.inr tf))))), (tb, .inr (6, [.ref wq, .ref sq, .ref pq, .ref rq, .int (nI 1), .int (nI (topN W 64)), .long (lN (sumN W 64))])), (wq, .inl (cI, 64, .inl gw)), (sq, .inl (cI, 64, .inl g1)), (pq, .inl (cI, 64, .inl g2)), (rq, .inl (cJ, 64, .inr (.inl g3)))] 0 0 [(0, .ref x), (1, .int (nI y)), (2, .int (nI 1))] 64 []
          refine v_aload_n 0 dX8_build_64 rfl rfl ?_
          refine v_get f_SampleDesk_22 0 rfl rfl dX8_build_65 ?_
          refine v_iload_n 1 dX8_build_68 rfl rfl ?_
          refine v_aald 2 1 rfl rfl (by omega) (by omega) dX8_build_69 ?_
          refine v_top (y := .ref tb) (by rw [htf]; rfl) ?_
          refine v_get f_SampleDesk_108 2 rfl rfl dX8_build_70 ?_
          exact v_lretX hE (Nat.zero_le _) (Nat.zero_le _) dX8_build_73 (1, g1, g2, g3) (⟨⟨y, hy, rfl⟩, Nat.le_of_ble_eq_true rfl, rfl, b43, c61⟩) rfl rfl
        · have b43 : sumN W 64 = 0 := (z_eq (by have := sumN_le (M := 2 ^ 31) 64 (fun x hx => Nat.le_of_lt (hWb x hx)); omega) (by decide)).mp b43
          exact v_throw hE.r htab th_ISE dX8_build_46 dX8_build_49 dX8_build_50 dX8_build_53 ⟨by decide, by decide, by decide, by decide⟩ () (Or.inr (Or.inr ⟨rfl, ⟨y, hy, rfl⟩, by first | exact Or.inl rfl | exact Or.inr rfl, b43⟩)) rfl
      · exact v_throw hE.r htab th_IAE dX8_build_24 dX8_build_27 dX8_build_28 dX8_build_31 ⟨by decide, by decide, by decide, by decide⟩ () (Or.inr (Or.inl ⟨rfl, ⟨y, hy, rfl⟩, b16, b21⟩)) rfl
  · have b4 : ¬ (noT t = false) := fun q => b4 ((dI_0 _).mpr q)
    exact v_throw hE.r htab th_IOB dX8_build_7 dX8_build_10 dX8_build_11 dX8_build_14 ⟨by decide, by decide, by decide, by decide⟩ () (Or.inl ⟨rfl, noT_t (by simpa using b4)⟩) rfl
def alV (gp : Nat → Int32) (gr : Nat → Int64) (v q : Nat) : Int64 := if q = 0 then gr v else (gp v).toInt64
set_option maxRecDepth 100000 in
set_option maxHeartbeats 4000000 in
theorem kX8_alias {D : va_G} {cI cJ cT : ClassId} (l : Launch) {x ta tq sa oo lo sg ia tb wq sq pq rq : Nat} (hst : l.stackTraces = false) {ic lb : Int32} {tf : Nat → Option Nat} {z : Nat} {t : Int32} {mI : Int32} {tp sm : Nat} {gp : Nat → Int32} {gr : Nat → Int64} {i wh : Int32} (hx : ∀ a, a < 8 → t = nI a → a = z) (htf : tf z = some tb) (htp : tp ≤ 64) : FnX (S := Nat × Nat) (SX := Unit) (gG D cI cJ cT) l yX8_alias (.code yX8_alias cX8_alias 4 (some .long)) (rmX 6) [.ref x, .int t, .int i, .int wh] [(x, .inr (8, [.ref ta, .ref tq, .ref sa, .ref oo, .ref lo, .ref sg, .ref ia, .int ic, .int lb])), (tq, .inl (cT, 8, .inr (.inr (.inr (.inr tf))))), (tb, .inr (6, [.ref wq, .ref sq, .ref pq, .ref rq, .int mI, .int (nI tp), .long (lN sm)])), (pq, .inl (cI, 64, .inl gp)), (rq, .inl (cJ, 64, .inr (.inl gr)))] (fun u => inR t 8 ∧ mI = nI 1 ∧ u.1 < tp ∧ i = nI u.1 ∧ u.2 < 2 ∧ wh = nI u.2) (fun u => some (.long (alV gp gr u.1 u.2))) (fun u => [(x, .inr (8, [.ref ta, .ref tq, .ref sa, .ref oo, .ref lo, .ref sg, .ref ia, .int ic, .int lb])), (tq, .inl (cT, 8, .inr (.inr (.inr (.inr tf))))), (tb, .inr (6, [.ref wq, .ref sq, .ref pq, .ref rq, .int mI, .int (nI tp), .long (lN sm)])), (pq, .inl (cI, 64, .inl gp)), (rq, .inl (cJ, 64, .inr (.inl gr)))]) (fun E _ => (E = "java/lang/IndexOutOfBoundsException" ∧ ¬ inR t 8) ∨ (E = "java/lang/IllegalStateException" ∧ inR t 8 ∧ ¬ mI = nI 1) ∨ (E = "java/lang/IndexOutOfBoundsException" ∧ inR t 8 ∧ mI = nI 1 ∧ ¬ (inR i tp ∧ inR wh 2))) (fun u => [(x, .inr (8, [.ref ta, .ref tq, .ref sa, .ref oo, .ref lo, .ref sg, .ref ia, .int ic, .int lb])), (tq, .inl (cT, 8, .inr (.inr (.inr (.inr tf))))), (tb, .inr (6, [.ref wq, .ref sq, .ref pq, .ref rq, .int mI, .int (nI tp), .long (lN sm)])), (pq, .inl (cI, 64, .inl gp)), (rq, .inl (cJ, 64, .inr (.inl gr)))]) := by
  refine FnX.intro (by decide) (Nat.le_of_ble_eq_true rfl) hst ?_
  intro X hX hE htab
  subst hX
  show V (gG D cI cJ cT) X _ cX8_alias 4 RX8 _ 0 0 [(0, .ref x), (1, .int t), (2, .int i), (3, .int wh)] 0 []
  refine v_iload_n 1 dX8_alias_0 rfl rfl ?_
  refine v_callS (as := [.int t]) (rest := []) (ws' := fun u => [(x, .inr (8, [.ref ta, .ref tq, .ref sa, .ref oo, .ref lo, .ref sg, .ref ia, .int ic, .int lb])), (tq, .inl (cT, 8, .inr (.inr (.inr (.inr tf))))), (tb, .inr (6, [.ref wq, .ref sq, .ref pq, .ref rq, .int mI, .int (nI tp), .long (lN sm)])), (pq, .inl (cI, 64, .inl gp)), (rq, .inl (cJ, 64, .inr (.inl gr)))]) m_SampleDesk_94 (kX8_isNoTable X.l (t := t)) k_code_X8_isNoTable [] rfl rfl dX8_alias_1 (Nat.le_of_ble_eq_true rfl) ⟨rfl, rfl, by decide, by decide⟩ ⟨Nat.zero_le _, Nat.zero_le _⟩ rfl rfl (fun _ => rfl) (v_mgU rfl (fun _ => rfl)) ?_
  intro uu c1
  try dsimp only at c1
  show V (gG D cI cJ cT) X (rmX 6) cX8_alias 4 RX8 [(x, .inr (8, [.ref ta, .ref tq, .ref sa, .ref oo, .ref lo, .ref sg, .ref ia, .int ic, .int lb])), (tq, .inl (cT, 8, .inr (.inr (.inr (.inr tf))))), (tb, .inr (6, [.ref wq, .ref sq, .ref pq, .ref rq, .int mI, .int (nI tp), .long (lN sm)])), (pq, .inl (cI, 64, .inl gp)), (rq, .inl (cJ, 64, .inr (.inl gr)))] 0 0 [(0, .ref x), (1, .int t), (2, .int i), (3, .int wh)] 4 [.int (dI (noT t))]
  refine v_if_eq (tgt := 15) dX8_alias_4 (by decide) (fun b4 => ?_) (fun b4 => ?_)
  · have b4 : noT t = false := (dI_0 _).mp b4
    obtain ⟨y, hy, ey⟩ := noT_f b4
    subst ey
    have exy := hx y hy rfl
    rw [← exy] at htf
    refine v_aload_n 0 dX8_alias_15 rfl rfl ?_
    refine v_get f_SampleDesk_22 0 rfl rfl dX8_alias_16 ?_
    refine v_iload_n 1 dX8_alias_19 rfl rfl ?_
    refine v_aald 2 1 rfl rfl (by omega) (by omega) dX8_alias_20 ?_
    refine v_top (y := .ref tb) (by rw [htf]; rfl) ?_
    refine v_get f_SampleDesk_112 2 rfl rfl dX8_alias_21 ?_
    refine v_iconst (v := nI 1) dX8_alias_24 (by decide) ?_
    refine v_icmp_eq (tgt := 36) dX8_alias_25 (by decide) (fun b25 => ?_) (fun b25 => ?_)
    · refine v_iload_n 2 dX8_alias_36 rfl rfl ?_
      refine v_if_lt (tgt := 62) dX8_alias_37 (by decide) (fun b37 => ?_) (fun b37 => ?_)
      · exact v_throw hE.r htab th_IOB dX8_alias_62 dX8_alias_65 dX8_alias_66 dX8_alias_69 ⟨by decide, by decide, by decide, by decide⟩ () (Or.inr (Or.inr ⟨rfl, ⟨y, hy, rfl⟩, b25, fun q => inR_neg (by omega) b37 q.1⟩)) rfl
      · obtain ⟨v, hv, ev⟩ := nI_of b37
        subst ev
        refine v_iload_n 2 dX8_alias_40 rfl rfl ?_
        refine v_aload_n 0 dX8_alias_41 rfl rfl ?_
        refine v_get f_SampleDesk_22 0 rfl rfl dX8_alias_42 ?_
        refine v_iload_n 1 dX8_alias_45 rfl rfl ?_
        refine v_aald 2 1 rfl rfl (by omega) (by omega) dX8_alias_46 ?_
        refine v_top (y := .ref tb) (by rw [htf]; rfl) ?_
        refine v_get f_SampleDesk_115 2 rfl rfl dX8_alias_47 ?_
        refine v_icmp_ge (tgt := 62) dX8_alias_50 (by decide) (fun b50 => ?_) (fun b50 => ?_)
        · have b50 : tp ≤ v := (nI_leI (by omega) hv).mp b50
          exact v_throw hE.r htab th_IOB dX8_alias_62 dX8_alias_65 dX8_alias_66 dX8_alias_69 ⟨by decide, by decide, by decide, by decide⟩ () (Or.inr (Or.inr ⟨rfl, ⟨y, hy, rfl⟩, b25, fun q => absurd ((inR_nI hv (by omega)).mp q.1) (by omega)⟩)) rfl
        · have b50 : ¬ (tp ≤ v) := fun q => b50 ((nI_leI (by omega) hv).mpr q)
          refine v_iload_n 3 dX8_alias_53 rfl rfl ?_
          refine v_if_lt (tgt := 62) dX8_alias_54 (by decide) (fun b54 => ?_) (fun b54 => ?_)
          · exact v_throw hE.r htab th_IOB dX8_alias_62 dX8_alias_65 dX8_alias_66 dX8_alias_69 ⟨by decide, by decide, by decide, by decide⟩ () (Or.inr (Or.inr ⟨rfl, ⟨y, hy, rfl⟩, b25, fun q => inR_neg (by omega) b54 q.2⟩)) rfl
          · obtain ⟨q, hq, eq⟩ := nI_of b54
            subst eq
            refine v_iload_n 3 dX8_alias_57 rfl rfl ?_
            refine v_iconst (v := nI 1) dX8_alias_58 (by decide) ?_
            refine v_icmp_le (tgt := 70) dX8_alias_59 (by decide) (fun b59 => ?_) (fun b59 => ?_)
            · have b59 : q ≤ 1 := (nI_leI hq (by decide)).mp b59
              refine v_iload_n 3 dX8_alias_70 rfl rfl ?_
              refine v_if_ne (tgt := 88) dX8_alias_71 (by decide) (fun b71 => ?_) (fun b71 => ?_)
              · have b71 : ¬ (q = 0) := fun q => b71 ((nI_eq hq (by decide)).mpr q)
                refine v_aload_n 0 dX8_alias_88 rfl rfl ?_
                refine v_get f_SampleDesk_22 0 rfl rfl dX8_alias_89 ?_
                refine v_iload_n 1 dX8_alias_92 rfl rfl ?_
                refine v_aald 2 1 rfl rfl (by omega) (by omega) dX8_alias_93 ?_
                refine v_top (y := .ref tb) (by rw [htf]; rfl) ?_
                refine v_get f_SampleDesk_122 2 rfl rfl dX8_alias_94 ?_
                refine v_iload_n 2 dX8_alias_97 rfl rfl ?_
                refine v_iald 0 3 rfl rfl (by omega) (by omega) dX8_alias_98 ?_
                refine v_i2l (v := (gp v).toInt64) dX8_alias_99 (rfl) ?_
                exact v_lretX hE (Nat.zero_le _) (Nat.zero_le _) dX8_alias_100 (v, q) (⟨⟨y, hy, rfl⟩, b25, by omega, rfl, by omega, rfl⟩) (by simp [alV, b71]) rfl
              · have b71 : q = 0 := (nI_eq hq (by decide)).mp b71
                refine v_aload_n 0 dX8_alias_74 rfl rfl ?_
                refine v_get f_SampleDesk_22 0 rfl rfl dX8_alias_75 ?_
                refine v_iload_n 1 dX8_alias_78 rfl rfl ?_
                refine v_aald 2 1 rfl rfl (by omega) (by omega) dX8_alias_79 ?_
                refine v_top (y := .ref tb) (by rw [htf]; rfl) ?_
                refine v_get f_SampleDesk_118 2 rfl rfl dX8_alias_80 ?_
                refine v_iload_n 2 dX8_alias_83 rfl rfl ?_
                refine v_lald 1 4 rfl rfl (by omega) (by omega) dX8_alias_84 ?_
                refine v_goto (tgt := 100) dX8_alias_85 (by decide) ?_
                exact v_lretX hE (Nat.zero_le _) (Nat.zero_le _) dX8_alias_100 (v, q) (⟨⟨y, hy, rfl⟩, b25, by omega, rfl, by omega, rfl⟩) (by simp [alV, b71]) rfl
            · have b59 : ¬ (q ≤ 1) := fun q => b59 ((nI_leI hq (by decide)).mpr q)
              exact v_throw hE.r htab th_IOB dX8_alias_62 dX8_alias_65 dX8_alias_66 dX8_alias_69 ⟨by decide, by decide, by decide, by decide⟩ () (Or.inr (Or.inr ⟨rfl, ⟨y, hy, rfl⟩, b25, fun q9 => absurd ((inR_nI hq (by omega)).mp q9.2) (by omega)⟩)) rfl
    · exact v_throw hE.r htab th_ISE dX8_alias_28 dX8_alias_31 dX8_alias_32 dX8_alias_35 ⟨by decide, by decide, by decide, by decide⟩ () (Or.inr (Or.inl ⟨rfl, ⟨y, hy, rfl⟩, b25⟩)) rfl
  · have b4 : ¬ (noT t = false) := fun q => b4 ((dI_0 _).mpr q)
    exact v_throw hE.r htab th_IOB dX8_alias_7 dX8_alias_10 dX8_alias_11 dX8_alias_14 ⟨by decide, by decide, by decide, by decide⟩ () (Or.inl ⟨rfl, noT_t (by simpa using b4)⟩) rfl
def cntV (wh sz pl lt ls dw : Nat) : Nat := match wh with | 0 => sz | 1 => pl | 2 => lt | 3 => ls | _ => dw
set_option maxRecDepth 100000 in
set_option maxHeartbeats 4000000 in
theorem kX8_count_0 {D : va_G} {cI cJ cT : ClassId} (l : Launch) {x ta tq sa oo lo sg ia w lc : Nat} {ic : Int32} {sz pl lt nx ls dw : Nat} : Fn (S := Unit) (gG D cI cJ cT) l yX8_count (.code yX8_count cX8_count 2 (some .int)) (rmD 0) [.ref x, .int (nI 0)] [(x, .inr (8, [.ref ta, .ref tq, .ref sa, .ref oo, .ref lo, .ref sg, .ref ia, .int ic, .int (nI lt)])), (ta, .inr (7, [.ref w, .int (nI sz), .int (nI pl)])), (lo, .inr (2, [.ref lc, .int (nI nx), .int (nI ls), .int (nI dw)]))] (fun _ => True) (fun u => some (.int (nI (cntV 0 sz pl lt ls dw)))) (fun u => [(x, .inr (8, [.ref ta, .ref tq, .ref sa, .ref oo, .ref lo, .ref sg, .ref ia, .int ic, .int (nI lt)])), (ta, .inr (7, [.ref w, .int (nI sz), .int (nI pl)])), (lo, .inr (2, [.ref lc, .int (nI nx), .int (nI ls), .int (nI dw)]))]) := by
  refine Fn.intro (by decide) (Nat.le_of_ble_eq_true rfl) ?_
  intro X hX hE hin
  subst hX
  show V (gG D cI cJ cT) X _ cX8_count 2 RX8 _ 0 0 [(0, .ref x), (1, .int (nI 0))] 0 []
  refine v_iload_n 1 dX8_count_0 rfl rfl ?_
  refine v_tableIn (off := 35) (tgt := 36) dX8_count_1 (by decide) (by decide) (by decide) (by decide) ?_
  refine v_aload_n 0 dX8_count_36 rfl rfl ?_
  refine v_get f_SampleDesk_18 0 rfl rfl dX8_count_37 ?_
  refine v_get f_SampleDesk_71 1 rfl rfl dX8_count_40 ?_
  exact v_iret hE dX8_count_43 () (trivial) rfl rfl
set_option maxRecDepth 100000 in
set_option maxHeartbeats 4000000 in
theorem kX8_count_1 {D : va_G} {cI cJ cT : ClassId} (l : Launch) {x ta tq sa oo lo sg ia w lc : Nat} {ic : Int32} {sz pl lt nx ls dw : Nat} : Fn (S := Unit) (gG D cI cJ cT) l yX8_count (.code yX8_count cX8_count 2 (some .int)) (rmD 0) [.ref x, .int (nI 1)] [(x, .inr (8, [.ref ta, .ref tq, .ref sa, .ref oo, .ref lo, .ref sg, .ref ia, .int ic, .int (nI lt)])), (ta, .inr (7, [.ref w, .int (nI sz), .int (nI pl)])), (lo, .inr (2, [.ref lc, .int (nI nx), .int (nI ls), .int (nI dw)]))] (fun _ => True) (fun u => some (.int (nI (cntV 1 sz pl lt ls dw)))) (fun u => [(x, .inr (8, [.ref ta, .ref tq, .ref sa, .ref oo, .ref lo, .ref sg, .ref ia, .int ic, .int (nI lt)])), (ta, .inr (7, [.ref w, .int (nI sz), .int (nI pl)])), (lo, .inr (2, [.ref lc, .int (nI nx), .int (nI ls), .int (nI dw)]))]) := by
  refine Fn.intro (by decide) (Nat.le_of_ble_eq_true rfl) ?_
  intro X hX hE hin
  subst hX
  show V (gG D cI cJ cT) X _ cX8_count 2 RX8 _ 0 0 [(0, .ref x), (1, .int (nI 1))] 0 []
  refine v_iload_n 1 dX8_count_0 rfl rfl ?_
  refine v_tableIn (off := 43) (tgt := 44) dX8_count_1 (by decide) (by decide) (by decide) (by decide) ?_
  refine v_aload_n 0 dX8_count_44 rfl rfl ?_
  refine v_get f_SampleDesk_18 0 rfl rfl dX8_count_45 ?_
  refine v_get f_SampleDesk_91 1 rfl rfl dX8_count_48 ?_
  exact v_iret hE dX8_count_51 () (trivial) rfl rfl
set_option maxRecDepth 100000 in
set_option maxHeartbeats 4000000 in
theorem kX8_count_2 {D : va_G} {cI cJ cT : ClassId} (l : Launch) {x ta tq sa oo lo sg ia w lc : Nat} {ic : Int32} {sz pl lt nx ls dw : Nat} : Fn (S := Unit) (gG D cI cJ cT) l yX8_count (.code yX8_count cX8_count 2 (some .int)) (rmD 0) [.ref x, .int (nI 2)] [(x, .inr (8, [.ref ta, .ref tq, .ref sa, .ref oo, .ref lo, .ref sg, .ref ia, .int ic, .int (nI lt)])), (ta, .inr (7, [.ref w, .int (nI sz), .int (nI pl)])), (lo, .inr (2, [.ref lc, .int (nI nx), .int (nI ls), .int (nI dw)]))] (fun _ => True) (fun u => some (.int (nI (cntV 2 sz pl lt ls dw)))) (fun u => [(x, .inr (8, [.ref ta, .ref tq, .ref sa, .ref oo, .ref lo, .ref sg, .ref ia, .int ic, .int (nI lt)])), (ta, .inr (7, [.ref w, .int (nI sz), .int (nI pl)])), (lo, .inr (2, [.ref lc, .int (nI nx), .int (nI ls), .int (nI dw)]))]) := by
  refine Fn.intro (by decide) (Nat.le_of_ble_eq_true rfl) ?_
  intro X hX hE hin
  subst hX
  show V (gG D cI cJ cT) X _ cX8_count 2 RX8 _ 0 0 [(0, .ref x), (1, .int (nI 2))] 0 []
  refine v_iload_n 1 dX8_count_0 rfl rfl ?_
  refine v_tableIn (off := 51) (tgt := 52) dX8_count_1 (by decide) (by decide) (by decide) (by decide) ?_
  refine v_aload_n 0 dX8_count_52 rfl rfl ?_
  refine v_get f_SampleDesk_68 0 rfl rfl dX8_count_53 ?_
  exact v_iret hE dX8_count_56 () (trivial) rfl rfl
set_option maxRecDepth 100000 in
set_option maxHeartbeats 4000000 in
theorem kX8_count_3 {D : va_G} {cI cJ cT : ClassId} (l : Launch) {x ta tq sa oo lo sg ia w lc : Nat} {ic : Int32} {sz pl lt nx ls dw : Nat} : Fn (S := Unit) (gG D cI cJ cT) l yX8_count (.code yX8_count cX8_count 2 (some .int)) (rmD 0) [.ref x, .int (nI 3)] [(x, .inr (8, [.ref ta, .ref tq, .ref sa, .ref oo, .ref lo, .ref sg, .ref ia, .int ic, .int (nI lt)])), (ta, .inr (7, [.ref w, .int (nI sz), .int (nI pl)])), (lo, .inr (2, [.ref lc, .int (nI nx), .int (nI ls), .int (nI dw)]))] (fun _ => True) (fun u => some (.int (nI (cntV 3 sz pl lt ls dw)))) (fun u => [(x, .inr (8, [.ref ta, .ref tq, .ref sa, .ref oo, .ref lo, .ref sg, .ref ia, .int ic, .int (nI lt)])), (ta, .inr (7, [.ref w, .int (nI sz), .int (nI pl)])), (lo, .inr (2, [.ref lc, .int (nI nx), .int (nI ls), .int (nI dw)]))]) := by
  refine Fn.intro (by decide) (Nat.le_of_ble_eq_true rfl) ?_
  intro X hX hE hin
  subst hX
  show V (gG D cI cJ cT) X _ cX8_count 2 RX8 _ 0 0 [(0, .ref x), (1, .int (nI 3))] 0 []
  refine v_iload_n 1 dX8_count_0 rfl rfl ?_
  refine v_tableIn (off := 56) (tgt := 57) dX8_count_1 (by decide) (by decide) (by decide) (by decide) ?_
  refine v_aload_n 0 dX8_count_57 rfl rfl ?_
  refine v_get f_SampleDesk_53 0 rfl rfl dX8_count_58 ?_
  refine v_get f_SampleDesk_170 2 rfl rfl dX8_count_61 ?_
  exact v_iret hE dX8_count_64 () (trivial) rfl rfl
set_option maxRecDepth 100000 in
set_option maxHeartbeats 4000000 in
theorem kX8_count_4 {D : va_G} {cI cJ cT : ClassId} (l : Launch) {x ta tq sa oo lo sg ia w lc : Nat} {ic : Int32} {sz pl lt nx ls dw : Nat} : Fn (S := Unit) (gG D cI cJ cT) l yX8_count (.code yX8_count cX8_count 2 (some .int)) (rmD 0) [.ref x, .int (nI 4)] [(x, .inr (8, [.ref ta, .ref tq, .ref sa, .ref oo, .ref lo, .ref sg, .ref ia, .int ic, .int (nI lt)])), (ta, .inr (7, [.ref w, .int (nI sz), .int (nI pl)])), (lo, .inr (2, [.ref lc, .int (nI nx), .int (nI ls), .int (nI dw)]))] (fun _ => True) (fun u => some (.int (nI (cntV 4 sz pl lt ls dw)))) (fun u => [(x, .inr (8, [.ref ta, .ref tq, .ref sa, .ref oo, .ref lo, .ref sg, .ref ia, .int ic, .int (nI lt)])), (ta, .inr (7, [.ref w, .int (nI sz), .int (nI pl)])), (lo, .inr (2, [.ref lc, .int (nI nx), .int (nI ls), .int (nI dw)]))]) := by
  refine Fn.intro (by decide) (Nat.le_of_ble_eq_true rfl) ?_
  intro X hX hE hin
  subst hX
  show V (gG D cI cJ cT) X _ cX8_count 2 RX8 _ 0 0 [(0, .ref x), (1, .int (nI 4))] 0 []
  refine v_iload_n 1 dX8_count_0 rfl rfl ?_
  refine v_tableIn (off := 64) (tgt := 65) dX8_count_1 (by decide) (by decide) (by decide) (by decide) ?_
  refine v_aload_n 0 dX8_count_65 rfl rfl ?_
  refine v_get f_SampleDesk_53 0 rfl rfl dX8_count_66 ?_
  refine v_get f_SampleDesk_186 2 rfl rfl dX8_count_69 ?_
  exact v_iret hE dX8_count_72 () (trivial) rfl rfl
set_option maxRecDepth 100000 in
set_option maxHeartbeats 4000000 in
theorem kX8_count_x {D : va_G} {cI cJ cT : ClassId} (l : Launch) {x ta tq sa oo lo sg ia w lc : Nat} {ic : Int32} {sz pl lt nx ls dw : Nat} {wh : Int32} (hk : wh.toInt < 0 ∨ 4 < wh.toInt) : Fn (S := Unit) (gG D cI cJ cT) l yX8_count (.code yX8_count cX8_count 2 (some .int)) (rmD 0) [.ref x, .int wh] [(x, .inr (8, [.ref ta, .ref tq, .ref sa, .ref oo, .ref lo, .ref sg, .ref ia, .int ic, .int (nI lt)])), (ta, .inr (7, [.ref w, .int (nI sz), .int (nI pl)])), (lo, .inr (2, [.ref lc, .int (nI nx), .int (nI ls), .int (nI dw)]))] (fun _ => True) (fun u => some (.int (-1))) (fun u => [(x, .inr (8, [.ref ta, .ref tq, .ref sa, .ref oo, .ref lo, .ref sg, .ref ia, .int ic, .int (nI lt)])), (ta, .inr (7, [.ref w, .int (nI sz), .int (nI pl)])), (lo, .inr (2, [.ref lc, .int (nI nx), .int (nI ls), .int (nI dw)]))]) := by
  refine Fn.intro (by decide) (Nat.le_of_ble_eq_true rfl) ?_
  intro X hX hE hin
  subst hX
  show V (gG D cI cJ cT) X _ cX8_count 2 RX8 _ 0 0 [(0, .ref x), (1, .int wh)] 0 []
  refine v_iload_n 1 dX8_count_0 rfl rfl ?_
  refine v_tableOut (tgt := 73) dX8_count_1 (hk) (by decide) ?_
  refine v_iconst (v := (-1)) dX8_count_73 (by decide) ?_
  exact v_iret hE dX8_count_74 () (trivial) rfl rfl
