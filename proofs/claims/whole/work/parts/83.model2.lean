set_option maxRecDepth 100000 in
set_option maxHeartbeats 4000000 in
theorem kX9_uniform_loop {D : va_G} {cI cJ cT : ClassId} {X : vX} {m mt mw mb ml mq mz ms mr mi mk mj mn : Nat} {th pc0 dw0 lt0 ic0 ma0 en0 : Int32} {fd sg ln fr e : Nat} {tr : Bool} {tp : Nat → Int32} {b : Nat → Nat} {nn : Nat} (hB : MB tr fd ln sg tp b e) (hnn : 0 < nn) (hnn2 : nn < 2 ^ 61) {W0 : va_W} {post : Nat × Nat × Bool → Prop} (hE : vE (gG D cI cJ cT) X (some .long) W0 post (fun u => some (.long (lN u.1))) (fun u => [(m, .inr (9, [.int th, .int (nI fd), .int pc0, .int dw0, .int lt0, .ref mt, .ref mw, .ref mb, .ref ml, .ref mq, .ref mz, .ref ms, .ref mr, .int ic0, .ref mi, .int (dI tr), .int (nI sg), .int (nI ln), .int (nI u.2.1), .int (nI (u.2.1 - fr)), .int (dI u.2.2), .int ma0, .ref mk, .int en0, .ref mj, .ref mn])), (mt, .inl (cI, 16384, .inl tp))])) :
    ∀ (k : Nat) (m0 : Nat) (v : Nat) (p : Nat) (dr : Bool), 0 < k → (dr = false → v < m0 ∧ m0 < 2 * nn ∧ 2 * (e - p) + (if m0 < nn then 0 else 1) + 1 < k) → v < 2 ^ 62 ∧ m0 < 2 ^ 62 → fr ≤ p → p ≤ e → (dr = true → p = e) → (∀ u, Rl (sUniL b e nn k m0 v p) e p dr u ∧ u.1 < nn → post u) → V (gG D cI cJ cT) X (rmD 1) cX9_uniform 7 RX9 [(m, .inr (9, [.int th, .int (nI fd), .int pc0, .int dw0, .int lt0, .ref mt, .ref mw, .ref mb, .ref ml, .ref mq, .ref mz, .ref ms, .ref mr, .int ic0, .ref mi, .int (dI tr), .int (nI sg), .int (nI ln), .int (nI p), .int (nI (p - fr)), .int (dI dr), .int ma0, .ref mk, .int en0, .ref mj, .ref mn])), (mt, .inl (cI, 16384, .inl tp))] 0 0 [(0, .ref m), (1, .long (lN nn)), (3, .long (lN m0)), (5, .long (lN v))] 12 [] := by
  intro k
  induction k with
  | zero => intro m0 v p dr hk hinv hbb hfr hp hdr hq; omega
  | succ k ih =>
    intro m0 v p dr hk hinv hbb hfr hp hdr hq
    rcases dr with _ | _
    · show V (gG D cI cJ cT) X (rmD 1) cX9_uniform 7 RX9 [(m, .inr (9, [.int th, .int (nI fd), .int pc0, .int dw0, .int lt0, .ref mt, .ref mw, .ref mb, .ref ml, .ref mq, .ref mz, .ref ms, .ref mr, .int ic0, .ref mi, .int (dI tr), .int (nI sg), .int (nI ln), .int (nI p), .int (nI (p - fr)), .int (dI false), .int ma0, .ref mk, .int en0, .ref mj, .ref mn])), (mt, .inl (cI, 16384, .inl tp))] 0 0 [(0, .ref m), (1, .long (lN nn)), (3, .long (lN m0)), (5, .long (lN v))] 12 []
      have hi := hinv rfl
      refine v_lload_n 2 dX9_uniform_12 rfl rfl ?_
      refine v_lload_n 1 dX9_uniform_13 rfl rfl ?_
      refine v_lcmp dX9_uniform_14 ?_
      refine v_if_ge (tgt := 48) dX9_uniform_15 (by decide) (fun b15 => ?_) (fun b15 => ?_)
      · have b15 : nn ≤ m0 := (z_ge (by omega) (by omega)).mp b15
        refine v_lload 3 dX9_uniform_48 rfl ?_
        refine v_lload_n 1 dX9_uniform_50 rfl rfl ?_
        refine v_lcmp dX9_uniform_51 ?_
        refine v_if_ge (tgt := 58) dX9_uniform_52 (by decide) (fun b52 => ?_) (fun b52 => ?_)
        · have b52 : nn ≤ v := (z_ge (by omega) (by omega)).mp b52
          refine v_lload_n 2 dX9_uniform_58 rfl rfl ?_
          refine v_lload_n 1 dX9_uniform_59 rfl rfl ?_
          refine v_lsub dX9_uniform_60 ?_
          refine v_topl (y := lN (m0 - nn)) (lN_sub (by omega)) ?_
          refine v_lstore_n (lv' := [(3, .long (lN (m0 - nn))), (0, .ref m), (1, .long (lN nn)), (5, .long (lN v))]) dX9_uniform_61 rfl (by decide) rfl ?_
          refine v_lload 3 dX9_uniform_62 rfl ?_
          refine v_lload_n 2 dX9_uniform_64 rfl rfl ?_
          refine v_lsub dX9_uniform_65 ?_
          refine v_topl (y := lN (v - nn)) (lN_sub (by omega)) ?_
          refine v_lstore (lv' := [(5, .long (lN (v - nn))), (3, .long (lN (m0 - nn))), (0, .ref m), (1, .long (lN nn))]) dX9_uniform_66 (by decide) rfl ?_
          refine v_goto (tgt := 5) dX9_uniform_68 (by decide) ?_
          refine v_aload_n 2 dX9_uniform_5 rfl rfl ?_
          refine v_get f_SampleDeskModel_77 0 rfl rfl dX9_uniform_6 ?_
          refine v_if_ne (tgt := 71) dX9_uniform_9 (by decide) (fun b9 => absurd b9 (fun q => q rfl)) (fun b9 => ?_)
          refine v_lv [2, 3, 1, 0] rfl ?_
          exact ih (m0 - nn) (v - nn) p false (by have := hi.2.2; omega) (fun _ => sUni_inv2 hi b15 b52) ⟨by omega, by omega⟩ hfr hp hdr (fun u hu => hq u ⟨sUni_sub rfl b15 b52 hu.1, hu.2⟩)
        · have b52 : ¬ (nn ≤ v) := fun q => b52 ((z_ge (by omega) (by omega)).mpr q)
          refine v_lload 3 dX9_uniform_55 rfl ?_
          exact v_lret hE dX9_uniform_57 (v, p, false) (hq _ ⟨sUni_out rfl hp b15 b52, by show v < nn; omega⟩) rfl rfl
      · have b15 : ¬ (nn ≤ m0) := fun q => b15 ((z_ge (by omega) (by omega)).mpr q)
        refine v_aload_n 0 dX9_uniform_18 rfl rfl ?_
        refine v_get f_SampleDeskModel_77 0 rfl rfl dX9_uniform_19 ?_
        refine v_if_ne (tgt := 48) dX9_uniform_22 (by decide) (fun b22 => absurd b22 (fun q => q rfl)) (fun b22 => ?_)
        refine v_ldc2 (v := 2) k_c_SampleDeskModel_96 dX9_uniform_25 ?_
        refine v_lload_n 2 dX9_uniform_28 rfl rfl ?_
        refine v_lmul dX9_uniform_29 ?_
        refine v_topl (y := lN (2 * m0)) (by rw [show (2 : Int64) = lN 2 by decide]; exact lN_mul 2 m0) ?_
        refine v_lstore_n (lv' := [(3, .long (lN (2 * m0))), (0, .ref m), (1, .long (lN nn)), (5, .long (lN v))]) dX9_uniform_30 rfl (by decide) rfl ?_
        refine v_ldc2 (v := 2) k_c_SampleDeskModel_96 dX9_uniform_31 ?_
        refine v_lload 3 dX9_uniform_34 rfl ?_
        refine v_lmul dX9_uniform_36 ?_
        refine v_topl (y := lN (2 * v)) (by rw [show (2 : Int64) = lN 2 by decide]; exact lN_mul 2 v) ?_
        refine v_aload_n 1 dX9_uniform_37 rfl rfl ?_
        refine v_callV (as := []) (rest := [.long (lN (2 * v))]) (ws' := fun u => [(m, .inr (9, [.int th, .int (nI fd), .int pc0, .int dw0, .int lt0, .ref mt, .ref mw, .ref mb, .ref ml, .ref mq, .ref mz, .ref ms, .ref mr, .int ic0, .ref mi, .int (dI tr), .int (nI sg), .int (nI ln), .int (nI u.2.1), .int (nI (u.2.1 - fr)), .int (dI u.2.2), .int ma0, .ref mk, .int en0, .ref mj, .ref mn])), (mt, .inl (cI, 16384, .inl tp))]) m_SampleDeskModel_98 (kX9_nextBit X.l (m := m) (mt := mt) (mw := mw) (mb := mb) (ml := ml) (mq := mq) (mz := mz) (ms := ms) (mr := mr) (mi := mi) (mk := mk) (mj := mj) (mn := mn) (th := th) (pc0 := pc0) (dw0 := dw0) (lt0 := lt0) (ic0 := ic0) (en0 := en0) (fd := fd) (sg := sg) (ln := ln) (fr := fr) (e := e) (tr := tr) (tp := tp) (b := b) (ma0 := ma0) (p := p) (dr := false)  hB (by omega) (by omega) (fun h => nomatch h) ) k_code_X9_nextBit [0, 1] 0 rfl rfl rfl rfl dX9_uniform_38 (Nat.le_of_ble_eq_true rfl) ⟨rfl, rfl, by decide, by decide⟩ ⟨Nat.zero_le _, Nat.zero_le _⟩ rfl rfl (fun _ => rfl) (v_mgU rfl (fun _ => rfl)) ?_
        intro u38 c38
        obtain ⟨r1, p1, d1⟩ := u38
        try dsimp only at c38
        show V (gG D cI cJ cT) X (rmD 1) cX9_uniform 7 RX9 [(m, .inr (9, [.int th, .int (nI fd), .int pc0, .int dw0, .int lt0, .ref mt, .ref mw, .ref mb, .ref ml, .ref mq, .ref mz, .ref ms, .ref mr, .int ic0, .ref mi, .int (dI tr), .int (nI sg), .int (nI ln), .int (nI p1), .int (nI (p1 - fr)), .int (dI d1), .int ma0, .ref mk, .int en0, .ref mj, .ref mn])), (mt, .inl (cI, 16384, .inl tp))] 0 0 [(3, .long (lN (2 * m0))), (0, .ref m), (1, .long (lN nn)), (5, .long (lN v))] 41 [.int (nI r1), .long (lN (2 * v))]
        have hr1 : r1 < 2 := Rbit_lt hB.2.1 c38
        have hb1 := Rbit_c hp rfl c38
        have hpp := (Rbit_d c38).2
        refine v_i2l (v := lN r1) dX9_uniform_41 (nI_l (by omega)) ?_
        refine v_ladd dX9_uniform_42 ?_
        refine v_topl (y := lN (2 * v + r1)) (lN_add _ _) ?_
        refine v_lstore (lv' := [(5, .long (lN (2 * v + r1))), (3, .long (lN (2 * m0))), (0, .ref m), (1, .long (lN nn))]) dX9_uniform_43 (by decide) rfl ?_
        refine v_goto (tgt := 12) dX9_uniform_45 (by decide) ?_
        refine v_lv [2, 3, 1, 0] rfl ?_
        exact ih (2 * m0) (2 * v + r1) p1 d1 (by omega) (sUni_inv hb1 hr1 hi (by omega)) ⟨by omega, by omega⟩ (by omega) (Rbit_le hp c38) (Rb_e hb1) (fun u hu => hq u ⟨sUni_bit hb1 rfl (by omega) hu.1, hu.2⟩)
    · show V (gG D cI cJ cT) X (rmD 1) cX9_uniform 7 RX9 [(m, .inr (9, [.int th, .int (nI fd), .int pc0, .int dw0, .int lt0, .ref mt, .ref mw, .ref mb, .ref ml, .ref mq, .ref mz, .ref ms, .ref mr, .int ic0, .ref mi, .int (dI tr), .int (nI sg), .int (nI ln), .int (nI p), .int (nI (p - fr)), .int (dI true), .int ma0, .ref mk, .int en0, .ref mj, .ref mn])), (mt, .inl (cI, 16384, .inl tp))] 0 0 [(0, .ref m), (1, .long (lN nn)), (3, .long (lN m0)), (5, .long (lN v))] 12 []
      refine v_lload_n 2 dX9_uniform_12 rfl rfl ?_
      refine v_lload_n 1 dX9_uniform_13 rfl rfl ?_
      refine v_lcmp dX9_uniform_14 ?_
      refine v_if_ge (tgt := 48) dX9_uniform_15 (by decide) (fun b15 => ?_) (fun b15 => ?_)
      · have b15 : nn ≤ m0 := (z_ge (by omega) (by omega)).mp b15
        refine v_lload 3 dX9_uniform_48 rfl ?_
        refine v_lload_n 1 dX9_uniform_50 rfl rfl ?_
        refine v_lcmp dX9_uniform_51 ?_
        refine v_if_ge (tgt := 58) dX9_uniform_52 (by decide) (fun b52 => ?_) (fun b52 => ?_)
        · have b52 : nn ≤ v := (z_ge (by omega) (by omega)).mp b52
          refine v_lload_n 2 dX9_uniform_58 rfl rfl ?_
          refine v_lload_n 1 dX9_uniform_59 rfl rfl ?_
          refine v_lsub dX9_uniform_60 ?_
          refine v_lstore_n (lv' := [(3, .long ((lN m0) - (lN nn))), (0, .ref m), (1, .long (lN nn)), (5, .long (lN v))]) dX9_uniform_61 rfl (by decide) rfl ?_
          refine v_lload 3 dX9_uniform_62 rfl ?_
          refine v_lload_n 2 dX9_uniform_64 rfl rfl ?_
          refine v_lsub dX9_uniform_65 ?_
          refine v_topl (y := lN (v - nn)) (lN_sub (by omega)) ?_
          refine v_lstore (lv' := [(5, .long (lN (v - nn))), (3, .long ((lN m0) - (lN nn))), (0, .ref m), (1, .long (lN nn))]) dX9_uniform_66 (by decide) rfl ?_
          refine v_goto (tgt := 5) dX9_uniform_68 (by decide) ?_
          refine v_aload_n 2 dX9_uniform_5 rfl rfl ?_
          refine v_get f_SampleDeskModel_77 0 rfl rfl dX9_uniform_6 ?_
          refine v_if_ne (tgt := 71) dX9_uniform_9 (by decide) (fun b9 => ?_) (fun b9 => absurd b9 (by decide))
          refine v_lconst (v := lN 0) dX9_uniform_71 (by decide) ?_
          exact v_lret hE dX9_uniform_72 (0, p, true) (hq _ ⟨Rl_over rfl (hdr rfl), hnn⟩) rfl rfl
        · have b52 : ¬ (nn ≤ v) := fun q => b52 ((z_ge (by omega) (by omega)).mpr q)
          refine v_lload 3 dX9_uniform_55 rfl ?_
          exact v_lret hE dX9_uniform_57 (v, p, true) (hq _ ⟨Rl_over rfl (hdr rfl), by show v < nn; omega⟩) rfl rfl
      · have b15 : ¬ (nn ≤ m0) := fun q => b15 ((z_ge (by omega) (by omega)).mpr q)
        refine v_aload_n 0 dX9_uniform_18 rfl rfl ?_
        refine v_get f_SampleDeskModel_77 0 rfl rfl dX9_uniform_19 ?_
        refine v_if_ne (tgt := 48) dX9_uniform_22 (by decide) (fun b22 => ?_) (fun b22 => absurd b22 (by decide))
        refine v_lload 3 dX9_uniform_48 rfl ?_
        refine v_lload_n 1 dX9_uniform_50 rfl rfl ?_
        refine v_lcmp dX9_uniform_51 ?_
        refine v_if_ge (tgt := 58) dX9_uniform_52 (by decide) (fun b52 => ?_) (fun b52 => ?_)
        · have b52 : nn ≤ v := (z_ge (by omega) (by omega)).mp b52
          refine v_lload_n 2 dX9_uniform_58 rfl rfl ?_
          refine v_lload_n 1 dX9_uniform_59 rfl rfl ?_
          refine v_lsub dX9_uniform_60 ?_
          refine v_lstore_n (lv' := [(3, .long ((lN m0) - (lN nn))), (0, .ref m), (1, .long (lN nn)), (5, .long (lN v))]) dX9_uniform_61 rfl (by decide) rfl ?_
          refine v_lload 3 dX9_uniform_62 rfl ?_
          refine v_lload_n 2 dX9_uniform_64 rfl rfl ?_
          refine v_lsub dX9_uniform_65 ?_
          refine v_topl (y := lN (v - nn)) (lN_sub (by omega)) ?_
          refine v_lstore (lv' := [(5, .long (lN (v - nn))), (3, .long ((lN m0) - (lN nn))), (0, .ref m), (1, .long (lN nn))]) dX9_uniform_66 (by decide) rfl ?_
          refine v_goto (tgt := 5) dX9_uniform_68 (by decide) ?_
          refine v_aload_n 2 dX9_uniform_5 rfl rfl ?_
          refine v_get f_SampleDeskModel_77 0 rfl rfl dX9_uniform_6 ?_
          refine v_if_ne (tgt := 71) dX9_uniform_9 (by decide) (fun b9 => ?_) (fun b9 => absurd b9 (by decide))
          refine v_lconst (v := lN 0) dX9_uniform_71 (by decide) ?_
          exact v_lret hE dX9_uniform_72 (0, p, true) (hq _ ⟨Rl_over rfl (hdr rfl), hnn⟩) rfl rfl
        · have b52 : ¬ (nn ≤ v) := fun q => b52 ((z_ge (by omega) (by omega)).mpr q)
          refine v_lload 3 dX9_uniform_55 rfl ?_
          exact v_lret hE dX9_uniform_57 (v, p, true) (hq _ ⟨Rl_over rfl (hdr rfl), by show v < nn; omega⟩) rfl rfl
set_option maxRecDepth 100000 in
set_option maxHeartbeats 4000000 in
theorem kX9_uniform {D : va_G} {cI cJ cT : ClassId} (l : Launch) {m mt mw mb ml mq mz ms mr mi mk mj mn : Nat} {th pc0 dw0 lt0 ic0 ma0 en0 : Int32} {fd sg ln fr e : Nat} {tr : Bool} {tp : Nat → Int32} {b : Nat → Nat} {p : Nat} {dr : Bool} {nn : Nat} (hB : MB tr fd ln sg tp b e) (hfr : fr ≤ p) (hp : p ≤ e) (hdr : dr = true → p = e) (hnn : 0 < nn) (hnn2 : nn < 2 ^ 61) : Fn (S := Nat × Nat × Bool) (gG D cI cJ cT) l yX9_uniform (.code yX9_uniform cX9_uniform 7 (some .long)) (rmD 1) [.ref m, .long (lN nn)] [(m, .inr (9, [.int th, .int (nI fd), .int pc0, .int dw0, .int lt0, .ref mt, .ref mw, .ref mb, .ref ml, .ref mq, .ref mz, .ref ms, .ref mr, .int ic0, .ref mi, .int (dI tr), .int (nI sg), .int (nI ln), .int (nI p), .int (nI (p - fr)), .int (dI dr), .int ma0, .ref mk, .int en0, .ref mj, .ref mn])), (mt, .inl (cI, 16384, .inl tp))] (fun u => Rl (sUni b e nn p) e p dr u ∧ u.1 < nn) (fun u => some (.long (lN u.1))) (fun u => [(m, .inr (9, [.int th, .int (nI fd), .int pc0, .int dw0, .int lt0, .ref mt, .ref mw, .ref mb, .ref ml, .ref mq, .ref mz, .ref ms, .ref mr, .int ic0, .ref mi, .int (dI tr), .int (nI sg), .int (nI ln), .int (nI u.2.1), .int (nI (u.2.1 - fr)), .int (dI u.2.2), .int ma0, .ref mk, .int en0, .ref mj, .ref mn])), (mt, .inl (cI, 16384, .inl tp))]) := by
  refine Fn.intro (by decide) (Nat.le_of_ble_eq_true rfl) ?_
  intro X hX hE hin
  subst hX
  show V (gG D cI cJ cT) X _ cX9_uniform 7 RX9 _ 0 0 [(0, .ref m), (1, .long (lN nn))] 0 []
  refine v_lconst (v := lN 1) dX9_uniform_0 (by decide) ?_
  refine v_lstore_n (lv' := [(3, .long (lN 1)), (0, .ref m), (1, .long (lN nn))]) dX9_uniform_1 rfl (by decide) rfl ?_
  refine v_lconst (v := lN 0) dX9_uniform_2 (by decide) ?_
  refine v_lstore (lv' := [(5, .long (lN 0)), (3, .long (lN 1)), (0, .ref m), (1, .long (lN nn))]) dX9_uniform_3 (by decide) rfl ?_
  rcases dr with _ | _
  · show V (gG D cI cJ cT) X (rmD 1) cX9_uniform 7 RX9 [(m, .inr (9, [.int th, .int (nI fd), .int pc0, .int dw0, .int lt0, .ref mt, .ref mw, .ref mb, .ref ml, .ref mq, .ref mz, .ref ms, .ref mr, .int ic0, .ref mi, .int (dI tr), .int (nI sg), .int (nI ln), .int (nI p), .int (nI (p - fr)), .int (dI false), .int ma0, .ref mk, .int en0, .ref mj, .ref mn])), (mt, .inl (cI, 16384, .inl tp))] 0 0 [(5, .long (lN 0)), (3, .long (lN 1)), (0, .ref m), (1, .long (lN nn))] 5 []
    refine v_aload_n 2 dX9_uniform_5 rfl rfl ?_
    refine v_get f_SampleDeskModel_77 0 rfl rfl dX9_uniform_6 ?_
    refine v_if_ne (tgt := 71) dX9_uniform_9 (by decide) (fun b9 => absurd b9 (fun q => q rfl)) (fun b9 => ?_)
    refine v_lv [2, 3, 1, 0] rfl ?_
    exact kX9_uniform_loop hB hnn hnn2 hE (2 * (e - p) + 3) 1 0 p false (by omega) (fun h => ⟨by omega, by omega, by split <;> omega⟩) ⟨by decide, by decide⟩ hfr hp hdr (fun u hu => hu)
  · show V (gG D cI cJ cT) X (rmD 1) cX9_uniform 7 RX9 [(m, .inr (9, [.int th, .int (nI fd), .int pc0, .int dw0, .int lt0, .ref mt, .ref mw, .ref mb, .ref ml, .ref mq, .ref mz, .ref ms, .ref mr, .int ic0, .ref mi, .int (dI tr), .int (nI sg), .int (nI ln), .int (nI p), .int (nI (p - fr)), .int (dI true), .int ma0, .ref mk, .int en0, .ref mj, .ref mn])), (mt, .inl (cI, 16384, .inl tp))] 0 0 [(5, .long (lN 0)), (3, .long (lN 1)), (0, .ref m), (1, .long (lN nn))] 5 []
    refine v_aload_n 2 dX9_uniform_5 rfl rfl ?_
    refine v_get f_SampleDeskModel_77 0 rfl rfl dX9_uniform_6 ?_
    refine v_if_ne (tgt := 71) dX9_uniform_9 (by decide) (fun b9 => ?_) (fun b9 => absurd b9 (by decide))
    refine v_lconst (v := lN 0) dX9_uniform_71 (by decide) ?_
    exact v_lret hE dX9_uniform_72 (0, p, true) (⟨Rl_over rfl (hdr rfl), hnn⟩) rfl rfl
theorem uexM_out {b : Nat → Nat} {e num den k c p r1 p1 : Nat} {dr d1 : Bool} (h1 : Rl (sCoin b e num (c * den) p) e p dr (r1, p1, d1)) (hr : ¬ r1 = 1) : Rl (sUexL b e num den (k + 1) c p) e p dr (c % 2, p1, d1) := by
  cases hd : d1
  · rw [hd] at h1; exact sUex_out h1 hr rfl
  · rw [hd] at h1; exact sUex_dry h1 rfl
theorem uexM_step {b : Nat → Nat} {e num den c p r1 p1 : Nat} (hc : 0 < c) (hnum : num ≤ den) (hden : 0 < den) (h1 : Rl (sCoin b e num (c * den) p) e p false (r1, p1, false)) (hr : r1 = 1) : (e - p1) + (if c + 1 = 1 then 1 else 0) + 1 ≤ (e - p) + (if c = 1 then 1 else 0) := by
  rw [if_neg (by omega)]
  obtain ⟨-, h2, h3, h4⟩ := Rl_f h1 rfl
  have h0 : 0 < num := by
    rcases Nat.eq_zero_or_pos num with h | h
    · rw [h, sCoin, if_pos rfl] at h2
      cases h2
      omega
    · exact h
  by_cases hc1 : c = 1
  · rw [if_pos hc1]; omega
  · rw [if_neg hc1]
    have : 2 * den ≤ c * den := Nat.mul_le_mul_right _ (by omega)
    have := sCoin_gt h0 (by omega) h2
    simp only at this
    omega
set_option maxRecDepth 100000 in
set_option maxHeartbeats 4000000 in
theorem kX9_uex_loop {D : va_G} {cI cJ cT : ClassId} {X : vX} {m mt mw mb ml mq mz ms mr mi mk mj mn : Nat} {th pc0 dw0 lt0 ic0 ma0 en0 : Int32} {fd sg ln fr e : Nat} {tr : Bool} {tp : Nat → Int32} {b : Nat → Nat} {num den : Nat} (hB : MB tr fd ln sg tp b e) (hden0 : 0 < den) (hden : den < 2 ^ 44) {W0 : va_W} {post : Nat × Nat × Bool → Prop} (hE : vE (gG D cI cJ cT) X (some .int) W0 post (fun u => some (.int (nI u.1))) (fun u => [(m, .inr (9, [.int th, .int (nI fd), .int pc0, .int dw0, .int lt0, .ref mt, .ref mw, .ref mb, .ref ml, .ref mq, .ref mz, .ref ms, .ref mr, .int ic0, .ref mi, .int (dI tr), .int (nI sg), .int (nI ln), .int (nI u.2.1), .int (nI (u.2.1 - fr)), .int (dI u.2.2), .int ma0, .ref mk, .int en0, .ref mj, .ref mn])), (mt, .inl (cI, 16384, .inl tp))])) :
    ∀ (j : Nat) (k : Nat) (c : Nat) (p : Nat) (dr : Bool), (dr = false → num ≤ den) → 0 < c → (dr = false → e - p + (if c = 1 then 1 else 0) < k) → fr ≤ p → p ≤ e → (dr = true → p = e) → (if dr = true then 0 else e - p + (if c = 1 then 1 else 0) + 1) < j → c + j ≤ 100000 → (∀ u, Rl (sUexL b e num den k c p) e p dr u ∧ u.1 ≤ 1 → post u) → V (gG D cI cJ cT) X (rmD 2) cX9_unitExponential 7 RX9 [(m, .inr (9, [.int th, .int (nI fd), .int pc0, .int dw0, .int lt0, .ref mt, .ref mw, .ref mb, .ref ml, .ref mq, .ref mz, .ref ms, .ref mr, .int ic0, .ref mi, .int (dI tr), .int (nI sg), .int (nI ln), .int (nI p), .int (nI (p - fr)), .int (dI dr), .int ma0, .ref mk, .int en0, .ref mj, .ref mn])), (mt, .inl (cI, 16384, .inl tp))] 0 0 [(0, .ref m), (1, .long (lN num)), (3, .long (lN den)), (5, .long (lN c))] 3 [] := by
  intro j
  induction j with
  | zero => intro k c p dr hnum hc hk hfr hp hdr hj hcj hq; (try split at hj) <;> omega
  | succ j ih =>
    intro k c p dr hnum hc hk hfr hp hdr hj hcj hq
    rcases dr with _ | _
    · show V (gG D cI cJ cT) X (rmD 2) cX9_unitExponential 7 RX9 [(m, .inr (9, [.int th, .int (nI fd), .int pc0, .int dw0, .int lt0, .ref mt, .ref mw, .ref mb, .ref ml, .ref mq, .ref mz, .ref ms, .ref mr, .int ic0, .ref mi, .int (dI tr), .int (nI sg), .int (nI ln), .int (nI p), .int (nI (p - fr)), .int (dI false), .int ma0, .ref mk, .int en0, .ref mj, .ref mn])), (mt, .inl (cI, 16384, .inl tp))] 0 0 [(0, .ref m), (1, .long (lN num)), (3, .long (lN den)), (5, .long (lN c))] 3 []
      have hkk := hk rfl
      obtain ⟨k, rfl⟩ : ∃ q, k = q + 1 := ⟨k - 1, by omega⟩
      have hnu := hnum rfl
      refine v_aload_n 0 dX9_unitExponential_3 rfl rfl ?_
      refine v_get f_SampleDeskModel_77 0 rfl rfl dX9_unitExponential_4 ?_
      refine v_if_ne (tgt := 32) dX9_unitExponential_7 (by decide) (fun b7 => absurd b7 (fun q => q rfl)) (fun b7 => ?_)
      refine v_aload_n 0 dX9_unitExponential_10 rfl rfl ?_
      refine v_lload_n 1 dX9_unitExponential_11 rfl rfl ?_
      refine v_lload 3 dX9_unitExponential_12 rfl ?_
      refine v_lload_n 2 dX9_unitExponential_14 rfl rfl ?_
      have hcd : c * den ≤ 100000 * den := Nat.mul_le_mul_right _ (by omega)
      have hcd1 : den ≤ c * den := Nat.le_mul_of_pos_left _ hc
      refine v_lmul dX9_unitExponential_15 ?_
      refine v_topl (y := lN (c * den)) (lN_mul _ _) ?_
      refine v_callV (as := [.long (lN num), .long (lN (c * den))]) (rest := []) (ws' := fun u => [(m, .inr (9, [.int th, .int (nI fd), .int pc0, .int dw0, .int lt0, .ref mt, .ref mw, .ref mb, .ref ml, .ref mq, .ref mz, .ref ms, .ref mr, .int ic0, .ref mi, .int (dI tr), .int (nI sg), .int (nI ln), .int (nI u.2.1), .int (nI (u.2.1 - fr)), .int (dI u.2.2), .int ma0, .ref mk, .int en0, .ref mj, .ref mn])), (mt, .inl (cI, 16384, .inl tp))]) m_SampleDeskModel_109 (kX9_coin X.l (m := m) (mt := mt) (mw := mw) (mb := mb) (ml := ml) (mq := mq) (mz := mz) (ms := ms) (mr := mr) (mi := mi) (mk := mk) (mj := mj) (mn := mn) (th := th) (pc0 := pc0) (dw0 := dw0) (lt0 := lt0) (ic0 := ic0) (en0 := en0) (fd := fd) (sg := sg) (ln := ln) (fr := fr) (e := e) (tr := tr) (tp := tp) (b := b) (ma0 := ma0) (p := p) (dr := false) (num := num) (den := (c * den)) hB (by omega) (by omega) (fun h => nomatch h) (by omega) (by omega)) k_code_X9_coin [0, 1] 0 rfl rfl rfl rfl dX9_unitExponential_16 (Nat.le_of_ble_eq_true rfl) ⟨rfl, rfl, by decide, by decide⟩ ⟨Nat.zero_le _, Nat.zero_le _⟩ rfl rfl (fun _ => rfl) (v_mgU rfl (fun _ => rfl)) ?_
      intro u16 c16
      obtain ⟨r1, p1, d1⟩ := u16
      try dsimp only at c16
      show V (gG D cI cJ cT) X (rmD 2) cX9_unitExponential 7 RX9 [(m, .inr (9, [.int th, .int (nI fd), .int pc0, .int dw0, .int lt0, .ref mt, .ref mw, .ref mb, .ref ml, .ref mq, .ref mz, .ref ms, .ref mr, .int ic0, .ref mi, .int (dI tr), .int (nI sg), .int (nI ln), .int (nI p1), .int (nI (p1 - fr)), .int (dI d1), .int ma0, .ref mk, .int en0, .ref mj, .ref mn])), (mt, .inl (cI, 16384, .inl tp))] 0 0 [(0, .ref m), (1, .long (lN num)), (3, .long (lN den)), (5, .long (lN c))] 19 [.int (nI r1)]
      have hr1 : r1 ≤ 1 := c16.2
      have hp1 := Rl_p c16.1
      refine v_iconst (v := nI 1) dX9_unitExponential_19 (by decide) ?_
      refine v_icmp_ne (tgt := 32) dX9_unitExponential_20 (by decide) (fun b20 => ?_) (fun b20 => ?_)
      · have b20 : ¬ (r1 = 1) := fun q => b20 ((nI_eq (by omega) (by decide)).mpr q)
        refine v_lload 3 dX9_unitExponential_32 rfl ?_
        refine v_ldc2 (v := lN 2) k_c_SampleDeskModel_96 dX9_unitExponential_34 ?_
        refine v_lrem dX9_unitExponential_37 (by decide) ?_
        refine v_topl (y := lN (c % 2)) (pk_lRem (by omega) (by decide) (by decide)) ?_
        refine v_l2i (v := nI (c % 2)) dX9_unitExponential_38 (l2i_n (by omega)) ?_
        exact v_iret hE dX9_unitExponential_39 (c % 2, p1, d1) (hq _ ⟨uexM_out c16.1 b20, Nat.le_of_lt_succ (Nat.mod_lt _ (by decide))⟩) rfl rfl
      · have b20 : r1 = 1 := (nI_eq (by omega) (by decide)).mp b20
        refine v_lload 3 dX9_unitExponential_23 rfl ?_
        refine v_lconst (v := lN 1) dX9_unitExponential_25 (by decide) ?_
        refine v_ladd dX9_unitExponential_26 ?_
        refine v_topl (y := lN (c + 1)) (lN_add _ _) ?_
        refine v_lstore (lv' := [(5, .long (lN (c + 1))), (0, .ref m), (1, .long (lN num)), (3, .long (lN den))]) dX9_unitExponential_27 (by decide) rfl ?_
        refine v_goto (tgt := 3) dX9_unitExponential_29 (by decide) ?_
        refine v_lv [1, 2, 3, 0] rfl ?_
        rcases d1 with _ | _
        · have hs := uexM_step hc hnu hden0 c16.1 b20
          exact ih k (c + 1) p1 false (fun _ => hnu) (by omega) (fun _ => by omega) (by omega) hp1.2.1 hp1.2.2 (by rw [if_neg (by decide)] at hj ⊢; omega) (by omega) (fun u hu => hq u ⟨sUex_go c16.1 b20 hu.1, hu.2⟩)
        · exact ih k (c + 1) p1 true (fun h => nomatch h) (by omega) (fun h => nomatch h) (by omega) hp1.2.1 hp1.2.2 (by rw [if_neg (by decide)] at hj; rw [if_pos rfl]; omega) (by omega) (fun u hu => hq u ⟨sUex_go c16.1 b20 hu.1, hu.2⟩)
    · show V (gG D cI cJ cT) X (rmD 2) cX9_unitExponential 7 RX9 [(m, .inr (9, [.int th, .int (nI fd), .int pc0, .int dw0, .int lt0, .ref mt, .ref mw, .ref mb, .ref ml, .ref mq, .ref mz, .ref ms, .ref mr, .int ic0, .ref mi, .int (dI tr), .int (nI sg), .int (nI ln), .int (nI p), .int (nI (p - fr)), .int (dI true), .int ma0, .ref mk, .int en0, .ref mj, .ref mn])), (mt, .inl (cI, 16384, .inl tp))] 0 0 [(0, .ref m), (1, .long (lN num)), (3, .long (lN den)), (5, .long (lN c))] 3 []
      refine v_aload_n 0 dX9_unitExponential_3 rfl rfl ?_
      refine v_get f_SampleDeskModel_77 0 rfl rfl dX9_unitExponential_4 ?_
      refine v_if_ne (tgt := 32) dX9_unitExponential_7 (by decide) (fun b7 => ?_) (fun b7 => absurd b7 (by decide))
      refine v_lload 3 dX9_unitExponential_32 rfl ?_
      refine v_ldc2 (v := lN 2) k_c_SampleDeskModel_96 dX9_unitExponential_34 ?_
      refine v_lrem dX9_unitExponential_37 (by decide) ?_
      refine v_topl (y := lN (c % 2)) (pk_lRem (by omega) (by decide) (by decide)) ?_
      refine v_l2i (v := nI (c % 2)) dX9_unitExponential_38 (l2i_n (by omega)) ?_
      exact v_iret hE dX9_unitExponential_39 (c % 2, p, true) (hq _ ⟨Rl_over rfl (hdr rfl), Nat.le_of_lt_succ (Nat.mod_lt _ (by decide))⟩) rfl rfl
set_option maxRecDepth 100000 in
set_option maxHeartbeats 4000000 in
theorem kX9_unitExponential {D : va_G} {cI cJ cT : ClassId} (l : Launch) {m mt mw mb ml mq mz ms mr mi mk mj mn : Nat} {th pc0 dw0 lt0 ic0 ma0 en0 : Int32} {fd sg ln fr e : Nat} {tr : Bool} {tp : Nat → Int32} {b : Nat → Nat} {p : Nat} {dr : Bool} {num den : Nat} (hB : MB tr fd ln sg tp b e) (hfr : fr ≤ p) (hp : p ≤ e) (hdr : dr = true → p = e) (hden0 : 0 < den) (hnum : dr = false → num ≤ den) (hden : den < 2 ^ 44) : Fn (S := Nat × Nat × Bool) (gG D cI cJ cT) l yX9_unitExponential (.code yX9_unitExponential cX9_unitExponential 7 (some .int)) (rmD 2) [.ref m, .long (lN num), .long (lN den)] [(m, .inr (9, [.int th, .int (nI fd), .int pc0, .int dw0, .int lt0, .ref mt, .ref mw, .ref mb, .ref ml, .ref mq, .ref mz, .ref ms, .ref mr, .int ic0, .ref mi, .int (dI tr), .int (nI sg), .int (nI ln), .int (nI p), .int (nI (p - fr)), .int (dI dr), .int ma0, .ref mk, .int en0, .ref mj, .ref mn])), (mt, .inl (cI, 16384, .inl tp))] (fun u => Rl (sUex b e num den p) e p dr u ∧ u.1 ≤ 1) (fun u => some (.int (nI u.1))) (fun u => [(m, .inr (9, [.int th, .int (nI fd), .int pc0, .int dw0, .int lt0, .ref mt, .ref mw, .ref mb, .ref ml, .ref mq, .ref mz, .ref ms, .ref mr, .int ic0, .ref mi, .int (dI tr), .int (nI sg), .int (nI ln), .int (nI u.2.1), .int (nI (u.2.1 - fr)), .int (dI u.2.2), .int ma0, .ref mk, .int en0, .ref mj, .ref mn])), (mt, .inl (cI, 16384, .inl tp))]) := by
  refine Fn.intro (by decide) (Nat.le_of_ble_eq_true rfl) ?_
  intro X hX hE hin
  subst hX
  show V (gG D cI cJ cT) X _ cX9_unitExponential 7 RX9 _ 0 0 [(0, .ref m), (1, .long (lN num)), (3, .long (lN den))] 0 []
  refine v_lconst (v := lN 1) dX9_unitExponential_0 (by decide) ?_
  refine v_lstore (lv' := [(5, .long (lN 1)), (0, .ref m), (1, .long (lN num)), (3, .long (lN den))]) dX9_unitExponential_1 (by decide) rfl ?_
  have he16 := hB.1
  refine v_lv [1, 2, 3, 0] rfl ?_
  exact kX9_uex_loop hB hden0 hden hE (e - p + 3) (e - p + 2) 1 p dr hnum (by omega) (fun _ => by rw [if_pos rfl]; omega) hfr hp hdr (by rw [if_pos rfl]; split <;> omega) (by omega) (fun u hu => hu)
theorem expM_over {o o1 : Option (Nat × Nat)} {e p : Nat} {u : Nat × Nat × Bool} (h : Rl o1 e p true u) : Rl o e p true u := ⟨h.1, (fun q => absurd q (by decide)), h.2.2⟩
set_option maxRecDepth 100000 in
set_option maxHeartbeats 4000000 in
theorem kX9_exp_loop {D : va_G} {cI cJ cT : ClassId} {X : vX} {m mt mw mb ml mq mz ms mr mi mk mj mn : Nat} {th pc0 dw0 lt0 ic0 ma0 en0 : Int32} {fd sg ln fr e : Nat} {tr : Bool} {tp : Nat → Int32} {b : Nat → Nat} {num den : Nat} (hB : MB tr fd ln sg tp b e) (hden0 : 0 < den) (hden : den < 2 ^ 44) {W0 : va_W} {post : Nat × Nat × Bool → Prop} (hE : vE (gG D cI cJ cT) X (some .int) W0 post (fun u => some (.int (nI u.1))) (fun u => [(m, .inr (9, [.int th, .int (nI fd), .int pc0, .int dw0, .int lt0, .ref mt, .ref mw, .ref mb, .ref ml, .ref mq, .ref mz, .ref ms, .ref mr, .int ic0, .ref mi, .int (dI tr), .int (nI sg), .int (nI ln), .int (nI u.2.1), .int (nI (u.2.1 - fr)), .int (dI u.2.2), .int ma0, .ref mk, .int en0, .ref mj, .ref mn])), (mt, .inl (cI, 16384, .inl tp))])) :
    ∀ (j : Nat) (k : Nat) (left : Nat) (p : Nat) (dr : Bool), left < 2 ^ 62 → (dr = false → e - p < k) → fr ≤ p → p ≤ e → (dr = true → p = e) → (if dr = true then 0 else e - p + 1) < j → (∀ u, Rl (sExpL b e den k left p) e p dr u ∧ u.1 ≤ 1 → post u) → V (gG D cI cJ cT) X (rmD 3) cX9_exponential 7 RX9 [(m, .inr (9, [.int th, .int (nI fd), .int pc0, .int dw0, .int lt0, .ref mt, .ref mw, .ref mb, .ref ml, .ref mq, .ref mz, .ref ms, .ref mr, .int ic0, .ref mi, .int (dI tr), .int (nI sg), .int (nI ln), .int (nI p), .int (nI (p - fr)), .int (dI dr), .int ma0, .ref mk, .int en0, .ref mj, .ref mn])), (mt, .inl (cI, 16384, .inl tp))] 0 0 [(0, .ref m), (1, .long (lN num)), (3, .long (lN den)), (5, .long (lN left))] 3 [] := by
  intro j
  induction j with
  | zero => intro k left p dr hl hk hfr hp hdr hj hq; (try split at hj) <;> omega
  | succ j ih =>
    intro k left p dr hl hk hfr hp hdr hj hq
    rcases dr with _ | _
    · show V (gG D cI cJ cT) X (rmD 3) cX9_exponential 7 RX9 [(m, .inr (9, [.int th, .int (nI fd), .int pc0, .int dw0, .int lt0, .ref mt, .ref mw, .ref mb, .ref ml, .ref mq, .ref mz, .ref ms, .ref mr, .int ic0, .ref mi, .int (dI tr), .int (nI sg), .int (nI ln), .int (nI p), .int (nI (p - fr)), .int (dI false), .int ma0, .ref mk, .int en0, .ref mj, .ref mn])), (mt, .inl (cI, 16384, .inl tp))] 0 0 [(0, .ref m), (1, .long (lN num)), (3, .long (lN den)), (5, .long (lN left))] 3 []
      have hkk := hk rfl
      obtain ⟨k, rfl⟩ : ∃ q, k = q + 1 := ⟨k - 1, by omega⟩
      refine v_lload 3 dX9_exponential_3 rfl ?_
      refine v_lload_n 2 dX9_exponential_5 rfl rfl ?_
      refine v_lcmp dX9_exponential_6 ?_
      refine v_if_lt (tgt := 37) dX9_exponential_7 (by decide) (fun b7 => ?_) (fun b7 => ?_)
      · have b7 : left < den := (z_lt (by omega) (by omega)).mp b7
        refine v_aload_n 0 dX9_exponential_37 rfl rfl ?_
        refine v_lload 3 dX9_exponential_38 rfl ?_
        refine v_lload_n 2 dX9_exponential_40 rfl rfl ?_
        refine v_callV (as := [.long (lN left), .long (lN den)]) (rest := []) (ws' := fun u => [(m, .inr (9, [.int th, .int (nI fd), .int pc0, .int dw0, .int lt0, .ref mt, .ref mw, .ref mb, .ref ml, .ref mq, .ref mz, .ref ms, .ref mr, .int ic0, .ref mi, .int (dI tr), .int (nI sg), .int (nI ln), .int (nI u.2.1), .int (nI (u.2.1 - fr)), .int (dI u.2.2), .int ma0, .ref mk, .int en0, .ref mj, .ref mn])), (mt, .inl (cI, 16384, .inl tp))]) m_SampleDeskModel_113 (kX9_unitExponential X.l (m := m) (mt := mt) (mw := mw) (mb := mb) (ml := ml) (mq := mq) (mz := mz) (ms := ms) (mr := mr) (mi := mi) (mk := mk) (mj := mj) (mn := mn) (th := th) (pc0 := pc0) (dw0 := dw0) (lt0 := lt0) (ic0 := ic0) (en0 := en0) (fd := fd) (sg := sg) (ln := ln) (fr := fr) (e := e) (tr := tr) (tp := tp) (b := b) (ma0 := ma0) (p := p) (dr := false) (num := left) (den := den) hB (by omega) (by omega) (fun h => nomatch h) hden0 (fun h => by first | omega | cases h) hden) k_code_X9_unitExponential [0, 1] 0 rfl rfl rfl rfl dX9_exponential_41 (Nat.le_of_ble_eq_true rfl) ⟨rfl, rfl, by decide, by decide⟩ ⟨Nat.zero_le _, Nat.zero_le _⟩ rfl rfl (fun _ => rfl) (v_mgU rfl (fun _ => rfl)) ?_
        intro u41 c41
        obtain ⟨r1, p1, d1⟩ := u41
        try dsimp only at c41
        show V (gG D cI cJ cT) X (rmD 3) cX9_exponential 7 RX9 [(m, .inr (9, [.int th, .int (nI fd), .int pc0, .int dw0, .int lt0, .ref mt, .ref mw, .ref mb, .ref ml, .ref mq, .ref mz, .ref ms, .ref mr, .int ic0, .ref mi, .int (dI tr), .int (nI sg), .int (nI ln), .int (nI p1), .int (nI (p1 - fr)), .int (dI d1), .int ma0, .ref mk, .int en0, .ref mj, .ref mn])), (mt, .inl (cI, 16384, .inl tp))] 0 0 [(0, .ref m), (1, .long (lN num)), (3, .long (lN den)), (5, .long (lN left))] 44 [.int (nI r1)]
        exact v_iret hE dX9_exponential_44 (r1, p1, d1) (hq _ ⟨by rw [sExp_end (by omega)]; exact c41.1, c41.2⟩) rfl rfl
      · have b7 : ¬ (left < den) := fun q => b7 ((z_lt (by omega) (by omega)).mpr q)
        refine v_aload_n 0 dX9_exponential_10 rfl rfl ?_
        refine v_get f_SampleDeskModel_77 0 rfl rfl dX9_exponential_11 ?_
        refine v_if_ne (tgt := 37) dX9_exponential_14 (by decide) (fun b14 => absurd b14 (fun q => q rfl)) (fun b14 => ?_)
        refine v_aload_n 0 dX9_exponential_17 rfl rfl ?_
        refine v_lconst (v := lN 1) dX9_exponential_18 (by decide) ?_
        refine v_lconst (v := lN 1) dX9_exponential_19 (by decide) ?_
        refine v_callV (as := [.long (lN 1), .long (lN 1)]) (rest := []) (ws' := fun u => [(m, .inr (9, [.int th, .int (nI fd), .int pc0, .int dw0, .int lt0, .ref mt, .ref mw, .ref mb, .ref ml, .ref mq, .ref mz, .ref ms, .ref mr, .int ic0, .ref mi, .int (dI tr), .int (nI sg), .int (nI ln), .int (nI u.2.1), .int (nI (u.2.1 - fr)), .int (dI u.2.2), .int ma0, .ref mk, .int en0, .ref mj, .ref mn])), (mt, .inl (cI, 16384, .inl tp))]) m_SampleDeskModel_113 (kX9_unitExponential X.l (m := m) (mt := mt) (mw := mw) (mb := mb) (ml := ml) (mq := mq) (mz := mz) (ms := ms) (mr := mr) (mi := mi) (mk := mk) (mj := mj) (mn := mn) (th := th) (pc0 := pc0) (dw0 := dw0) (lt0 := lt0) (ic0 := ic0) (en0 := en0) (fd := fd) (sg := sg) (ln := ln) (fr := fr) (e := e) (tr := tr) (tp := tp) (b := b) (ma0 := ma0) (p := p) (dr := false) (num := 1) (den := 1) hB (by omega) (by omega) (fun h => nomatch h) (by decide) (fun _ => Nat.le_refl _) (by decide)) k_code_X9_unitExponential [0, 1] 0 rfl rfl rfl rfl dX9_exponential_20 (Nat.le_of_ble_eq_true rfl) ⟨rfl, rfl, by decide, by decide⟩ ⟨Nat.zero_le _, Nat.zero_le _⟩ rfl rfl (fun _ => rfl) (v_mgU rfl (fun _ => rfl)) ?_
        intro u20 c20
        obtain ⟨r1, p1, d1⟩ := u20
        try dsimp only at c20
        show V (gG D cI cJ cT) X (rmD 3) cX9_exponential 7 RX9 [(m, .inr (9, [.int th, .int (nI fd), .int pc0, .int dw0, .int lt0, .ref mt, .ref mw, .ref mb, .ref ml, .ref mq, .ref mz, .ref ms, .ref mr, .int ic0, .ref mi, .int (dI tr), .int (nI sg), .int (nI ln), .int (nI p1), .int (nI (p1 - fr)), .int (dI d1), .int ma0, .ref mk, .int en0, .ref mj, .ref mn])), (mt, .inl (cI, 16384, .inl tp))] 0 0 [(0, .ref m), (1, .long (lN num)), (3, .long (lN den)), (5, .long (lN left))] 23 [.int (nI r1)]
        have hr1 : r1 ≤ 1 := c20.2
        have hp1 := Rl_p c20.1
        refine v_topi (y := nI r1) (rfl) ?_
        refine v_if_ne (tgt := 28) dX9_exponential_23 (by decide) (fun b23 => ?_) (fun b23 => ?_)
        · have b23 : ¬ (r1 = 0) := fun q => b23 (((show nI r1 = 0 ↔ r1 = 0 from nI_eq (b := 0) (by omega) (by decide))).mpr q)
          refine v_lload 3 dX9_exponential_28 rfl ?_
          refine v_lload_n 2 dX9_exponential_30 rfl rfl ?_
          refine v_lsub dX9_exponential_31 ?_
          refine v_topl (y := lN (left - den)) (lN_sub (by omega)) ?_
          refine v_lstore (lv' := [(5, .long (lN (left - den))), (0, .ref m), (1, .long (lN num)), (3, .long (lN den))]) dX9_exponential_32 (by decide) rfl ?_
          refine v_goto (tgt := 3) dX9_exponential_34 (by decide) ?_
          refine v_lv [1, 2, 3, 0] rfl ?_
          rcases d1 with _ | _
          · have hs := sUex_gt11 (Rl_f c20.1 rfl).2.1
            simp only at hs
            exact ih k (left - den) p1 false (by omega) (fun _ => by omega) (by omega) hp1.2.1 hp1.2.2 (by rw [if_neg (by decide)] at hj ⊢; omega) (fun u hu => hq u ⟨sExp_go (by omega) c20.1 b23 hu.1, hu.2⟩)
          · exact ih k (left - den) p1 true (by omega) (fun h => nomatch h) (by omega) hp1.2.1 hp1.2.2 (by rw [if_neg (by decide)] at hj; rw [if_pos rfl]; omega) (fun u hu => hq u ⟨sExp_go (by omega) c20.1 b23 hu.1, hu.2⟩)
        · have b23 : r1 = 0 := ((show nI r1 = 0 ↔ r1 = 0 from nI_eq (b := 0) (by omega) (by decide))).mp b23
          refine v_iconst (v := nI 0) dX9_exponential_26 (by decide) ?_
          exact v_iret hE dX9_exponential_27 (0, p1, d1) (hq _ ⟨sExp_out (by omega) c20.1 b23, Nat.zero_le _⟩) rfl rfl
    · show V (gG D cI cJ cT) X (rmD 3) cX9_exponential 7 RX9 [(m, .inr (9, [.int th, .int (nI fd), .int pc0, .int dw0, .int lt0, .ref mt, .ref mw, .ref mb, .ref ml, .ref mq, .ref mz, .ref ms, .ref mr, .int ic0, .ref mi, .int (dI tr), .int (nI sg), .int (nI ln), .int (nI p), .int (nI (p - fr)), .int (dI true), .int ma0, .ref mk, .int en0, .ref mj, .ref mn])), (mt, .inl (cI, 16384, .inl tp))] 0 0 [(0, .ref m), (1, .long (lN num)), (3, .long (lN den)), (5, .long (lN left))] 3 []
      refine v_lload 3 dX9_exponential_3 rfl ?_
      refine v_lload_n 2 dX9_exponential_5 rfl rfl ?_
      refine v_lcmp dX9_exponential_6 ?_
      refine v_if_lt (tgt := 37) dX9_exponential_7 (by decide) (fun b7 => ?_) (fun b7 => ?_)
      · have b7 : left < den := (z_lt (by omega) (by omega)).mp b7
        refine v_aload_n 0 dX9_exponential_37 rfl rfl ?_
        refine v_lload 3 dX9_exponential_38 rfl ?_
        refine v_lload_n 2 dX9_exponential_40 rfl rfl ?_
        refine v_callV (as := [.long (lN left), .long (lN den)]) (rest := []) (ws' := fun u => [(m, .inr (9, [.int th, .int (nI fd), .int pc0, .int dw0, .int lt0, .ref mt, .ref mw, .ref mb, .ref ml, .ref mq, .ref mz, .ref ms, .ref mr, .int ic0, .ref mi, .int (dI tr), .int (nI sg), .int (nI ln), .int (nI u.2.1), .int (nI (u.2.1 - fr)), .int (dI u.2.2), .int ma0, .ref mk, .int en0, .ref mj, .ref mn])), (mt, .inl (cI, 16384, .inl tp))]) m_SampleDeskModel_113 (kX9_unitExponential X.l (m := m) (mt := mt) (mw := mw) (mb := mb) (ml := ml) (mq := mq) (mz := mz) (ms := ms) (mr := mr) (mi := mi) (mk := mk) (mj := mj) (mn := mn) (th := th) (pc0 := pc0) (dw0 := dw0) (lt0 := lt0) (ic0 := ic0) (en0 := en0) (fd := fd) (sg := sg) (ln := ln) (fr := fr) (e := e) (tr := tr) (tp := tp) (b := b) (ma0 := ma0) (p := p) (dr := true) (num := left) (den := den) hB (by omega) (by omega) hdr hden0 (fun h => by first | omega | cases h) hden) k_code_X9_unitExponential [0, 1] 0 rfl rfl rfl rfl dX9_exponential_41 (Nat.le_of_ble_eq_true rfl) ⟨rfl, rfl, by decide, by decide⟩ ⟨Nat.zero_le _, Nat.zero_le _⟩ rfl rfl (fun _ => rfl) (v_mgU rfl (fun _ => rfl)) ?_
        intro u41 c41
        obtain ⟨r1, p1, d1⟩ := u41
        try dsimp only at c41
        show V (gG D cI cJ cT) X (rmD 3) cX9_exponential 7 RX9 [(m, .inr (9, [.int th, .int (nI fd), .int pc0, .int dw0, .int lt0, .ref mt, .ref mw, .ref mb, .ref ml, .ref mq, .ref mz, .ref ms, .ref mr, .int ic0, .ref mi, .int (dI tr), .int (nI sg), .int (nI ln), .int (nI p1), .int (nI (p1 - fr)), .int (dI d1), .int ma0, .ref mk, .int en0, .ref mj, .ref mn])), (mt, .inl (cI, 16384, .inl tp))] 0 0 [(0, .ref m), (1, .long (lN num)), (3, .long (lN den)), (5, .long (lN left))] 44 [.int (nI r1)]
        exact v_iret hE dX9_exponential_44 (r1, p1, d1) (hq _ ⟨expM_over c41.1, c41.2⟩) rfl rfl
      · have b7 : ¬ (left < den) := fun q => b7 ((z_lt (by omega) (by omega)).mpr q)
        refine v_aload_n 0 dX9_exponential_10 rfl rfl ?_
        refine v_get f_SampleDeskModel_77 0 rfl rfl dX9_exponential_11 ?_
        refine v_if_ne (tgt := 37) dX9_exponential_14 (by decide) (fun b14 => ?_) (fun b14 => absurd b14 (by decide))
        refine v_aload_n 0 dX9_exponential_37 rfl rfl ?_
        refine v_lload 3 dX9_exponential_38 rfl ?_
        refine v_lload_n 2 dX9_exponential_40 rfl rfl ?_
        refine v_callV (as := [.long (lN left), .long (lN den)]) (rest := []) (ws' := fun u => [(m, .inr (9, [.int th, .int (nI fd), .int pc0, .int dw0, .int lt0, .ref mt, .ref mw, .ref mb, .ref ml, .ref mq, .ref mz, .ref ms, .ref mr, .int ic0, .ref mi, .int (dI tr), .int (nI sg), .int (nI ln), .int (nI u.2.1), .int (nI (u.2.1 - fr)), .int (dI u.2.2), .int ma0, .ref mk, .int en0, .ref mj, .ref mn])), (mt, .inl (cI, 16384, .inl tp))]) m_SampleDeskModel_113 (kX9_unitExponential X.l (m := m) (mt := mt) (mw := mw) (mb := mb) (ml := ml) (mq := mq) (mz := mz) (ms := ms) (mr := mr) (mi := mi) (mk := mk) (mj := mj) (mn := mn) (th := th) (pc0 := pc0) (dw0 := dw0) (lt0 := lt0) (ic0 := ic0) (en0 := en0) (fd := fd) (sg := sg) (ln := ln) (fr := fr) (e := e) (tr := tr) (tp := tp) (b := b) (ma0 := ma0) (p := p) (dr := true) (num := left) (den := den) hB (by omega) (by omega) hdr hden0 (fun h => by first | omega | cases h) hden) k_code_X9_unitExponential [0, 1] 0 rfl rfl rfl rfl dX9_exponential_41 (Nat.le_of_ble_eq_true rfl) ⟨rfl, rfl, by decide, by decide⟩ ⟨Nat.zero_le _, Nat.zero_le _⟩ rfl rfl (fun _ => rfl) (v_mgU rfl (fun _ => rfl)) ?_
        intro u41 c41
        obtain ⟨r1, p1, d1⟩ := u41
        try dsimp only at c41
        show V (gG D cI cJ cT) X (rmD 3) cX9_exponential 7 RX9 [(m, .inr (9, [.int th, .int (nI fd), .int pc0, .int dw0, .int lt0, .ref mt, .ref mw, .ref mb, .ref ml, .ref mq, .ref mz, .ref ms, .ref mr, .int ic0, .ref mi, .int (dI tr), .int (nI sg), .int (nI ln), .int (nI p1), .int (nI (p1 - fr)), .int (dI d1), .int ma0, .ref mk, .int en0, .ref mj, .ref mn])), (mt, .inl (cI, 16384, .inl tp))] 0 0 [(0, .ref m), (1, .long (lN num)), (3, .long (lN den)), (5, .long (lN left))] 44 [.int (nI r1)]
        exact v_iret hE dX9_exponential_44 (r1, p1, d1) (hq _ ⟨expM_over c41.1, c41.2⟩) rfl rfl
set_option maxRecDepth 100000 in
set_option maxHeartbeats 4000000 in
theorem kX9_exponential {D : va_G} {cI cJ cT : ClassId} (l : Launch) {m mt mw mb ml mq mz ms mr mi mk mj mn : Nat} {th pc0 dw0 lt0 ic0 ma0 en0 : Int32} {fd sg ln fr e : Nat} {tr : Bool} {tp : Nat → Int32} {b : Nat → Nat} {p : Nat} {dr : Bool} {num den : Nat} (hB : MB tr fd ln sg tp b e) (hfr : fr ≤ p) (hp : p ≤ e) (hdr : dr = true → p = e) (hden0 : 0 < den) (hnum : num < 2 ^ 62) (hden : den < 2 ^ 44) : Fn (S := Nat × Nat × Bool) (gG D cI cJ cT) l yX9_exponential (.code yX9_exponential cX9_exponential 7 (some .int)) (rmD 3) [.ref m, .long (lN num), .long (lN den)] [(m, .inr (9, [.int th, .int (nI fd), .int pc0, .int dw0, .int lt0, .ref mt, .ref mw, .ref mb, .ref ml, .ref mq, .ref mz, .ref ms, .ref mr, .int ic0, .ref mi, .int (dI tr), .int (nI sg), .int (nI ln), .int (nI p), .int (nI (p - fr)), .int (dI dr), .int ma0, .ref mk, .int en0, .ref mj, .ref mn])), (mt, .inl (cI, 16384, .inl tp))] (fun u => Rl (sExp b e num den p) e p dr u ∧ u.1 ≤ 1) (fun u => some (.int (nI u.1))) (fun u => [(m, .inr (9, [.int th, .int (nI fd), .int pc0, .int dw0, .int lt0, .ref mt, .ref mw, .ref mb, .ref ml, .ref mq, .ref mz, .ref ms, .ref mr, .int ic0, .ref mi, .int (dI tr), .int (nI sg), .int (nI ln), .int (nI u.2.1), .int (nI (u.2.1 - fr)), .int (dI u.2.2), .int ma0, .ref mk, .int en0, .ref mj, .ref mn])), (mt, .inl (cI, 16384, .inl tp))]) := by
  refine Fn.intro (by decide) (Nat.le_of_ble_eq_true rfl) ?_
  intro X hX hE hin
  subst hX
  show V (gG D cI cJ cT) X _ cX9_exponential 7 RX9 _ 0 0 [(0, .ref m), (1, .long (lN num)), (3, .long (lN den))] 0 []
  refine v_lload_n 1 dX9_exponential_0 rfl rfl ?_
  refine v_lstore (lv' := [(5, .long (lN num)), (0, .ref m), (1, .long (lN num)), (3, .long (lN den))]) dX9_exponential_1 (by decide) rfl ?_
  refine v_lv [1, 2, 3, 0] rfl ?_
  exact kX9_exp_loop hB hden0 hden hE (e - p + 2) (e - p + 1) num p dr hnum (fun _ => by omega) hfr hp hdr (by split <;> omega) (fun u hu => hu)
set_option maxRecDepth 100000 in
set_option maxHeartbeats 4000000 in
theorem kX9_binomial_loop {D : va_G} {cI cJ cT : ClassId} {X : vX} {m mt mw mb ml mq mz ms mr mi mk mj mn : Nat} {th pc0 dw0 lt0 ic0 ma0 en0 : Int32} {fd sg ln fr e : Nat} {tr : Bool} {tp : Nat → Int32} {b : Nat → Nat} {nn num den : Nat} (hB : MB tr fd ln sg tp b e) (hnn : nn ≤ 1000) (hnum : num ≤ den) (hden : den < 2 ^ 31) {W0 : va_W} {post : Nat × Nat × Bool → Prop} (hE : vE (gG D cI cJ cT) X (some .long) W0 post (fun u => some (.long (lN u.1))) (fun u => [(m, .inr (9, [.int th, .int (nI fd), .int pc0, .int dw0, .int lt0, .ref mt, .ref mw, .ref mb, .ref ml, .ref mq, .ref mz, .ref ms, .ref mr, .int ic0, .ref mi, .int (dI tr), .int (nI sg), .int (nI ln), .int (nI u.2.1), .int (nI (u.2.1 - fr)), .int (dI u.2.2), .int ma0, .ref mk, .int en0, .ref mj, .ref mn])), (mt, .inl (cI, 16384, .inl tp))])) :
    ∀ (k : Nat) (c : Nat) (i : Nat) (p : Nat) (dr : Bool), i ≤ nn → nn - i < k → c ≤ i → fr ≤ p → p ≤ e → (dr = true → p = e) → (∀ u, Rl (sBin b e num den (nn - i) c p) e p dr u ∧ u.1 ≤ nn → post u) → V (gG D cI cJ cT) X (rmD 2) cX9_binomial 7 RX9 [(m, .inr (9, [.int th, .int (nI fd), .int pc0, .int dw0, .int lt0, .ref mt, .ref mw, .ref mb, .ref ml, .ref mq, .ref mz, .ref ms, .ref mr, .int ic0, .ref mi, .int (dI tr), .int (nI sg), .int (nI ln), .int (nI p), .int (nI (p - fr)), .int (dI dr), .int ma0, .ref mk, .int en0, .ref mj, .ref mn])), (mt, .inl (cI, 16384, .inl tp))] 0 0 [(0, .ref m), (1, .int (nI nn)), (2, .int (nI num)), (3, .int (nI den)), (4, .long (lN c)), (6, .int (nI i))] 6 [] := by
  intro k
  induction k with
  | zero => intro c i p dr hi hk hc hfr hp hdr hq; omega
  | succ k ih =>
    intro c i p dr hi hk hc hfr hp hdr hq
    refine v_iload 5 dX9_binomial_6 rfl ?_
    refine v_iload_n 1 dX9_binomial_8 rfl rfl ?_
    refine v_icmp_ge (tgt := 39) dX9_binomial_9 (by decide) (fun b9 => ?_) (fun b9 => ?_)
    · have b9 : nn ≤ i := (nI_leI (by omega) (by omega)).mp b9
      refine v_lload 4 dX9_binomial_39 rfl ?_
      exact v_lret hE dX9_binomial_41 (c, p, dr) (hq _ ⟨Rl_here hp hdr (sBin_end b9), by show c ≤ nn; omega⟩) rfl rfl
    · have b9 : ¬ (nn ≤ i) := fun q => b9 ((nI_leI (by omega) (by omega)).mpr q)
      refine v_aload_n 0 dX9_binomial_12 rfl rfl ?_
      refine v_get f_SampleDeskModel_77 0 rfl rfl dX9_binomial_13 ?_
      refine v_if_ne (tgt := 39) dX9_binomial_16 (by decide) (fun b16 => ?_) (fun b16 => ?_)
      · have b16 : ¬ (dr = false) := fun q => b16 ((dI_0 dr).mpr q)
        refine v_lload 4 dX9_binomial_39 rfl ?_
        exact v_lret hE dX9_binomial_41 (c, p, dr) (hq _ ⟨Rl_over (by simpa using b16) (hdr (by simpa using b16)), by show c ≤ nn; omega⟩) rfl rfl
      · have b16 : dr = false := (dI_0 dr).mp b16
        refine v_lload 4 dX9_binomial_19 rfl ?_
        refine v_aload_n 0 dX9_binomial_21 rfl rfl ?_
        refine v_iload_n 2 dX9_binomial_22 rfl rfl ?_
        refine v_i2l (v := lN num) dX9_binomial_23 (nI_l (by omega)) ?_
        refine v_iload_n 3 dX9_binomial_24 rfl rfl ?_
        refine v_i2l (v := lN den) dX9_binomial_25 (nI_l (by omega)) ?_
        refine v_callV (as := [.long (lN num), .long (lN den)]) (rest := [.long (lN c)]) (ws' := fun u => [(m, .inr (9, [.int th, .int (nI fd), .int pc0, .int dw0, .int lt0, .ref mt, .ref mw, .ref mb, .ref ml, .ref mq, .ref mz, .ref ms, .ref mr, .int ic0, .ref mi, .int (dI tr), .int (nI sg), .int (nI ln), .int (nI u.2.1), .int (nI (u.2.1 - fr)), .int (dI u.2.2), .int ma0, .ref mk, .int en0, .ref mj, .ref mn])), (mt, .inl (cI, 16384, .inl tp))]) m_SampleDeskModel_109 (kX9_coin X.l (m := m) (mt := mt) (mw := mw) (mb := mb) (ml := ml) (mq := mq) (mz := mz) (ms := ms) (mr := mr) (mi := mi) (mk := mk) (mj := mj) (mn := mn) (th := th) (pc0 := pc0) (dw0 := dw0) (lt0 := lt0) (ic0 := ic0) (en0 := en0) (fd := fd) (sg := sg) (ln := ln) (fr := fr) (e := e) (tr := tr) (tp := tp) (b := b) (ma0 := ma0) (p := p) (dr := dr) (num := num) (den := den) hB (by omega) (by omega) hdr (by omega) (by omega)) k_code_X9_coin [0, 1] 0 rfl rfl rfl rfl dX9_binomial_26 (Nat.le_of_ble_eq_true rfl) ⟨rfl, rfl, by decide, by decide⟩ ⟨Nat.zero_le _, Nat.zero_le _⟩ rfl rfl (fun _ => rfl) (v_mgU rfl (fun _ => rfl)) ?_
        intro u26 c26
        obtain ⟨r1, p1, d1⟩ := u26
        try dsimp only at c26
        show V (gG D cI cJ cT) X (rmD 2) cX9_binomial 7 RX9 [(m, .inr (9, [.int th, .int (nI fd), .int pc0, .int dw0, .int lt0, .ref mt, .ref mw, .ref mb, .ref ml, .ref mq, .ref mz, .ref ms, .ref mr, .int ic0, .ref mi, .int (dI tr), .int (nI sg), .int (nI ln), .int (nI p1), .int (nI (p1 - fr)), .int (dI d1), .int ma0, .ref mk, .int en0, .ref mj, .ref mn])), (mt, .inl (cI, 16384, .inl tp))] 0 0 [(0, .ref m), (1, .int (nI nn)), (2, .int (nI num)), (3, .int (nI den)), (4, .long (lN c)), (6, .int (nI i))] 29 [.int (nI r1), .long (lN c)]
        have hr1 : r1 ≤ 1 := c26.2
        refine v_i2l (v := lN r1) dX9_binomial_29 (nI_l (by omega)) ?_
        refine v_ladd dX9_binomial_30 ?_
        refine v_topl (y := lN (c + r1)) (lN_add _ _) ?_
        refine v_lstore (lv' := [(4, .long (lN (c + r1))), (0, .ref m), (1, .int (nI nn)), (2, .int (nI num)), (3, .int (nI den)), (6, .int (nI i))]) dX9_binomial_31 (by decide) rfl ?_
        refine v_iinc (lv' := [(6, .int (nI (i + 1))), (4, .long (lN (c + r1))), (0, .ref m), (1, .int (nI nn)), (2, .int (nI num)), (3, .int (nI den))]) (v := nI (i + 1)) 5 dX9_binomial_33 rfl (nI_1 i) (by decide) rfl ?_
        refine v_goto (tgt := 6) dX9_binomial_36 (by decide) ?_
        refine v_lv [2, 3, 4, 5, 1, 0] rfl ?_
        exact ih (c + r1) (i + 1) p1 d1 (by omega) (by omega) (by omega) (by have := (Rl_p c26.1).1; omega) (Rl_p c26.1).2.1 (Rl_p c26.1).2.2 (fun u hu => hq u ⟨sBin_go (by omega) c26.1 hu.1, hu.2⟩)
set_option maxRecDepth 100000 in
set_option maxHeartbeats 4000000 in
theorem kX9_binomial {D : va_G} {cI cJ cT : ClassId} (l : Launch) {m mt mw mb ml mq mz ms mr mi mk mj mn : Nat} {th pc0 dw0 lt0 ic0 ma0 en0 : Int32} {fd sg ln fr e : Nat} {tr : Bool} {tp : Nat → Int32} {b : Nat → Nat} {p : Nat} {dr : Bool} {nn num den : Nat} (hB : MB tr fd ln sg tp b e) (hfr : fr ≤ p) (hp : p ≤ e) (hdr : dr = true → p = e) (hnn : nn ≤ 1000) (hnum : num ≤ den) (hden : den < 2 ^ 31) : Fn (S := Nat × Nat × Bool) (gG D cI cJ cT) l yX9_binomial (.code yX9_binomial cX9_binomial 7 (some .long)) (rmD 2) [.ref m, .int (nI nn), .int (nI num), .int (nI den)] [(m, .inr (9, [.int th, .int (nI fd), .int pc0, .int dw0, .int lt0, .ref mt, .ref mw, .ref mb, .ref ml, .ref mq, .ref mz, .ref ms, .ref mr, .int ic0, .ref mi, .int (dI tr), .int (nI sg), .int (nI ln), .int (nI p), .int (nI (p - fr)), .int (dI dr), .int ma0, .ref mk, .int en0, .ref mj, .ref mn])), (mt, .inl (cI, 16384, .inl tp))] (fun u => Rl (sBin b e num den nn 0 p) e p dr u ∧ u.1 ≤ nn) (fun u => some (.long (lN u.1))) (fun u => [(m, .inr (9, [.int th, .int (nI fd), .int pc0, .int dw0, .int lt0, .ref mt, .ref mw, .ref mb, .ref ml, .ref mq, .ref mz, .ref ms, .ref mr, .int ic0, .ref mi, .int (dI tr), .int (nI sg), .int (nI ln), .int (nI u.2.1), .int (nI (u.2.1 - fr)), .int (dI u.2.2), .int ma0, .ref mk, .int en0, .ref mj, .ref mn])), (mt, .inl (cI, 16384, .inl tp))]) := by
  refine Fn.intro (by decide) (Nat.le_of_ble_eq_true rfl) ?_
  intro X hX hE hin
  subst hX
  show V (gG D cI cJ cT) X _ cX9_binomial 7 RX9 _ 0 0 [(0, .ref m), (1, .int (nI nn)), (2, .int (nI num)), (3, .int (nI den))] 0 []
  refine v_lconst (v := lN 0) dX9_binomial_0 (by decide) ?_
  refine v_lstore (lv' := [(4, .long (lN 0)), (0, .ref m), (1, .int (nI nn)), (2, .int (nI num)), (3, .int (nI den))]) dX9_binomial_1 (by decide) rfl ?_
  refine v_iconst (v := nI 0) dX9_binomial_3 (by decide) ?_
  refine v_istore (lv' := [(6, .int (nI 0)), (4, .long (lN 0)), (0, .ref m), (1, .int (nI nn)), (2, .int (nI num)), (3, .int (nI den))]) dX9_binomial_4 (by decide) rfl ?_
  refine v_lv [2, 3, 4, 5, 1, 0] rfl ?_
  exact kX9_binomial_loop hB hnn hnum hden hE (nn + 1) 0 0 p dr (by omega) (by omega) (by omega) hfr hp hdr (fun u hu => hu)
set_option maxRecDepth 100000 in
set_option maxHeartbeats 4000000 in
theorem kX9_geometric_loop {D : va_G} {cI cJ cT : ClassId} {X : vX} {m mt mw mb ml mq mz ms mr mi mk mj mn : Nat} {th pc0 dw0 lt0 ic0 ma0 en0 : Int32} {fd sg ln fr e : Nat} {tr : Bool} {tp : Nat → Int32} {b : Nat → Nat} {num den cap : Nat} (hB : MB tr fd ln sg tp b e) (hcap : cap ≤ 100000) (hnum : num ≤ den) (hden : den < 2 ^ 31) {W0 : va_W} {post : Nat × Nat × Bool → Prop} (hE : vE (gG D cI cJ cT) X (some .long) W0 post (fun u => some (.long (lN u.1))) (fun u => [(m, .inr (9, [.int th, .int (nI fd), .int pc0, .int dw0, .int lt0, .ref mt, .ref mw, .ref mb, .ref ml, .ref mq, .ref mz, .ref ms, .ref mr, .int ic0, .ref mi, .int (dI tr), .int (nI sg), .int (nI ln), .int (nI u.2.1), .int (nI (u.2.1 - fr)), .int (dI u.2.2), .int ma0, .ref mk, .int en0, .ref mj, .ref mn])), (mt, .inl (cI, 16384, .inl tp))])) :
    ∀ (k : Nat) (c : Nat) (p : Nat) (dr : Bool), c ≤ cap → cap - c < k → fr ≤ p → p ≤ e → (dr = true → p = e) → (∀ u, Rl (sGeo b e num den (cap - c) c p) e p dr u ∧ u.1 ≤ cap → post u) → V (gG D cI cJ cT) X (rmD 2) cX9_geometric 5 RX9 [(m, .inr (9, [.int th, .int (nI fd), .int pc0, .int dw0, .int lt0, .ref mt, .ref mw, .ref mb, .ref ml, .ref mq, .ref mz, .ref ms, .ref mr, .int ic0, .ref mi, .int (dI tr), .int (nI sg), .int (nI ln), .int (nI p), .int (nI (p - fr)), .int (dI dr), .int ma0, .ref mk, .int en0, .ref mj, .ref mn])), (mt, .inl (cI, 16384, .inl tp))] 0 0 [(0, .ref m), (1, .int (nI num)), (2, .int (nI den)), (3, .int (nI cap)), (4, .int (nI c))] 3 [] := by
  intro k
  induction k with
  | zero => intro c p dr hc hk hfr hp hdr hq; omega
  | succ k ih =>
    intro c p dr hc hk hfr hp hdr hq
    refine v_iload 4 dX9_geometric_3 rfl ?_
    refine v_iload_n 3 dX9_geometric_5 rfl rfl ?_
    refine v_icmp_ge (tgt := 33) dX9_geometric_6 (by decide) (fun b6 => ?_) (fun b6 => ?_)
    · have b6 : cap ≤ c := (nI_leI (by omega) (by omega)).mp b6
      refine v_iload 4 dX9_geometric_33 rfl ?_
      refine v_i2l (v := lN c) dX9_geometric_35 (nI_l (by omega)) ?_
      exact v_lret hE dX9_geometric_36 (c, p, dr) (hq _ ⟨Rl_here hp hdr (sGeo_end b6), by show c ≤ cap; omega⟩) rfl rfl
    · have b6 : ¬ (cap ≤ c) := fun q => b6 ((nI_leI (by omega) (by omega)).mpr q)
      refine v_aload_n 0 dX9_geometric_9 rfl rfl ?_
      refine v_get f_SampleDeskModel_77 0 rfl rfl dX9_geometric_10 ?_
      refine v_if_ne (tgt := 33) dX9_geometric_13 (by decide) (fun b13 => ?_) (fun b13 => ?_)
      · have b13 : ¬ (dr = false) := fun q => b13 ((dI_0 dr).mpr q)
        refine v_iload 4 dX9_geometric_33 rfl ?_
        refine v_i2l (v := lN c) dX9_geometric_35 (nI_l (by omega)) ?_
        exact v_lret hE dX9_geometric_36 (c, p, dr) (hq _ ⟨Rl_over (by simpa using b13) (hdr (by simpa using b13)), by show c ≤ cap; omega⟩) rfl rfl
      · have b13 : dr = false := (dI_0 dr).mp b13
        refine v_aload_n 0 dX9_geometric_16 rfl rfl ?_
        refine v_iload_n 1 dX9_geometric_17 rfl rfl ?_
        refine v_i2l (v := lN num) dX9_geometric_18 (nI_l (by omega)) ?_
        refine v_iload_n 2 dX9_geometric_19 rfl rfl ?_
        refine v_i2l (v := lN den) dX9_geometric_20 (nI_l (by omega)) ?_
        refine v_callV (as := [.long (lN num), .long (lN den)]) (rest := []) (ws' := fun u => [(m, .inr (9, [.int th, .int (nI fd), .int pc0, .int dw0, .int lt0, .ref mt, .ref mw, .ref mb, .ref ml, .ref mq, .ref mz, .ref ms, .ref mr, .int ic0, .ref mi, .int (dI tr), .int (nI sg), .int (nI ln), .int (nI u.2.1), .int (nI (u.2.1 - fr)), .int (dI u.2.2), .int ma0, .ref mk, .int en0, .ref mj, .ref mn])), (mt, .inl (cI, 16384, .inl tp))]) m_SampleDeskModel_109 (kX9_coin X.l (m := m) (mt := mt) (mw := mw) (mb := mb) (ml := ml) (mq := mq) (mz := mz) (ms := ms) (mr := mr) (mi := mi) (mk := mk) (mj := mj) (mn := mn) (th := th) (pc0 := pc0) (dw0 := dw0) (lt0 := lt0) (ic0 := ic0) (en0 := en0) (fd := fd) (sg := sg) (ln := ln) (fr := fr) (e := e) (tr := tr) (tp := tp) (b := b) (ma0 := ma0) (p := p) (dr := dr) (num := num) (den := den) hB (by omega) (by omega) hdr (by omega) (by omega)) k_code_X9_coin [0, 1] 0 rfl rfl rfl rfl dX9_geometric_21 (Nat.le_of_ble_eq_true rfl) ⟨rfl, rfl, by decide, by decide⟩ ⟨Nat.zero_le _, Nat.zero_le _⟩ rfl rfl (fun _ => rfl) (v_mgU rfl (fun _ => rfl)) ?_
        intro u21 c21
        obtain ⟨r1, p1, d1⟩ := u21
        try dsimp only at c21
        show V (gG D cI cJ cT) X (rmD 2) cX9_geometric 5 RX9 [(m, .inr (9, [.int th, .int (nI fd), .int pc0, .int dw0, .int lt0, .ref mt, .ref mw, .ref mb, .ref ml, .ref mq, .ref mz, .ref ms, .ref mr, .int ic0, .ref mi, .int (dI tr), .int (nI sg), .int (nI ln), .int (nI p1), .int (nI (p1 - fr)), .int (dI d1), .int ma0, .ref mk, .int en0, .ref mj, .ref mn])), (mt, .inl (cI, 16384, .inl tp))] 0 0 [(0, .ref m), (1, .int (nI num)), (2, .int (nI den)), (3, .int (nI cap)), (4, .int (nI c))] 24 [.int (nI r1)]
        have hr1 : r1 ≤ 1 := c21.2
        refine v_if_ne (tgt := 33) dX9_geometric_24 (by decide) (fun b24 => ?_) (fun b24 => ?_)
        · have b24 : ¬ (r1 = 0) := fun q => b24 (((show nI r1 = 0 ↔ r1 = 0 from nI_eq (b := 0) (by omega) (by decide))).mpr q)
          refine v_iload 4 dX9_geometric_33 rfl ?_
          refine v_i2l (v := lN c) dX9_geometric_35 (nI_l (by omega)) ?_
          exact v_lret hE dX9_geometric_36 (c, p1, d1) (hq _ ⟨sGeo_out (by omega) c21.1 b24, by show c ≤ cap; omega⟩) rfl rfl
        · have b24 : r1 = 0 := ((show nI r1 = 0 ↔ r1 = 0 from nI_eq (b := 0) (by omega) (by decide))).mp b24
          refine v_iinc (lv' := [(4, .int (nI (c + 1))), (0, .ref m), (1, .int (nI num)), (2, .int (nI den)), (3, .int (nI cap))]) (v := nI (c + 1)) 4 dX9_geometric_27 rfl (nI_1 c) (by decide) rfl ?_
          refine v_goto (tgt := 3) dX9_geometric_30 (by decide) ?_
          refine v_lv [1, 2, 3, 4, 0] rfl ?_
          exact ih (c + 1) p1 d1 (by omega) (by omega) (by have := (Rl_p c21.1).1; omega) (Rl_p c21.1).2.1 (Rl_p c21.1).2.2 (fun u hu => hq u ⟨sGeo_go (by omega) c21.1 b24 hu.1, hu.2⟩)
set_option maxRecDepth 100000 in
set_option maxHeartbeats 4000000 in
theorem kX9_geometric {D : va_G} {cI cJ cT : ClassId} (l : Launch) {m mt mw mb ml mq mz ms mr mi mk mj mn : Nat} {th pc0 dw0 lt0 ic0 ma0 en0 : Int32} {fd sg ln fr e : Nat} {tr : Bool} {tp : Nat → Int32} {b : Nat → Nat} {p : Nat} {dr : Bool} {num den cap : Nat} (hB : MB tr fd ln sg tp b e) (hfr : fr ≤ p) (hp : p ≤ e) (hdr : dr = true → p = e) (hcap : cap ≤ 100000) (hnum : num ≤ den) (hden : den < 2 ^ 31) : Fn (S := Nat × Nat × Bool) (gG D cI cJ cT) l yX9_geometric (.code yX9_geometric cX9_geometric 5 (some .long)) (rmD 2) [.ref m, .int (nI num), .int (nI den), .int (nI cap)] [(m, .inr (9, [.int th, .int (nI fd), .int pc0, .int dw0, .int lt0, .ref mt, .ref mw, .ref mb, .ref ml, .ref mq, .ref mz, .ref ms, .ref mr, .int ic0, .ref mi, .int (dI tr), .int (nI sg), .int (nI ln), .int (nI p), .int (nI (p - fr)), .int (dI dr), .int ma0, .ref mk, .int en0, .ref mj, .ref mn])), (mt, .inl (cI, 16384, .inl tp))] (fun u => Rl (sGeo b e num den cap 0 p) e p dr u ∧ u.1 ≤ cap) (fun u => some (.long (lN u.1))) (fun u => [(m, .inr (9, [.int th, .int (nI fd), .int pc0, .int dw0, .int lt0, .ref mt, .ref mw, .ref mb, .ref ml, .ref mq, .ref mz, .ref ms, .ref mr, .int ic0, .ref mi, .int (dI tr), .int (nI sg), .int (nI ln), .int (nI u.2.1), .int (nI (u.2.1 - fr)), .int (dI u.2.2), .int ma0, .ref mk, .int en0, .ref mj, .ref mn])), (mt, .inl (cI, 16384, .inl tp))]) := by
  refine Fn.intro (by decide) (Nat.le_of_ble_eq_true rfl) ?_
  intro X hX hE hin
  subst hX
  show V (gG D cI cJ cT) X _ cX9_geometric 5 RX9 _ 0 0 [(0, .ref m), (1, .int (nI num)), (2, .int (nI den)), (3, .int (nI cap))] 0 []
  refine v_iconst (v := nI 0) dX9_geometric_0 (by decide) ?_
  refine v_istore (lv' := [(4, .int (nI 0)), (0, .ref m), (1, .int (nI num)), (2, .int (nI den)), (3, .int (nI cap))]) dX9_geometric_1 (by decide) rfl ?_
  refine v_lv [1, 2, 3, 4, 0] rfl ?_
  exact kX9_geometric_loop hB hcap hnum hden hE (cap + 1) 0 p dr (by omega) (by omega) hfr hp hdr (fun u hu => hu)
/-- the coin of a draw without replacement: 1 only while good ones are left, 0 only while bad ones are (a coin that ends the bits is no sure one) -/
theorem hypM_g {b : Nat → Nat} {e g h p r1 p1 : Nat} {dr d1 : Bool} (h1 : Rl (sCoin b e g (g + h) p) e p dr (r1, p1, d1)) (hd : dr = false) : (g = 0 → r1 = 0) ∧ (h = 0 → 0 < g → r1 = 1) := by
  constructor
  · intro hg
    have : sCoin b e g (g + h) p = some (0, p) := by rw [sCoin, if_pos hg]
    rcases h1.2.1 hd with ⟨q, h2, h3⟩ | ⟨h2, -⟩
    · rw [this] at h2; cases h2; simp only [Prod.mk.injEq] at h3; exact h3.1
    · rw [this] at h2; cases h2
  · intro hh hg
    have : sCoin b e g (g + h) p = some (1, p) := by rw [sCoin, if_neg (by omega), if_pos (by omega)]
    rcases h1.2.1 hd with ⟨q, h2, h3⟩ | ⟨h2, -⟩
    · rw [this] at h2; cases h2; simp only [Prod.mk.injEq] at h3; exact h3.1
    · rw [this] at h2; cases h2
set_option maxRecDepth 100000 in
set_option maxHeartbeats 4000000 in
theorem kX9_hyper_loop {D : va_G} {cI cJ cT : ClassId} {X : vX} {m mt mw mb ml mq mz ms mr mi mk mj mn : Nat} {th pc0 dw0 lt0 ic0 ma0 en0 : Int32} {fd sg ln fr e : Nat} {tr : Bool} {tp : Nat → Int32} {b : Nat → Nat} {ga gb kk : Nat} (hB : MB tr fd ln sg tp b e) (hkk : kk ≤ 200000) {W0 : va_W} {post : Nat × Nat × Bool → Prop} (hE : vE (gG D cI cJ cT) X (some .long) W0 post (fun u => some (.long (lN u.1))) (fun u => [(m, .inr (9, [.int th, .int (nI fd), .int pc0, .int dw0, .int lt0, .ref mt, .ref mw, .ref mb, .ref ml, .ref mq, .ref mz, .ref ms, .ref mr, .int ic0, .ref mi, .int (dI tr), .int (nI sg), .int (nI ln), .int (nI u.2.1), .int (nI (u.2.1 - fr)), .int (dI u.2.2), .int ma0, .ref mk, .int en0, .ref mj, .ref mn])), (mt, .inl (cI, 16384, .inl tp))])) :
    ∀ (k : Nat) (g : Nat) (h : Nat) (c : Nat) (i : Nat) (p : Nat) (dr : Bool), i ≤ kk → kk - i < k → c ≤ i → kk - i ≤ g + h → g ≤ 100000 ∧ h ≤ 100000 → fr ≤ p → p ≤ e → (dr = true → p = e) → (∀ u, Rl (sHyp b e (kk - i) g h c p) e p dr u ∧ u.1 ≤ kk → post u) → V (gG D cI cJ cT) X (rmD 2) cX9_hyper 11 RX9 [(m, .inr (9, [.int th, .int (nI fd), .int pc0, .int dw0, .int lt0, .ref mt, .ref mw, .ref mb, .ref ml, .ref mq, .ref mz, .ref ms, .ref mr, .int ic0, .ref mi, .int (dI tr), .int (nI sg), .int (nI ln), .int (nI p), .int (nI (p - fr)), .int (dI dr), .int ma0, .ref mk, .int en0, .ref mj, .ref mn])), (mt, .inl (cI, 16384, .inl tp))] 0 0 [(0, .ref m), (1, .int (nI ga)), (2, .int (nI gb)), (3, .int (nI kk)), (4, .long (lN g)), (6, .long (lN h)), (8, .long (lN c)), (10, .int (nI i))] 14 [] := by
  intro k
  induction k with
  | zero => intro g h c i p dr hi hk hc hgh hb hfr hp hdr hq; omega
  | succ k ih =>
    intro g h c i p dr hi hk hc hgh hb hfr hp hdr hq
    refine v_iload 7 dX9_hyper_14 rfl ?_
    refine v_iload_n 3 dX9_hyper_16 rfl rfl ?_
    refine v_icmp_ge (tgt := 69) dX9_hyper_17 (by decide) (fun b17 => ?_) (fun b17 => ?_)
    · have b17 : kk ≤ i := (nI_leI (by omega) (by omega)).mp b17
      refine v_lload 6 dX9_hyper_69 rfl ?_
      exact v_lret hE dX9_hyper_71 (c, p, dr) (hq _ ⟨Rl_here hp hdr (by rw [show kk - i = 0 by omega]; rfl), by show c ≤ kk; omega⟩) rfl rfl
    · have b17 : ¬ (kk ≤ i) := fun q => b17 ((nI_leI (by omega) (by omega)).mpr q)
      refine v_aload_n 0 dX9_hyper_20 rfl rfl ?_
      refine v_get f_SampleDeskModel_77 0 rfl rfl dX9_hyper_21 ?_
      refine v_if_ne (tgt := 69) dX9_hyper_24 (by decide) (fun b24 => ?_) (fun b24 => ?_)
      · have b24 : ¬ (dr = false) := fun q => b24 ((dI_0 dr).mpr q)
        refine v_lload 6 dX9_hyper_69 rfl ?_
        exact v_lret hE dX9_hyper_71 (c, p, dr) (hq _ ⟨Rl_over (by simpa using b24) (hdr (by simpa using b24)), by show c ≤ kk; omega⟩) rfl rfl
      · have b24 : dr = false := (dI_0 dr).mp b24
        refine v_aload_n 0 dX9_hyper_27 rfl rfl ?_
        refine v_lload 4 dX9_hyper_28 rfl ?_
        refine v_lload 4 dX9_hyper_30 rfl ?_
        refine v_lload 5 dX9_hyper_32 rfl ?_
        refine v_ladd dX9_hyper_34 ?_
        refine v_topl (y := lN (g + h)) (lN_add _ _) ?_
        refine v_callV (as := [.long (lN g), .long (lN (g + h))]) (rest := []) (ws' := fun u => [(m, .inr (9, [.int th, .int (nI fd), .int pc0, .int dw0, .int lt0, .ref mt, .ref mw, .ref mb, .ref ml, .ref mq, .ref mz, .ref ms, .ref mr, .int ic0, .ref mi, .int (dI tr), .int (nI sg), .int (nI ln), .int (nI u.2.1), .int (nI (u.2.1 - fr)), .int (dI u.2.2), .int ma0, .ref mk, .int en0, .ref mj, .ref mn])), (mt, .inl (cI, 16384, .inl tp))]) m_SampleDeskModel_109 (kX9_coin X.l (m := m) (mt := mt) (mw := mw) (mb := mb) (ml := ml) (mq := mq) (mz := mz) (ms := ms) (mr := mr) (mi := mi) (mk := mk) (mj := mj) (mn := mn) (th := th) (pc0 := pc0) (dw0 := dw0) (lt0 := lt0) (ic0 := ic0) (en0 := en0) (fd := fd) (sg := sg) (ln := ln) (fr := fr) (e := e) (tr := tr) (tp := tp) (b := b) (ma0 := ma0) (p := p) (dr := dr) (num := g) (den := (g + h)) hB (by omega) (by omega) hdr (by omega) (by omega)) k_code_X9_coin [0, 1] 0 rfl rfl rfl rfl dX9_hyper_35 (Nat.le_of_ble_eq_true rfl) ⟨rfl, rfl, by decide, by decide⟩ ⟨Nat.zero_le _, Nat.zero_le _⟩ rfl rfl (fun _ => rfl) (v_mgU rfl (fun _ => rfl)) ?_
        intro u35 c35
        obtain ⟨r1, p1, d1⟩ := u35
        try dsimp only at c35
        show V (gG D cI cJ cT) X (rmD 2) cX9_hyper 11 RX9 [(m, .inr (9, [.int th, .int (nI fd), .int pc0, .int dw0, .int lt0, .ref mt, .ref mw, .ref mb, .ref ml, .ref mq, .ref mz, .ref ms, .ref mr, .int ic0, .ref mi, .int (dI tr), .int (nI sg), .int (nI ln), .int (nI p1), .int (nI (p1 - fr)), .int (dI d1), .int ma0, .ref mk, .int en0, .ref mj, .ref mn])), (mt, .inl (cI, 16384, .inl tp))] 0 0 [(0, .ref m), (1, .int (nI ga)), (2, .int (nI gb)), (3, .int (nI kk)), (4, .long (lN g)), (6, .long (lN h)), (8, .long (lN c)), (10, .int (nI i))] 38 [.int (nI r1)]
        have hr1 : r1 ≤ 1 := c35.2
        have hp1 := Rl_p c35.1
        have hg0 := hypM_g c35.1 b24
        refine v_iconst (v := nI 1) dX9_hyper_38 (by decide) ?_
        refine v_icmp_ne (tgt := 57) dX9_hyper_39 (by decide) (fun b39 => ?_) (fun b39 => ?_)
        · have b39 : ¬ (r1 = 1) := fun q => b39 ((nI_eq (by omega) (by decide)).mpr q)
          refine v_lload 5 dX9_hyper_57 rfl ?_
          refine v_lconst (v := lN 1) dX9_hyper_59 (by decide) ?_
          refine v_lsub dX9_hyper_60 ?_
          refine v_topl (y := lN (h - 1)) (lN_sub (by omega)) ?_
          refine v_lstore (lv' := [(6, .long (lN (h - 1))), (0, .ref m), (1, .int (nI ga)), (2, .int (nI gb)), (3, .int (nI kk)), (4, .long (lN g)), (8, .long (lN c)), (10, .int (nI i))]) dX9_hyper_61 (by decide) rfl ?_
          refine v_iinc (lv' := [(10, .int (nI (i + 1))), (6, .long (lN (h - 1))), (0, .ref m), (1, .int (nI ga)), (2, .int (nI gb)), (3, .int (nI kk)), (4, .long (lN g)), (8, .long (lN c))]) (v := nI (i + 1)) 7 dX9_hyper_63 rfl (nI_1 i) (by decide) rfl ?_
          refine v_goto (tgt := 14) dX9_hyper_66 (by decide) ?_
          refine v_lv [2, 3, 4, 5, 6, 1, 7, 0] rfl ?_
          exact ih g (h - 1) c (i + 1) p1 d1 (by omega) (by omega) (by omega) (by omega) (by omega) (by omega) hp1.2.1 hp1.2.2 (fun u hu => hq u ⟨sHyp_go0 (by omega) c35.1 b39 (by rw [show kk - i - 1 = kk - (i + 1) by omega]; exact hu.1), hu.2⟩)
        · have b39 : r1 = 1 := (nI_eq (by omega) (by decide)).mp b39
          refine v_lload 4 dX9_hyper_42 rfl ?_
          refine v_lconst (v := lN 1) dX9_hyper_44 (by decide) ?_
          refine v_lsub dX9_hyper_45 ?_
          refine v_topl (y := lN (g - 1)) (lN_sub (by omega)) ?_
          refine v_lstore (lv' := [(4, .long (lN (g - 1))), (0, .ref m), (1, .int (nI ga)), (2, .int (nI gb)), (3, .int (nI kk)), (6, .long (lN h)), (8, .long (lN c)), (10, .int (nI i))]) dX9_hyper_46 (by decide) rfl ?_
          refine v_lload 6 dX9_hyper_48 rfl ?_
          refine v_lconst (v := lN 1) dX9_hyper_50 (by decide) ?_
          refine v_ladd dX9_hyper_51 ?_
          refine v_topl (y := lN (c + 1)) (lN_add _ _) ?_
          refine v_lstore (lv' := [(8, .long (lN (c + 1))), (4, .long (lN (g - 1))), (0, .ref m), (1, .int (nI ga)), (2, .int (nI gb)), (3, .int (nI kk)), (6, .long (lN h)), (10, .int (nI i))]) dX9_hyper_52 (by decide) rfl ?_
          refine v_goto (tgt := 63) dX9_hyper_54 (by decide) ?_
          refine v_iinc (lv' := [(10, .int (nI (i + 1))), (8, .long (lN (c + 1))), (4, .long (lN (g - 1))), (0, .ref m), (1, .int (nI ga)), (2, .int (nI gb)), (3, .int (nI kk)), (6, .long (lN h))]) (v := nI (i + 1)) 7 dX9_hyper_63 rfl (nI_1 i) (by decide) rfl ?_
          refine v_goto (tgt := 14) dX9_hyper_66 (by decide) ?_
          refine v_lv [3, 4, 5, 6, 2, 7, 1, 0] rfl ?_
          exact ih (g - 1) h (c + 1) (i + 1) p1 d1 (by omega) (by omega) (by omega) (by omega) (by omega) (by omega) hp1.2.1 hp1.2.2 (fun u hu => hq u ⟨sHyp_go1 (by omega) c35.1 b39 (by rw [show kk - i - 1 = kk - (i + 1) by omega]; exact hu.1), hu.2⟩)
set_option maxRecDepth 100000 in
set_option maxHeartbeats 4000000 in
theorem kX9_hyper {D : va_G} {cI cJ cT : ClassId} (l : Launch) {m mt mw mb ml mq mz ms mr mi mk mj mn : Nat} {th pc0 dw0 lt0 ic0 ma0 en0 : Int32} {fd sg ln fr e : Nat} {tr : Bool} {tp : Nat → Int32} {b : Nat → Nat} {p : Nat} {dr : Bool} {ga gb kk : Nat} (hB : MB tr fd ln sg tp b e) (hfr : fr ≤ p) (hp : p ≤ e) (hdr : dr = true → p = e) (hga : ga ≤ 100000) (hgb : gb ≤ 100000) (hkk : kk ≤ ga + gb) : Fn (S := Nat × Nat × Bool) (gG D cI cJ cT) l yX9_hyper (.code yX9_hyper cX9_hyper 11 (some .long)) (rmD 2) [.ref m, .int (nI ga), .int (nI gb), .int (nI kk)] [(m, .inr (9, [.int th, .int (nI fd), .int pc0, .int dw0, .int lt0, .ref mt, .ref mw, .ref mb, .ref ml, .ref mq, .ref mz, .ref ms, .ref mr, .int ic0, .ref mi, .int (dI tr), .int (nI sg), .int (nI ln), .int (nI p), .int (nI (p - fr)), .int (dI dr), .int ma0, .ref mk, .int en0, .ref mj, .ref mn])), (mt, .inl (cI, 16384, .inl tp))] (fun u => Rl (sHyp b e kk ga gb 0 p) e p dr u ∧ u.1 ≤ kk) (fun u => some (.long (lN u.1))) (fun u => [(m, .inr (9, [.int th, .int (nI fd), .int pc0, .int dw0, .int lt0, .ref mt, .ref mw, .ref mb, .ref ml, .ref mq, .ref mz, .ref ms, .ref mr, .int ic0, .ref mi, .int (dI tr), .int (nI sg), .int (nI ln), .int (nI u.2.1), .int (nI (u.2.1 - fr)), .int (dI u.2.2), .int ma0, .ref mk, .int en0, .ref mj, .ref mn])), (mt, .inl (cI, 16384, .inl tp))]) := by
  refine Fn.intro (by decide) (Nat.le_of_ble_eq_true rfl) ?_
  intro X hX hE hin
  subst hX
  show V (gG D cI cJ cT) X _ cX9_hyper 11 RX9 _ 0 0 [(0, .ref m), (1, .int (nI ga)), (2, .int (nI gb)), (3, .int (nI kk))] 0 []
  refine v_iload_n 1 dX9_hyper_0 rfl rfl ?_
  refine v_i2l (v := lN ga) dX9_hyper_1 (nI_l (by omega)) ?_
  refine v_lstore (lv' := [(4, .long (lN ga)), (0, .ref m), (1, .int (nI ga)), (2, .int (nI gb)), (3, .int (nI kk))]) dX9_hyper_2 (by decide) rfl ?_
  refine v_iload_n 3 dX9_hyper_4 rfl rfl ?_
  refine v_i2l (v := lN gb) dX9_hyper_5 (nI_l (by omega)) ?_
  refine v_lstore (lv' := [(6, .long (lN gb)), (4, .long (lN ga)), (0, .ref m), (1, .int (nI ga)), (2, .int (nI gb)), (3, .int (nI kk))]) dX9_hyper_6 (by decide) rfl ?_
  refine v_lconst (v := lN 0) dX9_hyper_8 (by decide) ?_
  refine v_lstore (lv' := [(8, .long (lN 0)), (6, .long (lN gb)), (4, .long (lN ga)), (0, .ref m), (1, .int (nI ga)), (2, .int (nI gb)), (3, .int (nI kk))]) dX9_hyper_9 (by decide) rfl ?_
  refine v_iconst (v := nI 0) dX9_hyper_11 (by decide) ?_
  refine v_istore (lv' := [(10, .int (nI 0)), (8, .long (lN 0)), (6, .long (lN gb)), (4, .long (lN ga)), (0, .ref m), (1, .int (nI ga)), (2, .int (nI gb)), (3, .int (nI kk))]) dX9_hyper_12 (by decide) rfl ?_
  refine v_lv [4, 5, 6, 7, 3, 2, 1, 0] rfl ?_
  exact kX9_hyper_loop hB (by omega) hE (kk + 1) ga gb 0 0 p dr (by omega) (by omega) (by omega) (by omega) (by omega) hfr hp hdr (fun u hu => hu)
