set_option maxRecDepth 100000 in
set_option maxHeartbeats 4000000 in
theorem kX9_once_row {D : va_G} {cI cJ cT : ClassId} {X : vX} {m mt mw mb ml mq mz ms mr mi mk mj mn : Nat} {th pc0 dw0 lt0 ic0 ma0 en0 : Int32} {fd sg ln fr e : Nat} {tr : Bool} {tp : Nat → Int32} {b : Nat → Nat} {num den : Nat} (hB : MB tr fd ln sg tp b e) (h0 : 0 < num) (hnd : num < den) (hden : den < 2 ^ 62)  :
    ∀ (j : Nat) (k : Nat) (c : Nat) (p : Nat) (dr : Bool), (dr = false → e - p < k) → fr ≤ p → p ≤ e → (dr = true → p = e) → (if dr = true then 0 else e - p + 1) < j → c + j ≤ 100000 → (∀ u, Rl (sRowL b e num den k c p) e p dr u ∧ u.1 < 500000 → V (gG D cI cJ cT) X (rmD 2) cX9_once 10 RX9 [(m, .inr (9, [.int th, .int (nI fd), .int pc0, .int dw0, .int lt0, .ref mt, .ref mw, .ref mb, .ref ml, .ref mq, .ref mz, .ref ms, .ref mr, .int ic0, .ref mi, .int (dI tr), .int (nI sg), .int (nI ln), .int (nI u.2.1), .int (nI (u.2.1 - fr)), .int (dI u.2.2), .int ma0, .ref mk, .int en0, .ref mj, .ref mn])), (mt, .inl (cI, 16384, .inl tp))] 0 0 [(0, .ref m), (1, .long (lN num)), (3, .long (lN den)), (5, .long (lN u.1))] 36 []) → V (gG D cI cJ cT) X (rmD 2) cX9_once 10 RX9 [(m, .inr (9, [.int th, .int (nI fd), .int pc0, .int dw0, .int lt0, .ref mt, .ref mw, .ref mb, .ref ml, .ref mq, .ref mz, .ref ms, .ref mr, .int ic0, .ref mi, .int (dI tr), .int (nI sg), .int (nI ln), .int (nI p), .int (nI (p - fr)), .int (dI dr), .int ma0, .ref mk, .int en0, .ref mj, .ref mn])), (mt, .inl (cI, 16384, .inl tp))] 0 0 [(0, .ref m), (1, .long (lN num)), (3, .long (lN den)), (5, .long (lN c))] 10 [] := by
  intro j
  induction j with
  | zero => intro k c p dr hk hfr hp hdr hj hcj hq; (try split at hj) <;> omega
  | succ j ih =>
    intro k c p dr hk hfr hp hdr hj hcj hq
    rcases dr with _ | _
    · show V (gG D cI cJ cT) X (rmD 2) cX9_once 10 RX9 [(m, .inr (9, [.int th, .int (nI fd), .int pc0, .int dw0, .int lt0, .ref mt, .ref mw, .ref mb, .ref ml, .ref mq, .ref mz, .ref ms, .ref mr, .int ic0, .ref mi, .int (dI tr), .int (nI sg), .int (nI ln), .int (nI p), .int (nI (p - fr)), .int (dI false), .int ma0, .ref mk, .int en0, .ref mj, .ref mn])), (mt, .inl (cI, 16384, .inl tp))] 0 0 [(0, .ref m), (1, .long (lN num)), (3, .long (lN den)), (5, .long (lN c))] 10 []
      have hkk := hk rfl
      obtain ⟨k, rfl⟩ : ∃ q, k = q + 1 := ⟨k - 1, by omega⟩
      refine v_aload_n 0 dX9_once_10 rfl rfl ?_
      refine v_get f_SampleDeskModel_77 0 rfl rfl dX9_once_11 ?_
      refine v_if_ne (tgt := 36) dX9_once_14 (by decide) (fun b14 => absurd b14 (fun q => q rfl)) (fun b14 => ?_)
      refine v_aload_n 0 dX9_once_17 rfl rfl ?_
      refine v_lload_n 1 dX9_once_18 rfl rfl ?_
      refine v_lload_n 2 dX9_once_19 rfl rfl ?_
      refine v_callV (as := [.long (lN num), .long (lN den)]) (rest := []) (ws' := fun u => [(m, .inr (9, [.int th, .int (nI fd), .int pc0, .int dw0, .int lt0, .ref mt, .ref mw, .ref mb, .ref ml, .ref mq, .ref mz, .ref ms, .ref mr, .int ic0, .ref mi, .int (dI tr), .int (nI sg), .int (nI ln), .int (nI u.2.1), .int (nI (u.2.1 - fr)), .int (dI u.2.2), .int ma0, .ref mk, .int en0, .ref mj, .ref mn])), (mt, .inl (cI, 16384, .inl tp))]) m_SampleDeskModel_109 (kX9_coin X.l (m := m) (mt := mt) (mw := mw) (mb := mb) (ml := ml) (mq := mq) (mz := mz) (ms := ms) (mr := mr) (mi := mi) (mk := mk) (mj := mj) (mn := mn) (th := th) (pc0 := pc0) (dw0 := dw0) (lt0 := lt0) (ic0 := ic0) (en0 := en0) (fd := fd) (sg := sg) (ln := ln) (fr := fr) (e := e) (tr := tr) (tp := tp) (b := b) (ma0 := ma0) (p := p) (dr := false) (num := num) (den := den) hB (by omega) (by omega) (fun h => nomatch h) (by omega) (by omega)) k_code_X9_coin [0, 1] 0 rfl rfl rfl rfl dX9_once_20 (Nat.le_of_ble_eq_true rfl) ⟨rfl, rfl, by decide, by decide⟩ ⟨Nat.zero_le _, Nat.zero_le _⟩ rfl rfl (fun _ => rfl) (v_mgU rfl (fun _ => rfl)) ?_
      intro u20 c20
      obtain ⟨r1, p1, d1⟩ := u20
      try dsimp only at c20
      show V (gG D cI cJ cT) X (rmD 2) cX9_once 10 RX9 [(m, .inr (9, [.int th, .int (nI fd), .int pc0, .int dw0, .int lt0, .ref mt, .ref mw, .ref mb, .ref ml, .ref mq, .ref mz, .ref ms, .ref mr, .int ic0, .ref mi, .int (dI tr), .int (nI sg), .int (nI ln), .int (nI p1), .int (nI (p1 - fr)), .int (dI d1), .int ma0, .ref mk, .int en0, .ref mj, .ref mn])), (mt, .inl (cI, 16384, .inl tp))] 0 0 [(0, .ref m), (1, .long (lN num)), (3, .long (lN den)), (5, .long (lN c))] 23 [.int (nI r1)]
      have hr1 : r1 ≤ 1 := c20.2
      have hp1 := Rl_p c20.1
      refine v_iconst (v := nI 1) dX9_once_23 (by decide) ?_
      refine v_icmp_ne (tgt := 36) dX9_once_24 (by decide) (fun b24 => ?_) (fun b24 => ?_)
      · have b24 : ¬ (r1 = 1) := fun q => b24 ((nI_eq (by omega) (by decide)).mpr q)
        exact hq (c, p1, d1) ⟨sRow_out c20.1 b24, by show c < 500000; omega⟩
      · have b24 : r1 = 1 := (nI_eq (by omega) (by decide)).mp b24
        refine v_lload 3 dX9_once_27 rfl ?_
        refine v_lconst (v := lN 1) dX9_once_29 (by decide) ?_
        refine v_ladd dX9_once_30 ?_
        refine v_topl (y := lN (c + 1)) (lN_add _ _) ?_
        refine v_lstore (lv' := [(5, .long (lN (c + 1))), (0, .ref m), (1, .long (lN num)), (3, .long (lN den))]) dX9_once_31 (by decide) rfl ?_
        refine v_goto (tgt := 10) dX9_once_33 (by decide) ?_
        refine v_lv [1, 2, 3, 0] rfl ?_
        rcases d1 with _ | _
        · have hs := (sCoin_gt h0 hnd (Rl_f c20.1 rfl).2.1).1
          simp only at hs
          exact ih k (c + 1) p1 false (fun _ => by omega) (by omega) hp1.2.1 hp1.2.2 (by rw [if_neg (by decide)] at hj ⊢; omega) (by omega) (fun u hu => hq u ⟨sRow_go c20.1 b24 hu.1, hu.2⟩)
        · exact ih k (c + 1) p1 true (fun h => nomatch h) (by omega) hp1.2.1 hp1.2.2 (by rw [if_neg (by decide)] at hj; rw [if_pos rfl]; omega) (by omega) (fun u hu => hq u ⟨sRow_go c20.1 b24 hu.1, hu.2⟩)
    · show V (gG D cI cJ cT) X (rmD 2) cX9_once 10 RX9 [(m, .inr (9, [.int th, .int (nI fd), .int pc0, .int dw0, .int lt0, .ref mt, .ref mw, .ref mb, .ref ml, .ref mq, .ref mz, .ref ms, .ref mr, .int ic0, .ref mi, .int (dI tr), .int (nI sg), .int (nI ln), .int (nI p), .int (nI (p - fr)), .int (dI true), .int ma0, .ref mk, .int en0, .ref mj, .ref mn])), (mt, .inl (cI, 16384, .inl tp))] 0 0 [(0, .ref m), (1, .long (lN num)), (3, .long (lN den)), (5, .long (lN c))] 10 []
      refine v_aload_n 0 dX9_once_10 rfl rfl ?_
      refine v_get f_SampleDeskModel_77 0 rfl rfl dX9_once_11 ?_
      refine v_if_ne (tgt := 36) dX9_once_14 (by decide) (fun b14 => ?_) (fun b14 => absurd b14 (by decide))
      exact hq (c, p, true) ⟨Rl_over rfl (hdr rfl), by show c < 500000; omega⟩
set_option maxRecDepth 100000 in
set_option maxHeartbeats 4000000 in
theorem kX9_once_zer {D : va_G} {cI cJ cT : ClassId} {X : vX} {m mt mw mb ml mq mz ms mr mi mk mj mn : Nat} {th pc0 dw0 lt0 ic0 ma0 en0 : Int32} {fd sg ln fr e : Nat} {tr : Bool} {tp : Nat → Int32} {b : Nat → Nat} {num den nn : Nat} (hB : MB tr fd ln sg tp b e) (hnn : nn < 600000)  :
    ∀ (k : Nat) (m0 : Nat) (p : Nat) (dr : Bool), 2 ≤ m0 ∧ m0 ≤ 700000 → nn + 1 - m0 < k → fr ≤ p → p ≤ e → (dr = true → p = e) → (∀ u, Rl (sZer b e (nn + 1 - m0) m0 p) e p dr u ∧ u.1 ≤ 1 → V (gG D cI cJ cT) X (rmD 2) cX9_once 10 RX9 [(m, .inr (9, [.int th, .int (nI fd), .int pc0, .int dw0, .int lt0, .ref mt, .ref mw, .ref mb, .ref ml, .ref mq, .ref mz, .ref ms, .ref mr, .int ic0, .ref mi, .int (dI tr), .int (nI sg), .int (nI ln), .int (nI u.2.1), .int (nI (u.2.1 - fr)), .int (dI u.2.2), .int ma0, .ref mk, .int en0, .ref mj, .ref mn])), (mt, .inl (cI, 16384, .inl tp))] 0 0 [(0, .ref m), (1, .long (lN num)), (3, .long (lN den)), (5, .long (lN nn)), (7, .int (nI u.1))] 91 []) → V (gG D cI cJ cT) X (rmD 2) cX9_once 10 RX9 [(m, .inr (9, [.int th, .int (nI fd), .int pc0, .int dw0, .int lt0, .ref mt, .ref mw, .ref mb, .ref ml, .ref mq, .ref mz, .ref ms, .ref mr, .int ic0, .ref mi, .int (dI tr), .int (nI sg), .int (nI ln), .int (nI p), .int (nI (p - fr)), .int (dI dr), .int ma0, .ref mk, .int en0, .ref mj, .ref mn])), (mt, .inl (cI, 16384, .inl tp))] 0 0 [(0, .ref m), (1, .long (lN num)), (3, .long (lN den)), (5, .long (lN nn)), (7, .int (nI 1)), (8, .long (lN m0))] 44 [] := by
  intro k
  induction k with
  | zero => intro m0 p dr hm hk hfr hp hdr hq; omega
  | succ k ih =>
    intro m0 p dr hm hk hfr hp hdr hq
    refine v_lload 5 dX9_once_44 rfl ?_
    refine v_lload 3 dX9_once_46 rfl ?_
    refine v_lcmp dX9_once_48 ?_
    refine v_if_gt (tgt := 91) dX9_once_49 (by decide) (fun b49 => ?_) (fun b49 => ?_)
    · have b49 : nn < m0 := (z_gt (by omega) (by omega)).mp b49
      refine v_lv [0, 1, 2, 3, 4] rfl ?_
      exact hq (1, p, dr) ⟨Rl_here hp hdr (sZer_end (by omega)), Nat.le_refl _⟩
    · have b49 : ¬ (nn < m0) := fun q => b49 ((z_gt (by omega) (by omega)).mpr q)
      refine v_iload 4 dX9_once_52 rfl ?_
      refine v_if_eq (tgt := 91) dX9_once_54 (by decide) (fun b54 => absurd b54 (by decide)) (fun b54 => ?_)
      refine v_aload_n 0 dX9_once_57 rfl rfl ?_
      refine v_get f_SampleDeskModel_77 0 rfl rfl dX9_once_58 ?_
      refine v_if_ne (tgt := 91) dX9_once_61 (by decide) (fun b61 => ?_) (fun b61 => ?_)
      · have b61 : ¬ (dr = false) := fun q => b61 ((dI_0 dr).mpr q)
        refine v_lv [0, 1, 2, 3, 4] rfl ?_
        exact hq (1, p, dr) ⟨Rl_over (by simpa using b61) (hdr (by simpa using b61)), Nat.le_refl _⟩
      · have b61 : dr = false := (dI_0 dr).mp b61
        refine v_aload_n 0 dX9_once_64 rfl rfl ?_
        refine v_lload 5 dX9_once_65 rfl ?_
        refine v_callV (as := [.long (lN m0)]) (rest := []) (ws' := fun u => [(m, .inr (9, [.int th, .int (nI fd), .int pc0, .int dw0, .int lt0, .ref mt, .ref mw, .ref mb, .ref ml, .ref mq, .ref mz, .ref ms, .ref mr, .int ic0, .ref mi, .int (dI tr), .int (nI sg), .int (nI ln), .int (nI u.2.1), .int (nI (u.2.1 - fr)), .int (dI u.2.2), .int ma0, .ref mk, .int en0, .ref mj, .ref mn])), (mt, .inl (cI, 16384, .inl tp))]) m_SampleDeskModel_105 (kX9_uniform X.l (m := m) (mt := mt) (mw := mw) (mb := mb) (ml := ml) (mq := mq) (mz := mz) (ms := ms) (mr := mr) (mi := mi) (mk := mk) (mj := mj) (mn := mn) (th := th) (pc0 := pc0) (dw0 := dw0) (lt0 := lt0) (ic0 := ic0) (en0 := en0) (fd := fd) (sg := sg) (ln := ln) (fr := fr) (e := e) (tr := tr) (tp := tp) (b := b) (ma0 := ma0) (p := p) (dr := dr) (nn := m0) hB (by omega) (by omega) hdr (by omega) (by omega)) k_code_X9_uniform [0, 1] 0 rfl rfl rfl rfl dX9_once_67 (Nat.le_of_ble_eq_true rfl) ⟨rfl, rfl, by decide, by decide⟩ ⟨Nat.zero_le _, Nat.zero_le _⟩ rfl rfl (fun _ => rfl) (v_mgU rfl (fun _ => rfl)) ?_
        intro u67 c67
        obtain ⟨r1, p1, d1⟩ := u67
        try dsimp only at c67
        show V (gG D cI cJ cT) X (rmD 2) cX9_once 10 RX9 [(m, .inr (9, [.int th, .int (nI fd), .int pc0, .int dw0, .int lt0, .ref mt, .ref mw, .ref mb, .ref ml, .ref mq, .ref mz, .ref ms, .ref mr, .int ic0, .ref mi, .int (dI tr), .int (nI sg), .int (nI ln), .int (nI p1), .int (nI (p1 - fr)), .int (dI d1), .int ma0, .ref mk, .int en0, .ref mj, .ref mn])), (mt, .inl (cI, 16384, .inl tp))] 0 0 [(0, .ref m), (1, .long (lN num)), (3, .long (lN den)), (5, .long (lN nn)), (7, .int (nI 1)), (8, .long (lN m0))] 70 [.long (lN r1)]
        have hr1 := c67.2
        have hp1 := Rl_p c67.1
        refine v_lconst (v := lN 0) dX9_once_70 (by decide) ?_
        refine v_lcmp dX9_once_71 ?_
        refine v_if_ne (tgt := 79) dX9_once_72 (by decide) (fun b72 => ?_) (fun b72 => ?_)
        · have b72 : ¬ (r1 = 0) := fun q => b72 ((z_eq (by omega) (by decide)).mpr q)
          refine v_iconst (v := nI 0) dX9_once_79 (by decide) ?_
          refine v_istore (lv' := [(7, .int (nI 0)), (0, .ref m), (1, .long (lN num)), (3, .long (lN den)), (5, .long (lN nn)), (8, .long (lN m0))]) dX9_once_80 (by decide) rfl ?_
          refine v_lload 5 dX9_once_82 rfl ?_
          refine v_lconst (v := lN 1) dX9_once_84 (by decide) ?_
          refine v_ladd dX9_once_85 ?_
          refine v_topl (y := lN (m0 + 1)) (lN_add _ _) ?_
          refine v_lstore (lv' := [(8, .long (lN (m0 + 1))), (7, .int (nI 0)), (0, .ref m), (1, .long (lN num)), (3, .long (lN den)), (5, .long (lN nn))]) dX9_once_86 (by decide) rfl ?_
          refine v_goto (tgt := 44) dX9_once_88 (by decide) ?_
          refine v_lload 0 dX9_once_44 rfl ?_
          refine v_lload 5 dX9_once_46 rfl ?_
          refine v_lcmp dX9_once_48 ?_
          refine v_if_gt (tgt := 91) dX9_once_49 (by decide) (fun b49 => ?_) (fun b49 => ?_)
          · have b49 : nn < m0 + 1 := (z_gt (by omega) (by omega)).mp b49
            refine v_lv [2, 3, 4, 5, 1] rfl ?_
            exact hq (0, p1, d1) ⟨sZer_out (by omega) c67.1 b72, Nat.zero_le _⟩
          · have b49 : ¬ (nn < m0 + 1) := fun q => b49 ((z_gt (by omega) (by omega)).mpr q)
            refine v_iload 1 dX9_once_52 rfl ?_
            refine v_if_eq (tgt := 91) dX9_once_54 (by decide) (fun b54 => ?_) (fun b54 => absurd (rfl) b54)
            refine v_lv [2, 3, 4, 5, 1] rfl ?_
            exact hq (0, p1, d1) ⟨sZer_out (by omega) c67.1 b72, Nat.zero_le _⟩
        · have b72 : r1 = 0 := (z_eq (by omega) (by decide)).mp b72
          refine v_iconst (v := nI 1) dX9_once_75 (by decide) ?_
          refine v_goto (tgt := 80) dX9_once_76 (by decide) ?_
          refine v_istore (lv' := [(7, .int (nI 1)), (0, .ref m), (1, .long (lN num)), (3, .long (lN den)), (5, .long (lN nn)), (8, .long (lN m0))]) dX9_once_80 (by decide) rfl ?_
          refine v_lload 5 dX9_once_82 rfl ?_
          refine v_lconst (v := lN 1) dX9_once_84 (by decide) ?_
          refine v_ladd dX9_once_85 ?_
          refine v_topl (y := lN (m0 + 1)) (lN_add _ _) ?_
          refine v_lstore (lv' := [(8, .long (lN (m0 + 1))), (7, .int (nI 1)), (0, .ref m), (1, .long (lN num)), (3, .long (lN den)), (5, .long (lN nn))]) dX9_once_86 (by decide) rfl ?_
          refine v_goto (tgt := 44) dX9_once_88 (by decide) ?_
          refine v_lv [2, 3, 4, 5, 1, 0] rfl ?_
          exact ih (m0 + 1) p1 d1 (by omega) (by omega) (by omega) hp1.2.1 hp1.2.2 (fun u hu => hq u ⟨sZer_go (by omega) c67.1 b72 hu.1, hu.2⟩)
set_option maxRecDepth 100000 in
set_option maxHeartbeats 4000000 in
theorem kX9_once_loop {D : va_G} {cI cJ cT : ClassId} {X : vX} {m mt mw mb ml mq mz ms mr mi mk mj mn : Nat} {th pc0 dw0 lt0 ic0 ma0 en0 : Int32} {fd sg ln fr e : Nat} {tr : Bool} {tp : Nat → Int32} {b : Nat → Nat} {num den : Nat} (hB : MB tr fd ln sg tp b e) (h0 : 0 < num) (hnd : num < den) (hden : den < 2 ^ 62) (he16 : e ≤ 16384) {W0 : va_W} {post : Nat × Nat × Bool → Prop} (hE : vE (gG D cI cJ cT) X (some .long) W0 post (fun u => some (.long (lN u.1))) (fun u => [(m, .inr (9, [.int th, .int (nI fd), .int pc0, .int dw0, .int lt0, .ref mt, .ref mw, .ref mb, .ref ml, .ref mq, .ref mz, .ref ms, .ref mr, .int ic0, .ref mi, .int (dI tr), .int (nI sg), .int (nI ln), .int (nI u.2.1), .int (nI (u.2.1 - fr)), .int (dI u.2.2), .int ma0, .ref mk, .int en0, .ref mj, .ref mn])), (mt, .inl (cI, 16384, .inl tp))])) :
    ∀ (k : Nat) (p : Nat) (dr : Bool), e - p + (if dr = true then 0 else 1) < k → fr ≤ p → p ≤ e → (dr = true → p = e) → (∀ u, Rl (sOncL b e num den k p) e p dr u ∧ u.1 < 500000 → post u) → V (gG D cI cJ cT) X (rmD 2) cX9_once 10 RX9 [(m, .inr (9, [.int th, .int (nI fd), .int pc0, .int dw0, .int lt0, .ref mt, .ref mw, .ref mb, .ref ml, .ref mq, .ref mz, .ref ms, .ref mr, .int ic0, .ref mi, .int (dI tr), .int (nI sg), .int (nI ln), .int (nI p), .int (nI (p - fr)), .int (dI dr), .int ma0, .ref mk, .int en0, .ref mj, .ref mn])), (mt, .inl (cI, 16384, .inl tp))] 0 0 [(0, .ref m), (1, .long (lN num)), (3, .long (lN den))] 0 [] := by
  intro k
  induction k with
  | zero => intro p dr hk hfr hp hdr hq; omega
  | succ k ih =>
    intro p dr hk hfr hp hdr hq
    refine v_aload_n 0 dX9_once_0 rfl rfl ?_
    refine v_get f_SampleDeskModel_77 0 rfl rfl dX9_once_1 ?_
    refine v_if_ne (tgt := 102) dX9_once_4 (by decide) (fun b4 => ?_) (fun b4 => ?_)
    · have b4 : ¬ (dr = false) := fun q => b4 ((dI_0 dr).mpr q)
      refine v_lconst (v := lN 0) dX9_once_102 (by decide) ?_
      exact v_lret hE dX9_once_103 (0, p, dr) (hq _ ⟨Rl_over (by simpa using b4) (hdr (by simpa using b4)), by show 0 < 500000; decide⟩) rfl rfl
    · have b4 : dr = false := (dI_0 dr).mp b4
      refine v_lconst (v := lN 0) dX9_once_7 (by decide) ?_
      refine v_lstore (lv' := [(5, .long (lN 0)), (0, .ref m), (1, .long (lN num)), (3, .long (lN den))]) dX9_once_8 (by decide) rfl ?_
      refine v_lv [1, 2, 3, 0] rfl ?_
      refine kX9_once_row hB h0 hnd hden (e - p + 2) (e - p + 1) 0 p dr (fun _ => by omega) hfr hp hdr (by split <;> omega) (by omega) (fun u1 c1 => ?_)
      obtain ⟨r1, p1, d1⟩ := u1
      dsimp only at c1
      have hp1 := Rl_p c1.1
      have hr1 : r1 < 500000 := c1.2
      show V (gG D cI cJ cT) X (rmD 2) cX9_once 10 RX9 [(m, .inr (9, [.int th, .int (nI fd), .int pc0, .int dw0, .int lt0, .ref mt, .ref mw, .ref mb, .ref ml, .ref mq, .ref mz, .ref ms, .ref mr, .int ic0, .ref mi, .int (dI tr), .int (nI sg), .int (nI ln), .int (nI p1), .int (nI (p1 - fr)), .int (dI d1), .int ma0, .ref mk, .int en0, .ref mj, .ref mn])), (mt, .inl (cI, 16384, .inl tp))] 0 0 [(0, .ref m), (1, .long (lN num)), (3, .long (lN den)), (5, .long (lN r1))] 36 []
      refine v_iconst (v := nI 1) dX9_once_36 (by decide) ?_
      refine v_istore (lv' := [(7, .int (nI 1)), (0, .ref m), (1, .long (lN num)), (3, .long (lN den)), (5, .long (lN r1))]) dX9_once_37 (by decide) rfl ?_
      refine v_ldc2 (v := lN 2) k_c_SampleDeskModel_96 dX9_once_39 ?_
      refine v_lstore (lv' := [(8, .long (lN 2)), (7, .int (nI 1)), (0, .ref m), (1, .long (lN num)), (3, .long (lN den)), (5, .long (lN r1))]) dX9_once_42 (by decide) rfl ?_
      refine v_lv [2, 3, 4, 5, 1, 0] rfl ?_
      refine kX9_once_zer hB (nn := r1) (by omega) (r1 + 2) 2 p1 d1 (by omega) (by omega) (by omega) hp1.2.1 hp1.2.2 (fun u2 c2 => ?_)
      obtain ⟨z, p2, d2⟩ := u2
      dsimp only at c2
      have hp2 := Rl_p c2.1
      have hz : z ≤ 1 := c2.2
      show V (gG D cI cJ cT) X (rmD 2) cX9_once 10 RX9 [(m, .inr (9, [.int th, .int (nI fd), .int pc0, .int dw0, .int lt0, .ref mt, .ref mw, .ref mb, .ref ml, .ref mq, .ref mz, .ref ms, .ref mr, .int ic0, .ref mi, .int (dI tr), .int (nI sg), .int (nI ln), .int (nI p2), .int (nI (p2 - fr)), .int (dI d2), .int ma0, .ref mk, .int en0, .ref mj, .ref mn])), (mt, .inl (cI, 16384, .inl tp))] 0 0 [(0, .ref m), (1, .long (lN num)), (3, .long (lN den)), (5, .long (lN r1)), (7, .int (nI z))] 91 []
      refine v_iload 4 dX9_once_91 rfl ?_
      refine v_if_eq (tgt := 99) dX9_once_93 (by decide) (fun b93 => ?_) (fun b93 => ?_)
      · have b93 : z = 0 := ((show nI z = 0 ↔ z = 0 from nI_eq (b := 0) (by omega) (by decide))).mp b93
        refine v_goto (tgt := 0) dX9_once_99 (by decide) ?_
        refine v_lv [0, 1, 2] rfl ?_
        exact ih p2 d2 (onc_adv h0 hnd c1.1 b4 hp2 hp1 c2.1.1 hk) (by omega) hp2.2.1 hp2.2.2 (fun u hu => hq u ⟨sOnc_go c1.1 c2.1 (by omega) hu.1, hu.2⟩)
      · have b93 : ¬ (z = 0) := fun q => b93 (((show nI z = 0 ↔ z = 0 from nI_eq (b := 0) (by omega) (by decide))).mpr q)
        refine v_lload 3 dX9_once_96 rfl ?_
        exact v_lret hE dX9_once_98 (r1, p2, d2) (hq _ ⟨sOnc_out c1.1 c2.1 (by omega), hr1⟩) rfl rfl
set_option maxRecDepth 100000 in
set_option maxHeartbeats 4000000 in
theorem kX9_once {D : va_G} {cI cJ cT : ClassId} (l : Launch) {m mt mw mb ml mq mz ms mr mi mk mj mn : Nat} {th pc0 dw0 lt0 ic0 ma0 en0 : Int32} {fd sg ln fr e : Nat} {tr : Bool} {tp : Nat → Int32} {b : Nat → Nat} {p : Nat} {dr : Bool} {num den : Nat} (hB : MB tr fd ln sg tp b e) (hfr : fr ≤ p) (hp : p ≤ e) (hdr : dr = true → p = e) (h0 : 0 < num) (hnd : num < den) (hden : den < 2 ^ 62) : Fn (S := Nat × Nat × Bool) (gG D cI cJ cT) l yX9_once (.code yX9_once cX9_once 10 (some .long)) (rmD 2) [.ref m, .long (lN num), .long (lN den)] [(m, .inr (9, [.int th, .int (nI fd), .int pc0, .int dw0, .int lt0, .ref mt, .ref mw, .ref mb, .ref ml, .ref mq, .ref mz, .ref ms, .ref mr, .int ic0, .ref mi, .int (dI tr), .int (nI sg), .int (nI ln), .int (nI p), .int (nI (p - fr)), .int (dI dr), .int ma0, .ref mk, .int en0, .ref mj, .ref mn])), (mt, .inl (cI, 16384, .inl tp))] (fun u => Rl (sOnc b e num den p) e p dr u ∧ u.1 < 500000) (fun u => some (.long (lN u.1))) (fun u => [(m, .inr (9, [.int th, .int (nI fd), .int pc0, .int dw0, .int lt0, .ref mt, .ref mw, .ref mb, .ref ml, .ref mq, .ref mz, .ref ms, .ref mr, .int ic0, .ref mi, .int (dI tr), .int (nI sg), .int (nI ln), .int (nI u.2.1), .int (nI (u.2.1 - fr)), .int (dI u.2.2), .int ma0, .ref mk, .int en0, .ref mj, .ref mn])), (mt, .inl (cI, 16384, .inl tp))]) := by
  refine Fn.intro (by decide) (Nat.le_of_ble_eq_true rfl) ?_
  intro X hX hE hin
  subst hX
  show V (gG D cI cJ cT) X _ cX9_once 10 RX9 _ 0 0 [(0, .ref m), (1, .long (lN num)), (3, .long (lN den))] 0 []
  exact kX9_once_loop hB h0 hnd hden hB.1 hE (e - p + 2) p dr (by split <;> omega) hfr hp hdr (fun u hu => hu)
set_option maxRecDepth 100000 in
set_option maxHeartbeats 4000000 in
theorem kX9_poisson_loop {D : va_G} {cI cJ cT : ClassId} {X : vX} {m mt mw mb ml mq mz ms mr mi mk mj mn : Nat} {th pc0 dw0 lt0 ic0 ma0 en0 : Int32} {fd sg ln fr e : Nat} {tr : Bool} {tp : Nat → Int32} {b : Nat → Nat} {num den tt : Nat} (hB : MB tr fd ln sg tp b e) (h0 : 0 < num) (htt : tt ≤ 128) (htd : num < tt * den) (htd2 : tt * den < 2 ^ 62) {W0 : va_W} {post : Nat × Nat × Bool → Prop} (hE : vE (gG D cI cJ cT) X (some .long) W0 post (fun u => some (.long (lN u.1))) (fun u => [(m, .inr (9, [.int th, .int (nI fd), .int pc0, .int dw0, .int lt0, .ref mt, .ref mw, .ref mb, .ref ml, .ref mq, .ref mz, .ref ms, .ref mr, .int ic0, .ref mi, .int (dI tr), .int (nI sg), .int (nI ln), .int (nI u.2.1), .int (nI (u.2.1 - fr)), .int (dI u.2.2), .int ma0, .ref mk, .int en0, .ref mj, .ref mn])), (mt, .inl (cI, 16384, .inl tp))])) :
    ∀ (k : Nat) (c : Nat) (i : Nat) (p : Nat) (dr : Bool), i ≤ tt → tt - i < k → fr ≤ p → p ≤ e → (dr = true → p = e) → (∀ u, Rl (sPoi b e num (tt * den) (tt - i) c p) e p dr u → post u) → V (gG D cI cJ cT) X (rmD 3) cX9_poisson 11 RX9 [(m, .inr (9, [.int th, .int (nI fd), .int pc0, .int dw0, .int lt0, .ref mt, .ref mw, .ref mb, .ref ml, .ref mq, .ref mz, .ref ms, .ref mr, .int ic0, .ref mi, .int (dI tr), .int (nI sg), .int (nI ln), .int (nI p), .int (nI (p - fr)), .int (dI dr), .int ma0, .ref mk, .int en0, .ref mj, .ref mn])), (mt, .inl (cI, 16384, .inl tp))] 0 0 [(0, .ref m), (1, .long (lN num)), (3, .long (lN den)), (5, .long (lN tt)), (7, .long (lN c)), (9, .long (lN i))] 27 [] := by
  intro k
  induction k with
  | zero => intro c i p dr hi hk hfr hp hdr hq; omega
  | succ k ih =>
    intro c i p dr hi hk hfr hp hdr hq
    refine v_lload 5 dX9_poisson_27 rfl ?_
    refine v_lload 3 dX9_poisson_29 rfl ?_
    refine v_lcmp dX9_poisson_31 ?_
    refine v_if_ge (tgt := 65) dX9_poisson_32 (by decide) (fun b32 => ?_) (fun b32 => ?_)
    · have b32 : tt ≤ i := (z_ge (by omega) (by omega)).mp b32
      refine v_lload 4 dX9_poisson_65 rfl ?_
      exact v_lret hE dX9_poisson_67 (c, p, dr) (hq _ (Rl_here hp hdr (sPoi_end b32))) rfl rfl
    · have b32 : ¬ (tt ≤ i) := fun q => b32 ((z_ge (by omega) (by omega)).mpr q)
      refine v_aload_n 0 dX9_poisson_35 rfl rfl ?_
      refine v_get f_SampleDeskModel_77 0 rfl rfl dX9_poisson_36 ?_
      refine v_if_ne (tgt := 65) dX9_poisson_39 (by decide) (fun b39 => ?_) (fun b39 => ?_)
      · have b39 : ¬ (dr = false) := fun q => b39 ((dI_0 dr).mpr q)
        refine v_lload 4 dX9_poisson_65 rfl ?_
        exact v_lret hE dX9_poisson_67 (c, p, dr) (hq _ (Rl_over (by simpa using b39) (hdr (by simpa using b39)))) rfl rfl
      · have b39 : dr = false := (dI_0 dr).mp b39
        refine v_lload 4 dX9_poisson_42 rfl ?_
        refine v_aload_n 0 dX9_poisson_44 rfl rfl ?_
        refine v_lload_n 1 dX9_poisson_45 rfl rfl ?_
        refine v_lload 3 dX9_poisson_46 rfl ?_
        refine v_lload_n 2 dX9_poisson_48 rfl rfl ?_
        refine v_lmul dX9_poisson_49 ?_
        refine v_topl (y := lN (tt * den)) (lN_mul _ _) ?_
        refine v_callV (as := [.long (lN num), .long (lN (tt * den))]) (rest := [.long (lN c)]) (ws' := fun u => [(m, .inr (9, [.int th, .int (nI fd), .int pc0, .int dw0, .int lt0, .ref mt, .ref mw, .ref mb, .ref ml, .ref mq, .ref mz, .ref ms, .ref mr, .int ic0, .ref mi, .int (dI tr), .int (nI sg), .int (nI ln), .int (nI u.2.1), .int (nI (u.2.1 - fr)), .int (dI u.2.2), .int ma0, .ref mk, .int en0, .ref mj, .ref mn])), (mt, .inl (cI, 16384, .inl tp))]) m_SampleDeskModel_116 (kX9_once X.l (m := m) (mt := mt) (mw := mw) (mb := mb) (ml := ml) (mq := mq) (mz := mz) (ms := ms) (mr := mr) (mi := mi) (mk := mk) (mj := mj) (mn := mn) (th := th) (pc0 := pc0) (dw0 := dw0) (lt0 := lt0) (ic0 := ic0) (en0 := en0) (fd := fd) (sg := sg) (ln := ln) (fr := fr) (e := e) (tr := tr) (tp := tp) (b := b) (ma0 := ma0) (p := p) (dr := dr) (num := num) (den := tt * den) hB (by omega) (by omega) hdr h0 htd (by omega)) k_code_X9_once [0, 1] 0 rfl rfl rfl rfl dX9_poisson_50 (Nat.le_of_ble_eq_true rfl) ⟨rfl, rfl, by decide, by decide⟩ ⟨Nat.zero_le _, Nat.zero_le _⟩ rfl rfl (fun _ => rfl) (v_mgU rfl (fun _ => rfl)) ?_
        intro u50 c50
        obtain ⟨r1, p1, d1⟩ := u50
        try dsimp only at c50
        show V (gG D cI cJ cT) X (rmD 3) cX9_poisson 11 RX9 [(m, .inr (9, [.int th, .int (nI fd), .int pc0, .int dw0, .int lt0, .ref mt, .ref mw, .ref mb, .ref ml, .ref mq, .ref mz, .ref ms, .ref mr, .int ic0, .ref mi, .int (dI tr), .int (nI sg), .int (nI ln), .int (nI p1), .int (nI (p1 - fr)), .int (dI d1), .int ma0, .ref mk, .int en0, .ref mj, .ref mn])), (mt, .inl (cI, 16384, .inl tp))] 0 0 [(0, .ref m), (1, .long (lN num)), (3, .long (lN den)), (5, .long (lN tt)), (7, .long (lN c)), (9, .long (lN i))] 53 [.long (lN r1), .long (lN c)]
        have hp1 := Rl_p c50.1
        refine v_ladd dX9_poisson_53 ?_
        refine v_topl (y := lN (c + r1)) (lN_add _ _) ?_
        refine v_lstore (lv' := [(7, .long (lN (c + r1))), (0, .ref m), (1, .long (lN num)), (3, .long (lN den)), (5, .long (lN tt)), (9, .long (lN i))]) dX9_poisson_54 (by decide) rfl ?_
        refine v_lload 5 dX9_poisson_56 rfl ?_
        refine v_lconst (v := lN 1) dX9_poisson_58 (by decide) ?_
        refine v_ladd dX9_poisson_59 ?_
        refine v_topl (y := lN (i + 1)) (lN_add _ _) ?_
        refine v_lstore (lv' := [(9, .long (lN (i + 1))), (7, .long (lN (c + r1))), (0, .ref m), (1, .long (lN num)), (3, .long (lN den)), (5, .long (lN tt))]) dX9_poisson_60 (by decide) rfl ?_
        refine v_goto (tgt := 27) dX9_poisson_62 (by decide) ?_
        refine v_lv [2, 3, 4, 5, 1, 0] rfl ?_
        exact ih (c + r1) (i + 1) p1 d1 (by omega) (by omega) (by omega) hp1.2.1 hp1.2.2 (fun u hu => hq u (sPoi_go (by omega) c50.1 hu))
set_option maxRecDepth 100000 in
set_option maxHeartbeats 4000000 in
theorem kX9_poisson {D : va_G} {cI cJ cT : ClassId} (l : Launch) {m mt mw mb ml mq mz ms mr mi mk mj mn : Nat} {th pc0 dw0 lt0 ic0 ma0 en0 : Int32} {fd sg ln fr e : Nat} {tr : Bool} {tp : Nat → Int32} {b : Nat → Nat} {p : Nat} {dr : Bool} {num den : Nat} (hB : MB tr fd ln sg tp b e) (hfr : fr ≤ p) (hp : p ≤ e) (hdr : dr = true → p = e) (hn31 : num < 2 ^ 31) (hd0 : 0 < den) (hnum : num ≤ 64 * den) (hden : den < 2 ^ 31) : Fn (S := Nat × Nat × Bool) (gG D cI cJ cT) l yX9_poisson (.code yX9_poisson cX9_poisson 11 (some .long)) (rmD 3) [.ref m, .long (lN num), .long (lN den)] [(m, .inr (9, [.int th, .int (nI fd), .int pc0, .int dw0, .int lt0, .ref mt, .ref mw, .ref mb, .ref ml, .ref mq, .ref mz, .ref ms, .ref mr, .int ic0, .ref mi, .int (dI tr), .int (nI sg), .int (nI ln), .int (nI p), .int (nI (p - fr)), .int (dI dr), .int ma0, .ref mk, .int en0, .ref mj, .ref mn])), (mt, .inl (cI, 16384, .inl tp))] (fun u => Rl (sPoisson b e num den p) e p dr u) (fun u => some (.long (lN u.1))) (fun u => [(m, .inr (9, [.int th, .int (nI fd), .int pc0, .int dw0, .int lt0, .ref mt, .ref mw, .ref mb, .ref ml, .ref mq, .ref mz, .ref ms, .ref mr, .int ic0, .ref mi, .int (dI tr), .int (nI sg), .int (nI ln), .int (nI u.2.1), .int (nI (u.2.1 - fr)), .int (dI u.2.2), .int ma0, .ref mk, .int en0, .ref mj, .ref mn])), (mt, .inl (cI, 16384, .inl tp))]) := by
  refine Fn.intro (by decide) (Nat.le_of_ble_eq_true rfl) ?_
  intro X hX hE hin
  subst hX
  show V (gG D cI cJ cT) X _ cX9_poisson 11 RX9 _ 0 0 [(0, .ref m), (1, .long (lN num)), (3, .long (lN den))] 0 []
  refine v_lload_n 1 dX9_poisson_0 rfl rfl ?_
  refine v_lconst (v := lN 0) dX9_poisson_1 (by decide) ?_
  refine v_lcmp dX9_poisson_2 ?_
  refine v_if_ne (tgt := 8) dX9_poisson_3 (by decide) (fun b3 => ?_) (fun b3 => ?_)
  · have b3 : ¬ (num = 0) := fun q => b3 ((z_eq (by omega) (by decide)).mpr q)
    refine v_ldc2 (v := lN 2) k_c_SampleDeskModel_96 dX9_poisson_8 ?_
    refine v_lload_n 1 dX9_poisson_11 rfl rfl ?_
    refine v_lmul dX9_poisson_12 ?_
    refine v_topl (y := lN (2 * num)) (lN_mul _ _) ?_
    refine v_lload_n 2 dX9_poisson_13 rfl rfl ?_
    refine v_ladd dX9_poisson_14 ?_
    refine v_topl (y := lN (2 * num + den)) (lN_add _ _) ?_
    refine v_lconst (v := lN 1) dX9_poisson_15 (by decide) ?_
    refine v_lsub dX9_poisson_16 ?_
    refine v_topl (y := lN (2 * num + den - 1)) (lN_sub (by omega)) ?_
    refine v_lload_n 2 dX9_poisson_17 rfl rfl ?_
    refine v_ldiv dX9_poisson_18 (fun h => absurd ((pk_lEQ (by omega) (by decide)).mp (show lN den = lN 0 from h)) (by omega)) ?_
    refine v_topl (y := lN (poT num den)) (pk_lDiv (by omega) (by omega) (by omega)) ?_
    refine v_lstore (lv' := [(5, .long (lN (poT num den))), (0, .ref m), (1, .long (lN num)), (3, .long (lN den))]) dX9_poisson_19 (by decide) rfl ?_
    refine v_lconst (v := lN 0) dX9_poisson_21 (by decide) ?_
    refine v_lstore (lv' := [(7, .long (lN 0)), (5, .long (lN (poT num den))), (0, .ref m), (1, .long (lN num)), (3, .long (lN den))]) dX9_poisson_22 (by decide) rfl ?_
    refine v_lconst (v := lN 0) dX9_poisson_24 (by decide) ?_
    refine v_lstore (lv' := [(9, .long (lN 0)), (7, .long (lN 0)), (5, .long (lN (poT num den))), (0, .ref m), (1, .long (lN num)), (3, .long (lN den))]) dX9_poisson_25 (by decide) rfl ?_
    have hpo := poT_bounds (num := num) (den := den) (by omega) hd0 hnum
    refine v_lv [3, 4, 5, 2, 1, 0] rfl ?_
    exact kX9_poisson_loop hB (by omega) hpo.2.1 (by omega) (by omega) hE (poT num den + 1) 0 0 p dr (by omega) (by omega) hfr hp hdr (fun u hu => by rw [sPoisson, if_neg b3]; exact hu)
  · have b3 : num = 0 := (z_eq (by omega) (by decide)).mp b3
    refine v_lconst (v := lN 0) dX9_poisson_6 (by decide) ?_
    exact v_lret hE dX9_poisson_7 (0, p, dr) (Rl_here hp hdr (by simp [sPoisson, b3])) rfl rfl
set_option maxRecDepth 100000 in
set_option maxHeartbeats 4000000 in
theorem kX9_bell_row {D : va_G} {cI cJ cT : ClassId} {X : vX} {m mt mw mb ml mq mz ms mr mi mk mj mn : Nat} {th pc0 dw0 lt0 ic0 ma0 en0 : Int32} {fd sg ln fr e : Nat} {tr : Bool} {tp : Nat → Int32} {b : Nat → Nat} {num den t x : Nat} (hB : MB tr fd ln sg tp b e)   :
    ∀ (j : Nat) (k : Nat) (v : Nat) (p : Nat) (dr : Bool), (dr = false → e - p < k) → fr ≤ p → p ≤ e → (dr = true → p = e) → (if dr = true then 0 else e - p + 1) < j → v + j ≤ 90000 → (∀ u, Rl (sUrL b e k v p) e p dr u ∧ u.1 < 100000 → V (gG D cI cJ cT) X (rmD 4) cX9_bell 16 RX9 [(m, .inr (9, [.int th, .int (nI fd), .int pc0, .int dw0, .int lt0, .ref mt, .ref mw, .ref mb, .ref ml, .ref mq, .ref mz, .ref ms, .ref mr, .int ic0, .ref mi, .int (dI tr), .int (nI sg), .int (nI ln), .int (nI u.2.1), .int (nI (u.2.1 - fr)), .int (dI u.2.2), .int ma0, .ref mk, .int en0, .ref mj, .ref mn])), (mt, .inl (cI, 16384, .inl tp))] 0 0 [(0, .ref m), (1, .long (lN num)), (3, .long (lN den)), (5, .long (lN t)), (7, .long (lN x)), (9, .long (lN u.1))] 80 []) → V (gG D cI cJ cT) X (rmD 4) cX9_bell 16 RX9 [(m, .inr (9, [.int th, .int (nI fd), .int pc0, .int dw0, .int lt0, .ref mt, .ref mw, .ref mb, .ref ml, .ref mq, .ref mz, .ref ms, .ref mr, .int ic0, .ref mi, .int (dI tr), .int (nI sg), .int (nI ln), .int (nI p), .int (nI (p - fr)), .int (dI dr), .int ma0, .ref mk, .int en0, .ref mj, .ref mn])), (mt, .inl (cI, 16384, .inl tp))] 0 0 [(0, .ref m), (1, .long (lN num)), (3, .long (lN den)), (5, .long (lN t)), (7, .long (lN x)), (9, .long (lN v))] 54 [] := by
  intro j
  induction j with
  | zero => intro k v p dr hk hfr hp hdr hj hvj hq; (try split at hj) <;> omega
  | succ j ih =>
    intro k v p dr hk hfr hp hdr hj hvj hq
    rcases dr with _ | _
    · show V (gG D cI cJ cT) X (rmD 4) cX9_bell 16 RX9 [(m, .inr (9, [.int th, .int (nI fd), .int pc0, .int dw0, .int lt0, .ref mt, .ref mw, .ref mb, .ref ml, .ref mq, .ref mz, .ref ms, .ref mr, .int ic0, .ref mi, .int (dI tr), .int (nI sg), .int (nI ln), .int (nI p), .int (nI (p - fr)), .int (dI false), .int ma0, .ref mk, .int en0, .ref mj, .ref mn])), (mt, .inl (cI, 16384, .inl tp))] 0 0 [(0, .ref m), (1, .long (lN num)), (3, .long (lN den)), (5, .long (lN t)), (7, .long (lN x)), (9, .long (lN v))] 54 []
      have hkk := hk rfl
      obtain ⟨k, rfl⟩ : ∃ q, k = q + 1 := ⟨k - 1, by omega⟩
      refine v_aload_n 0 dX9_bell_54 rfl rfl ?_
      refine v_get f_SampleDeskModel_77 0 rfl rfl dX9_bell_55 ?_
      refine v_if_ne (tgt := 80) dX9_bell_58 (by decide) (fun b58 => absurd b58 (fun q => q rfl)) (fun b58 => ?_)
      refine v_aload_n 0 dX9_bell_61 rfl rfl ?_
      refine v_lconst (v := lN 1) dX9_bell_62 (by decide) ?_
      refine v_lconst (v := lN 1) dX9_bell_63 (by decide) ?_
      refine v_callV (as := [.long (lN 1), .long (lN 1)]) (rest := []) (ws' := fun u => [(m, .inr (9, [.int th, .int (nI fd), .int pc0, .int dw0, .int lt0, .ref mt, .ref mw, .ref mb, .ref ml, .ref mq, .ref mz, .ref ms, .ref mr, .int ic0, .ref mi, .int (dI tr), .int (nI sg), .int (nI ln), .int (nI u.2.1), .int (nI (u.2.1 - fr)), .int (dI u.2.2), .int ma0, .ref mk, .int en0, .ref mj, .ref mn])), (mt, .inl (cI, 16384, .inl tp))]) m_SampleDeskModel_113 (kX9_unitExponential X.l (m := m) (mt := mt) (mw := mw) (mb := mb) (ml := ml) (mq := mq) (mz := mz) (ms := ms) (mr := mr) (mi := mi) (mk := mk) (mj := mj) (mn := mn) (th := th) (pc0 := pc0) (dw0 := dw0) (lt0 := lt0) (ic0 := ic0) (en0 := en0) (fd := fd) (sg := sg) (ln := ln) (fr := fr) (e := e) (tr := tr) (tp := tp) (b := b) (ma0 := ma0) (p := p) (dr := false) (num := 1) (den := 1) hB (by omega) (by omega) (fun h => nomatch h) (by decide) (fun _ => Nat.le_refl _) (by decide)) k_code_X9_unitExponential [0, 1] 0 rfl rfl rfl rfl dX9_bell_64 (Nat.le_of_ble_eq_true rfl) ⟨rfl, rfl, by decide, by decide⟩ ⟨Nat.zero_le _, Nat.zero_le _⟩ rfl rfl (fun _ => rfl) (v_mgU rfl (fun _ => rfl)) ?_
      intro u64 c64
      obtain ⟨r1, p1, d1⟩ := u64
      try dsimp only at c64
      show V (gG D cI cJ cT) X (rmD 4) cX9_bell 16 RX9 [(m, .inr (9, [.int th, .int (nI fd), .int pc0, .int dw0, .int lt0, .ref mt, .ref mw, .ref mb, .ref ml, .ref mq, .ref mz, .ref ms, .ref mr, .int ic0, .ref mi, .int (dI tr), .int (nI sg), .int (nI ln), .int (nI p1), .int (nI (p1 - fr)), .int (dI d1), .int ma0, .ref mk, .int en0, .ref mj, .ref mn])), (mt, .inl (cI, 16384, .inl tp))] 0 0 [(0, .ref m), (1, .long (lN num)), (3, .long (lN den)), (5, .long (lN t)), (7, .long (lN x)), (9, .long (lN v))] 67 [.int (nI r1)]
      have hr1 : r1 ≤ 1 := c64.2
      have hp1 := Rl_p c64.1
      refine v_iconst (v := nI 1) dX9_bell_67 (by decide) ?_
      refine v_icmp_ne (tgt := 80) dX9_bell_68 (by decide) (fun b68 => ?_) (fun b68 => ?_)
      · have b68 : ¬ (r1 = 1) := fun q => b68 ((nI_eq (by omega) (by decide)).mpr q)
        exact hq (v, p1, d1) ⟨sUr_out c64.1 b68, by show v < 100000; omega⟩
      · have b68 : r1 = 1 := (nI_eq (by omega) (by decide)).mp b68
        refine v_lload 5 dX9_bell_71 rfl ?_
        refine v_lconst (v := lN 1) dX9_bell_73 (by decide) ?_
        refine v_ladd dX9_bell_74 ?_
        refine v_topl (y := lN (v + 1)) (lN_add _ _) ?_
        refine v_lstore (lv' := [(9, .long (lN (v + 1))), (0, .ref m), (1, .long (lN num)), (3, .long (lN den)), (5, .long (lN t)), (7, .long (lN x))]) dX9_bell_75 (by decide) rfl ?_
        refine v_goto (tgt := 54) dX9_bell_77 (by decide) ?_
        refine v_lv [1, 2, 3, 4, 5, 0] rfl ?_
        rcases d1 with _ | _
        · have hs := sUex_gt11 (Rl_f c64.1 rfl).2.1
          simp only at hs
          exact ih k (v + 1) p1 false (fun _ => by omega) (by omega) hp1.2.1 hp1.2.2 (by rw [if_neg (by decide)] at hj ⊢; omega) (by omega) (fun u hu => hq u ⟨sUr_go c64.1 b68 hu.1, hu.2⟩)
        · exact ih k (v + 1) p1 true (fun h => nomatch h) (by omega) hp1.2.1 hp1.2.2 (by rw [if_neg (by decide)] at hj; rw [if_pos rfl]; omega) (by omega) (fun u hu => hq u ⟨sUr_go c64.1 b68 hu.1, hu.2⟩)
    · show V (gG D cI cJ cT) X (rmD 4) cX9_bell 16 RX9 [(m, .inr (9, [.int th, .int (nI fd), .int pc0, .int dw0, .int lt0, .ref mt, .ref mw, .ref mb, .ref ml, .ref mq, .ref mz, .ref ms, .ref mr, .int ic0, .ref mi, .int (dI tr), .int (nI sg), .int (nI ln), .int (nI p), .int (nI (p - fr)), .int (dI true), .int ma0, .ref mk, .int en0, .ref mj, .ref mn])), (mt, .inl (cI, 16384, .inl tp))] 0 0 [(0, .ref m), (1, .long (lN num)), (3, .long (lN den)), (5, .long (lN t)), (7, .long (lN x)), (9, .long (lN v))] 54 []
      refine v_aload_n 0 dX9_bell_54 rfl rfl ?_
      refine v_get f_SampleDeskModel_77 0 rfl rfl dX9_bell_55 ?_
      refine v_if_ne (tgt := 80) dX9_bell_58 (by decide) (fun b58 => ?_) (fun b58 => absurd b58 (by decide))
      exact hq (v, p, true) ⟨Rl_over rfl (hdr rfl), by show v < 100000; omega⟩
set_option maxRecDepth 100000 in
set_option maxHeartbeats 4000000 in
theorem kX9_bell_loop {D : va_G} {cI cJ cT : ClassId} {X : vX} {m mt mw mb ml mq mz ms mr mi mk mj mn : Nat} {th pc0 dw0 lt0 ic0 ma0 en0 : Int32} {fd sg ln fr e : Nat} {tr : Bool} {tp : Nat → Int32} {b : Nat → Nat} {num den t : Nat} (hB : MB tr fd ln sg tp b e) (he16 : e ≤ 16384) (hnum : num ≤ 1000) (hnum1 : 1 ≤ num) (hden : den ≤ 10) (hden1 : 1 ≤ den) (ht : t ≤ 32) (ht1 : 1 ≤ t) {W0 : va_W} {post : Nat × Nat × Bool → Prop} (hE : vE (gG D cI cJ cT) X (some .long) W0 post (fun u => some (.long (blI u.1))) (fun u => [(m, .inr (9, [.int th, .int (nI fd), .int pc0, .int dw0, .int lt0, .ref mt, .ref mw, .ref mb, .ref ml, .ref mq, .ref mz, .ref ms, .ref mr, .int ic0, .ref mi, .int (dI tr), .int (nI sg), .int (nI ln), .int (nI u.2.1), .int (nI (u.2.1 - fr)), .int (dI u.2.2), .int ma0, .ref mk, .int en0, .ref mj, .ref mn])), (mt, .inl (cI, 16384, .inl tp))])) :
    ∀ (k : Nat) (p : Nat) (dr : Bool), e - p + (if dr = true then 0 else 1) < k → fr ≤ p → p ≤ e → (dr = true → p = e) → (∀ u, Rl (sBelL b e num den t k p) e p dr u → post u) → V (gG D cI cJ cT) X (rmD 4) cX9_bell 16 RX9 [(m, .inr (9, [.int th, .int (nI fd), .int pc0, .int dw0, .int lt0, .ref mt, .ref mw, .ref mb, .ref ml, .ref mq, .ref mz, .ref ms, .ref mr, .int ic0, .ref mi, .int (dI tr), .int (nI sg), .int (nI ln), .int (nI p), .int (nI (p - fr)), .int (dI dr), .int ma0, .ref mk, .int en0, .ref mj, .ref mn])), (mt, .inl (cI, 16384, .inl tp))] 0 0 [(0, .ref m), (1, .long (lN num)), (3, .long (lN den)), (5, .long (lN t))] 24 [] := by
  intro k
  induction k with
  | zero => intro p dr hk hfr hp hdr hq; omega
  | succ k ih =>
    intro p dr hk hfr hp hdr hq
    refine v_aload_n 0 dX9_bell_24 rfl rfl ?_
    refine v_get f_SampleDeskModel_77 0 rfl rfl dX9_bell_25 ?_
    refine v_if_ne (tgt := 163) dX9_bell_28 (by decide) (fun b28 => ?_) (fun b28 => ?_)
    · have b28 : ¬ (dr = false) := fun q => b28 ((dI_0 dr).mpr q)
      refine v_lconst (v := lN 0) dX9_bell_163 (by decide) ?_
      exact v_lret hE dX9_bell_164 (0, p, dr) (hq _ (Rl_over (by simpa using b28) (hdr (by simpa using b28)))) (congrArg (fun z => some (Value.long z)) (blI_0 0)) rfl
    · have b28 : dr = false := (dI_0 dr).mp b28
      refine v_aload_n 0 dX9_bell_31 rfl rfl ?_
      refine v_lload 3 dX9_bell_32 rfl ?_
      refine v_callV (as := [.long (lN t)]) (rest := []) (ws' := fun u => [(m, .inr (9, [.int th, .int (nI fd), .int pc0, .int dw0, .int lt0, .ref mt, .ref mw, .ref mb, .ref ml, .ref mq, .ref mz, .ref ms, .ref mr, .int ic0, .ref mi, .int (dI tr), .int (nI sg), .int (nI ln), .int (nI u.2.1), .int (nI (u.2.1 - fr)), .int (dI u.2.2), .int ma0, .ref mk, .int en0, .ref mj, .ref mn])), (mt, .inl (cI, 16384, .inl tp))]) m_SampleDeskModel_105 (kX9_uniform X.l (m := m) (mt := mt) (mw := mw) (mb := mb) (ml := ml) (mq := mq) (mz := mz) (ms := ms) (mr := mr) (mi := mi) (mk := mk) (mj := mj) (mn := mn) (th := th) (pc0 := pc0) (dw0 := dw0) (lt0 := lt0) (ic0 := ic0) (en0 := en0) (fd := fd) (sg := sg) (ln := ln) (fr := fr) (e := e) (tr := tr) (tp := tp) (b := b) (ma0 := ma0) (p := p) (dr := dr) (nn := t) hB (by omega) (by omega) hdr (by omega) (by omega)) k_code_X9_uniform [0, 1] 0 rfl rfl rfl rfl dX9_bell_34 (Nat.le_of_ble_eq_true rfl) ⟨rfl, rfl, by decide, by decide⟩ ⟨Nat.zero_le _, Nat.zero_le _⟩ rfl rfl (fun _ => rfl) (v_mgU rfl (fun _ => rfl)) ?_
      intro u34 c34
      obtain ⟨x, p1, d1⟩ := u34
      try dsimp only at c34
      show V (gG D cI cJ cT) X (rmD 4) cX9_bell 16 RX9 [(m, .inr (9, [.int th, .int (nI fd), .int pc0, .int dw0, .int lt0, .ref mt, .ref mw, .ref mb, .ref ml, .ref mq, .ref mz, .ref ms, .ref mr, .int ic0, .ref mi, .int (dI tr), .int (nI sg), .int (nI ln), .int (nI p1), .int (nI (p1 - fr)), .int (dI d1), .int ma0, .ref mk, .int en0, .ref mj, .ref mn])), (mt, .inl (cI, 16384, .inl tp))] 0 0 [(0, .ref m), (1, .long (lN num)), (3, .long (lN den)), (5, .long (lN t))] 37 [.long (lN x)]
      have hp1 := Rl_p c34.1
      have hx : x < t := c34.2
      refine v_lstore (lv' := [(7, .long (lN x)), (0, .ref m), (1, .long (lN num)), (3, .long (lN den)), (5, .long (lN t))]) dX9_bell_37 (by decide) rfl ?_
      refine v_aload_n 1 dX9_bell_39 rfl rfl ?_
      refine v_lload 0 dX9_bell_40 rfl ?_
      refine v_lload 4 dX9_bell_42 rfl ?_
      refine v_callV (as := [.long (lN x), .long (lN t)]) (rest := []) (ws' := fun u => [(m, .inr (9, [.int th, .int (nI fd), .int pc0, .int dw0, .int lt0, .ref mt, .ref mw, .ref mb, .ref ml, .ref mq, .ref mz, .ref ms, .ref mr, .int ic0, .ref mi, .int (dI tr), .int (nI sg), .int (nI ln), .int (nI u.2.1), .int (nI (u.2.1 - fr)), .int (dI u.2.2), .int ma0, .ref mk, .int en0, .ref mj, .ref mn])), (mt, .inl (cI, 16384, .inl tp))]) m_SampleDeskModel_120 (kX9_exponential X.l (m := m) (mt := mt) (mw := mw) (mb := mb) (ml := ml) (mq := mq) (mz := mz) (ms := ms) (mr := mr) (mi := mi) (mk := mk) (mj := mj) (mn := mn) (th := th) (pc0 := pc0) (dw0 := dw0) (lt0 := lt0) (ic0 := ic0) (en0 := en0) (fd := fd) (sg := sg) (ln := ln) (fr := fr) (e := e) (tr := tr) (tp := tp) (b := b) (ma0 := ma0) (p := p1) (dr := d1) (num := x) (den := t) hB (by omega) (by omega) hp1.2.2 (by omega) (by omega) (by omega)) k_code_X9_exponential [0, 1] 0 rfl rfl rfl rfl dX9_bell_44 (Nat.le_of_ble_eq_true rfl) ⟨rfl, rfl, by decide, by decide⟩ ⟨Nat.zero_le _, Nat.zero_le _⟩ rfl rfl (fun _ => rfl) (v_mgU rfl (fun _ => rfl)) ?_
      intro u44 c44
      obtain ⟨r2, p2, d2⟩ := u44
      try dsimp only at c44
      show V (gG D cI cJ cT) X (rmD 4) cX9_bell 16 RX9 [(m, .inr (9, [.int th, .int (nI fd), .int pc0, .int dw0, .int lt0, .ref mt, .ref mw, .ref mb, .ref ml, .ref mq, .ref mz, .ref ms, .ref mr, .int ic0, .ref mi, .int (dI tr), .int (nI sg), .int (nI ln), .int (nI p2), .int (nI (p2 - fr)), .int (dI d2), .int ma0, .ref mk, .int en0, .ref mj, .ref mn])), (mt, .inl (cI, 16384, .inl tp))] 0 0 [(7, .long (lN x)), (0, .ref m), (1, .long (lN num)), (3, .long (lN den)), (5, .long (lN t))] 47 [.int (nI r2)]
      have hp2 := Rl_p c44.1
      have hr2 : r2 ≤ 1 := c44.2
      refine v_iconst (v := nI 1) dX9_bell_47 (by decide) ?_
      refine v_icmp_ne (tgt := 160) dX9_bell_48 (by decide) (fun b48 => ?_) (fun b48 => ?_)
      · have b48 : ¬ (r2 = 1) := fun q => b48 ((nI_eq (by omega) (by decide)).mpr q)
        refine v_goto (tgt := 24) dX9_bell_160 (by decide) ?_
        refine v_lv [1, 2, 3, 4] rfl ?_
        exact ih p2 d2 (bell_adv1 hx b28 hk hp1 c44.1 (by omega)) (by omega) hp2.2.1 hp2.2.2 (fun u hu => hq u (ba_go c34.1 (bb_no c44.1 (by omega) hu)))
      · have b48 : r2 = 1 := (nI_eq (by omega) (by decide)).mp b48
        refine v_lconst (v := lN 0) dX9_bell_51 (by decide) ?_
        refine v_lstore (lv' := [(9, .long (lN 0)), (7, .long (lN x)), (0, .ref m), (1, .long (lN num)), (3, .long (lN den)), (5, .long (lN t))]) dX9_bell_52 (by decide) rfl ?_
        refine v_lv [2, 3, 4, 5, 1, 0] rfl ?_
        refine kX9_bell_row hB (e - p2 + 2) (e - p2 + 1) 0 p2 d2 (fun _ => by omega) (by omega) hp2.2.1 hp2.2.2 (by split <;> omega) (by omega) (fun u3 c3 => ?_)
        obtain ⟨v, p3, d3⟩ := u3
        dsimp only at c3
        have hp3 := Rl_p c3.1
        have hv : v < 100000 := c3.2
        show V (gG D cI cJ cT) X (rmD 4) cX9_bell 16 RX9 [(m, .inr (9, [.int th, .int (nI fd), .int pc0, .int dw0, .int lt0, .ref mt, .ref mw, .ref mb, .ref ml, .ref mq, .ref mz, .ref ms, .ref mr, .int ic0, .ref mi, .int (dI tr), .int (nI sg), .int (nI ln), .int (nI p3), .int (nI (p3 - fr)), .int (dI d3), .int ma0, .ref mk, .int en0, .ref mj, .ref mn])), (mt, .inl (cI, 16384, .inl tp))] 0 0 [(0, .ref m), (1, .long (lN num)), (3, .long (lN den)), (5, .long (lN t)), (7, .long (lN x)), (9, .long (lN v))] 80 []
        refine v_lload 4 dX9_bell_80 rfl ?_
        refine v_lload 3 dX9_bell_82 rfl ?_
        refine v_lload 5 dX9_bell_84 rfl ?_
        have hbb := bell_b hnum hnum1 hden hden1 ht ht1 hx hv
        refine v_lmul dX9_bell_86 ?_
        refine v_topl (y := lN (t * v)) (lN_mul _ _) ?_
        refine v_ladd dX9_bell_87 ?_
        refine v_topl (y := lN (x + t * v)) (lN_add _ _) ?_
        refine v_lstore (lv' := [(11, .long (lN (x + t * v))), (0, .ref m), (1, .long (lN num)), (3, .long (lN den)), (5, .long (lN t)), (7, .long (lN x)), (9, .long (lN v))]) dX9_bell_88 (by decide) rfl ?_
        refine v_aload_n 1 dX9_bell_90 rfl rfl ?_
        refine v_callV (as := []) (rest := []) (ws' := fun u => [(m, .inr (9, [.int th, .int (nI fd), .int pc0, .int dw0, .int lt0, .ref mt, .ref mw, .ref mb, .ref ml, .ref mq, .ref mz, .ref ms, .ref mr, .int ic0, .ref mi, .int (dI tr), .int (nI sg), .int (nI ln), .int (nI u.2.1), .int (nI (u.2.1 - fr)), .int (dI u.2.2), .int ma0, .ref mk, .int en0, .ref mj, .ref mn])), (mt, .inl (cI, 16384, .inl tp))]) m_SampleDeskModel_98 (kX9_nextBit X.l (m := m) (mt := mt) (mw := mw) (mb := mb) (ml := ml) (mq := mq) (mz := mz) (ms := ms) (mr := mr) (mi := mi) (mk := mk) (mj := mj) (mn := mn) (th := th) (pc0 := pc0) (dw0 := dw0) (lt0 := lt0) (ic0 := ic0) (en0 := en0) (fd := fd) (sg := sg) (ln := ln) (fr := fr) (e := e) (tr := tr) (tp := tp) (b := b) (ma0 := ma0) (p := p3) (dr := d3)  hB (by omega) (by omega) hp3.2.2 ) k_code_X9_nextBit [0, 1] 0 rfl rfl rfl rfl dX9_bell_91 (Nat.le_of_ble_eq_true rfl) ⟨rfl, rfl, by decide, by decide⟩ ⟨Nat.zero_le _, Nat.zero_le _⟩ rfl rfl (fun _ => rfl) (v_mgU rfl (fun _ => rfl)) ?_
        intro u91 c91
        obtain ⟨s, p4, d4⟩ := u91
        try dsimp only at c91
        show V (gG D cI cJ cT) X (rmD 4) cX9_bell 16 RX9 [(m, .inr (9, [.int th, .int (nI fd), .int pc0, .int dw0, .int lt0, .ref mt, .ref mw, .ref mb, .ref ml, .ref mq, .ref mz, .ref ms, .ref mr, .int ic0, .ref mi, .int (dI tr), .int (nI sg), .int (nI ln), .int (nI p4), .int (nI (p4 - fr)), .int (dI d4), .int ma0, .ref mk, .int en0, .ref mj, .ref mn])), (mt, .inl (cI, 16384, .inl tp))] 0 0 [(11, .long (lN (x + t * v))), (0, .ref m), (1, .long (lN num)), (3, .long (lN den)), (5, .long (lN t)), (7, .long (lN x)), (9, .long (lN v))] 94 [.int (nI s)]
        have hs : s < 2 := Rbit_lt hB.2.1 c91
        have hp4 := Rbit_le hp3.2.1 c91
        have hd4 := Rbit_e hp3.2.1 hp3.2.2 c91
        have hq4 := Rbit_d c91
        refine v_istore (lv' := [(13, .int (nI s)), (11, .long (lN (x + t * v))), (0, .ref m), (1, .long (lN num)), (3, .long (lN den)), (5, .long (lN t)), (7, .long (lN x)), (9, .long (lN v))]) dX9_bell_94 (by decide) rfl ?_
        refine v_lload 1 dX9_bell_96 rfl ?_
        refine v_lload_n 4 dX9_bell_98 rfl rfl ?_
        refine v_lmul dX9_bell_99 ?_
        refine v_topl (y := lN ((x + t * v) * den)) (lN_mul _ _) ?_
        refine v_lload 5 dX9_bell_100 rfl ?_
        refine v_lmul dX9_bell_102 ?_
        refine v_topl (y := lN ((x + t * v) * den * t)) (lN_mul _ _) ?_
        refine v_lload_n 3 dX9_bell_103 rfl rfl ?_
        refine v_lsub dX9_bell_104 ?_
        refine v_lstore (lv' := [(14, .long ((lN ((x + t * v) * den * t)) - (lN num))), (13, .int (nI s)), (11, .long (lN (x + t * v))), (0, .ref m), (1, .long (lN num)), (3, .long (lN den)), (5, .long (lN t)), (7, .long (lN x)), (9, .long (lN v))]) dX9_bell_105 (by decide) rfl ?_
        refine v_lload 2 dX9_bell_107 rfl ?_
        refine v_lconst (v := lN 0) dX9_bell_109 (by decide) ?_
        refine v_lcmp dX9_bell_110 ?_
        refine v_if_gt (tgt := 119) dX9_bell_111 (by decide) (fun b111 => ?_) (fun b111 => ?_)
        · have b111 : 0 < x + t * v := (z_gt (by omega) (by decide)).mp b111
          refine v_aload_n 3 dX9_bell_119 rfl rfl ?_
          refine v_lload 0 dX9_bell_120 rfl ?_
          refine v_lload 0 dX9_bell_122 rfl ?_
          refine v_lmul dX9_bell_124 ?_
          refine v_topl (y := lN (gapN num den t (x + t * v) * gapN num den t (x + t * v))) (gapN_sq num den t (x + t * v)) ?_
          refine v_ldc2 (v := lN 2) k_c_SampleDeskModel_96 dX9_bell_125 ?_
          refine v_lload_n 4 dX9_bell_128 rfl rfl ?_
          refine v_lmul dX9_bell_129 ?_
          refine v_topl (y := lN (2 * num)) (lN_mul _ _) ?_
          refine v_lload_n 5 dX9_bell_130 rfl rfl ?_
          refine v_lmul dX9_bell_131 ?_
          refine v_topl (y := lN (2 * num * den)) (lN_mul _ _) ?_
          refine v_lload 6 dX9_bell_132 rfl ?_
          refine v_lmul dX9_bell_134 ?_
          refine v_topl (y := lN (2 * num * den * t)) (lN_mul _ _) ?_
          refine v_lload 6 dX9_bell_135 rfl ?_
          refine v_lmul dX9_bell_137 ?_
          refine v_topl (y := lN (2 * num * den * t * t)) (lN_mul _ _) ?_
          refine v_callV (as := [.long (lN (gapN num den t (x + t * v) * gapN num den t (x + t * v))), .long (lN (2 * num * den * t * t))]) (rest := []) (ws' := fun u => [(m, .inr (9, [.int th, .int (nI fd), .int pc0, .int dw0, .int lt0, .ref mt, .ref mw, .ref mb, .ref ml, .ref mq, .ref mz, .ref ms, .ref mr, .int ic0, .ref mi, .int (dI tr), .int (nI sg), .int (nI ln), .int (nI u.2.1), .int (nI (u.2.1 - fr)), .int (dI u.2.2), .int ma0, .ref mk, .int en0, .ref mj, .ref mn])), (mt, .inl (cI, 16384, .inl tp))]) m_SampleDeskModel_120 (kX9_exponential X.l (m := m) (mt := mt) (mw := mw) (mb := mb) (ml := ml) (mq := mq) (mz := mz) (ms := ms) (mr := mr) (mi := mi) (mk := mk) (mj := mj) (mn := mn) (th := th) (pc0 := pc0) (dw0 := dw0) (lt0 := lt0) (ic0 := ic0) (en0 := en0) (fd := fd) (sg := sg) (ln := ln) (fr := fr) (e := e) (tr := tr) (tp := tp) (b := b) (ma0 := ma0) (p := p4) (dr := d4) (num := (gapN num den t (x + t * v) * gapN num den t (x + t * v))) (den := (2 * num * den * t * t)) hB (by omega) (by omega) hd4 hbb.2.2.1 hbb.2.1 hbb.2.2.2) k_code_X9_exponential [0, 1] 0 rfl rfl rfl rfl dX9_bell_138 (Nat.le_of_ble_eq_true rfl) ⟨rfl, rfl, by decide, by decide⟩ ⟨Nat.zero_le _, Nat.zero_le _⟩ rfl rfl (fun _ => rfl) (v_mgU rfl (fun _ => rfl)) ?_
          intro u138 c138
          obtain ⟨z, p5, d5⟩ := u138
          try dsimp only at c138
          show V (gG D cI cJ cT) X (rmD 4) cX9_bell 16 RX9 [(m, .inr (9, [.int th, .int (nI fd), .int pc0, .int dw0, .int lt0, .ref mt, .ref mw, .ref mb, .ref ml, .ref mq, .ref mz, .ref ms, .ref mr, .int ic0, .ref mi, .int (dI tr), .int (nI sg), .int (nI ln), .int (nI p5), .int (nI (p5 - fr)), .int (dI d5), .int ma0, .ref mk, .int en0, .ref mj, .ref mn])), (mt, .inl (cI, 16384, .inl tp))] 0 0 [(14, .long ((lN ((x + t * v) * den * t)) - (lN num))), (13, .int (nI s)), (11, .long (lN (x + t * v))), (0, .ref m), (1, .long (lN num)), (3, .long (lN den)), (5, .long (lN t)), (7, .long (lN x)), (9, .long (lN v))] 141 [.int (nI z)]
          have hp5 := Rl_p c138.1
          have hz : z ≤ 1 := c138.2
          refine v_iconst (v := nI 1) dX9_bell_141 (by decide) ?_
          refine v_icmp_ne (tgt := 160) dX9_bell_142 (by decide) (fun b142 => ?_) (fun b142 => ?_)
          · have b142 : ¬ (z = 1) := fun q => b142 ((nI_eq (by omega) (by decide)).mpr q)
            refine v_goto (tgt := 24) dX9_bell_160 (by decide) ?_
            refine v_lv [3, 4, 5, 6] rfl ?_
            exact ih p5 d5 (bell_adv2 b28 hk (by omega) hp2.2.1 c3.1 (by omega) hp5.2.1 hp5.2.2 (fun h => c138.1.1 (hq4.1 h))) (by omega) hp5.2.1 hp5.2.2 (fun u hu => hq u (ba_go c34.1 (bb_go c44.1 (by omega) (bc_go c3.1 (bd_no hp3.2.1 hp3.2.2 c91 (by omega) (be_go c138.1 b142 hu))))))
          · have b142 : z = 1 := (nI_eq (by omega) (by decide)).mp b142
            refine v_iload 1 dX9_bell_145 rfl ?_
            refine v_iconst (v := nI 1) dX9_bell_147 (by decide) ?_
            refine v_icmp_ne (tgt := 157) dX9_bell_148 (by decide) (fun b148 => ?_) (fun b148 => ?_)
            · have b148 : ¬ (s = 1) := fun q => b148 ((nI_eq (by omega) (by decide)).mpr q)
              refine v_lload 2 dX9_bell_157 rfl ?_
              exact v_lret hE dX9_bell_159 (2 * (x + t * v) + 0, p5, d5) (hq _ (by rw [show s = 0 by omega] at c91; exact ba_go c34.1 (bb_go c44.1 (by omega) (bc_go c3.1 (bd_no hp3.2.1 hp3.2.2 c91 (by omega) (be_out c138.1 b142)))))) (congrArg (fun z => some (Value.long z)) (blI_0 _)) rfl
            · have b148 : s = 1 := (nI_eq (by omega) (by decide)).mp b148
              refine v_lload 2 dX9_bell_151 rfl ?_
              refine v_lneg dX9_bell_153 ?_
              refine v_goto (tgt := 159) dX9_bell_154 (by decide) ?_
              exact v_lret hE dX9_bell_159 (2 * (x + t * v) + 1, p5, d5) (hq _ (by rw [show s = 1 by omega] at c91; exact ba_go c34.1 (bb_go c44.1 (by omega) (bc_go c3.1 (bd_no hp3.2.1 hp3.2.2 c91 (by omega) (be_out c138.1 b142)))))) (congrArg (fun z => some (Value.long z)) (blI_1 _)) rfl
        · have b111 : ¬ (0 < x + t * v) := fun q => b111 ((z_gt (by omega) (by decide)).mpr q)
          refine v_iload 1 dX9_bell_114 rfl ?_
          refine v_if_ne (tgt := 160) dX9_bell_116 (by decide) (fun b116 => ?_) (fun b116 => ?_)
          · have b116 : ¬ (s = 0) := fun q => b116 (((show nI s = 0 ↔ s = 0 from nI_eq (b := 0) (by omega) (by decide))).mpr q)
            refine v_goto (tgt := 24) dX9_bell_160 (by decide) ?_
            refine v_lv [3, 4, 5, 6] rfl ?_
            exact ih p4 d4 (bell_adv2 b28 hk (by omega) hp2.2.1 c3.1 hq4.2 hp4 hd4 hq4.1) (by omega) hp4 hd4 (fun u hu => hq u (ba_go c34.1 (bb_go c44.1 (by omega) (bc_go c3.1 (bd_yes hp3.2.1 hp3.2.2 c91 ⟨by omega, by omega⟩ hu)))))
          · have b116 : s = 0 := ((show nI s = 0 ↔ s = 0 from nI_eq (b := 0) (by omega) (by decide))).mp b116
            refine v_aload_n 3 dX9_bell_119 rfl rfl ?_
            refine v_lload 0 dX9_bell_120 rfl ?_
            refine v_lload 0 dX9_bell_122 rfl ?_
            refine v_lmul dX9_bell_124 ?_
            refine v_topl (y := lN (gapN num den t (x + t * v) * gapN num den t (x + t * v))) (gapN_sq num den t (x + t * v)) ?_
            refine v_ldc2 (v := lN 2) k_c_SampleDeskModel_96 dX9_bell_125 ?_
            refine v_lload_n 4 dX9_bell_128 rfl rfl ?_
            refine v_lmul dX9_bell_129 ?_
            refine v_topl (y := lN (2 * num)) (lN_mul _ _) ?_
            refine v_lload_n 5 dX9_bell_130 rfl rfl ?_
            refine v_lmul dX9_bell_131 ?_
            refine v_topl (y := lN (2 * num * den)) (lN_mul _ _) ?_
            refine v_lload 6 dX9_bell_132 rfl ?_
            refine v_lmul dX9_bell_134 ?_
            refine v_topl (y := lN (2 * num * den * t)) (lN_mul _ _) ?_
            refine v_lload 6 dX9_bell_135 rfl ?_
            refine v_lmul dX9_bell_137 ?_
            refine v_topl (y := lN (2 * num * den * t * t)) (lN_mul _ _) ?_
            refine v_callV (as := [.long (lN (gapN num den t (x + t * v) * gapN num den t (x + t * v))), .long (lN (2 * num * den * t * t))]) (rest := []) (ws' := fun u => [(m, .inr (9, [.int th, .int (nI fd), .int pc0, .int dw0, .int lt0, .ref mt, .ref mw, .ref mb, .ref ml, .ref mq, .ref mz, .ref ms, .ref mr, .int ic0, .ref mi, .int (dI tr), .int (nI sg), .int (nI ln), .int (nI u.2.1), .int (nI (u.2.1 - fr)), .int (dI u.2.2), .int ma0, .ref mk, .int en0, .ref mj, .ref mn])), (mt, .inl (cI, 16384, .inl tp))]) m_SampleDeskModel_120 (kX9_exponential X.l (m := m) (mt := mt) (mw := mw) (mb := mb) (ml := ml) (mq := mq) (mz := mz) (ms := ms) (mr := mr) (mi := mi) (mk := mk) (mj := mj) (mn := mn) (th := th) (pc0 := pc0) (dw0 := dw0) (lt0 := lt0) (ic0 := ic0) (en0 := en0) (fd := fd) (sg := sg) (ln := ln) (fr := fr) (e := e) (tr := tr) (tp := tp) (b := b) (ma0 := ma0) (p := p4) (dr := d4) (num := (gapN num den t (x + t * v) * gapN num den t (x + t * v))) (den := (2 * num * den * t * t)) hB (by omega) (by omega) hd4 hbb.2.2.1 hbb.2.1 hbb.2.2.2) k_code_X9_exponential [0, 1] 0 rfl rfl rfl rfl dX9_bell_138 (Nat.le_of_ble_eq_true rfl) ⟨rfl, rfl, by decide, by decide⟩ ⟨Nat.zero_le _, Nat.zero_le _⟩ rfl rfl (fun _ => rfl) (v_mgU rfl (fun _ => rfl)) ?_
            intro u138 c138
            obtain ⟨z, p5, d5⟩ := u138
            try dsimp only at c138
            show V (gG D cI cJ cT) X (rmD 4) cX9_bell 16 RX9 [(m, .inr (9, [.int th, .int (nI fd), .int pc0, .int dw0, .int lt0, .ref mt, .ref mw, .ref mb, .ref ml, .ref mq, .ref mz, .ref ms, .ref mr, .int ic0, .ref mi, .int (dI tr), .int (nI sg), .int (nI ln), .int (nI p5), .int (nI (p5 - fr)), .int (dI d5), .int ma0, .ref mk, .int en0, .ref mj, .ref mn])), (mt, .inl (cI, 16384, .inl tp))] 0 0 [(14, .long ((lN ((x + t * v) * den * t)) - (lN num))), (13, .int (nI s)), (11, .long (lN (x + t * v))), (0, .ref m), (1, .long (lN num)), (3, .long (lN den)), (5, .long (lN t)), (7, .long (lN x)), (9, .long (lN v))] 141 [.int (nI z)]
            have hp5 := Rl_p c138.1
            have hz : z ≤ 1 := c138.2
            refine v_iconst (v := nI 1) dX9_bell_141 (by decide) ?_
            refine v_icmp_ne (tgt := 160) dX9_bell_142 (by decide) (fun b142 => ?_) (fun b142 => ?_)
            · have b142 : ¬ (z = 1) := fun q => b142 ((nI_eq (by omega) (by decide)).mpr q)
              refine v_goto (tgt := 24) dX9_bell_160 (by decide) ?_
              refine v_lv [3, 4, 5, 6] rfl ?_
              exact ih p5 d5 (bell_adv2 b28 hk (by omega) hp2.2.1 c3.1 (by omega) hp5.2.1 hp5.2.2 (fun h => c138.1.1 (hq4.1 h))) (by omega) hp5.2.1 hp5.2.2 (fun u hu => hq u (ba_go c34.1 (bb_go c44.1 (by omega) (bc_go c3.1 (bd_no hp3.2.1 hp3.2.2 c91 (by omega) (be_go c138.1 b142 hu))))))
            · have b142 : z = 1 := (nI_eq (by omega) (by decide)).mp b142
              refine v_iload 1 dX9_bell_145 rfl ?_
              refine v_iconst (v := nI 1) dX9_bell_147 (by decide) ?_
              refine v_icmp_ne (tgt := 157) dX9_bell_148 (by decide) (fun b148 => ?_) (fun b148 => ?_)
              · have b148 : ¬ (s = 1) := fun q => b148 ((nI_eq (by omega) (by decide)).mpr q)
                refine v_lload 2 dX9_bell_157 rfl ?_
                exact v_lret hE dX9_bell_159 (2 * (x + t * v) + 0, p5, d5) (hq _ (by rw [show s = 0 by omega] at c91; exact ba_go c34.1 (bb_go c44.1 (by omega) (bc_go c3.1 (bd_no hp3.2.1 hp3.2.2 c91 (by omega) (be_out c138.1 b142)))))) (congrArg (fun z => some (Value.long z)) (blI_0 _)) rfl
              · have b148 : s = 1 := (nI_eq (by omega) (by decide)).mp b148
                refine v_lload 2 dX9_bell_151 rfl ?_
                refine v_lneg dX9_bell_153 ?_
                refine v_goto (tgt := 159) dX9_bell_154 (by decide) ?_
                exact v_lret hE dX9_bell_159 (2 * (x + t * v) + 1, p5, d5) (hq _ (by rw [show s = 1 by omega] at c91; exact ba_go c34.1 (bb_go c44.1 (by omega) (bc_go c3.1 (bd_no hp3.2.1 hp3.2.2 c91 (by omega) (be_out c138.1 b142)))))) (congrArg (fun z => some (Value.long z)) (blI_1 _)) rfl
set_option maxRecDepth 100000 in
set_option maxHeartbeats 4000000 in
theorem kX9_bell_t {D : va_G} {cI cJ cT : ClassId} {X : vX} {m mt mw mb ml mq mz ms mr mi mk mj mn : Nat} {th pc0 dw0 lt0 ic0 ma0 en0 : Int32} {fd sg ln fr e : Nat} {tr : Bool} {tp : Nat → Int32} {b : Nat → Nat} {num den T p : Nat} {dr : Bool} (hB : MB tr fd ln sg tp b e) (hfr : fr ≤ p) (hp : p ≤ e) (hdr : dr = true → p = e) (hnum : num ≤ 1000) (hnum1 : 1 ≤ num) (hden : den ≤ 10) (hden1 : 1 ≤ den) (hT2 : T ≤ 32) (hT1 : 1 ≤ T) {W0 : va_W} {post : Nat × Nat × Bool → Prop} (hE : vE (gG D cI cJ cT) X (some .long) W0 post (fun u => some (.long (blI u.1))) (fun u => [(m, .inr (9, [.int th, .int (nI fd), .int pc0, .int dw0, .int lt0, .ref mt, .ref mw, .ref mb, .ref ml, .ref mq, .ref mz, .ref ms, .ref mr, .int ic0, .ref mi, .int (dI tr), .int (nI sg), .int (nI ln), .int (nI u.2.1), .int (nI (u.2.1 - fr)), .int (dI u.2.2), .int ma0, .ref mk, .int en0, .ref mj, .ref mn])), (mt, .inl (cI, 16384, .inl tp))])) (hq : ∀ u, Rl (sBelL b e num den T (e - p + 2) p) e p dr u → post u) :
    ∀ (k : Nat) (t : Nat), 1 ≤ t → t ≤ num + 1 → num + 1 < t + k → beL num den k t = T → V (gG D cI cJ cT) X (rmD 4) cX9_bell 16 RX9 [(m, .inr (9, [.int th, .int (nI fd), .int pc0, .int dw0, .int lt0, .ref mt, .ref mw, .ref mb, .ref ml, .ref mq, .ref mz, .ref ms, .ref mr, .int ic0, .ref mi, .int (dI tr), .int (nI sg), .int (nI ln), .int (nI p), .int (nI (p - fr)), .int (dI dr), .int ma0, .ref mk, .int en0, .ref mj, .ref mn])), (mt, .inl (cI, 16384, .inl tp))] 0 0 [(0, .ref m), (1, .long (lN num)), (3, .long (lN den)), (5, .long (lN t))] 3 [] := by
  intro k
  induction k with
  | zero => intro t ht1 htn1 hk hT; omega
  | succ k ih =>
    intro t ht1 htn1 hk hT
    refine v_lload 3 dX9_bell_3 rfl ?_
    refine v_lload 3 dX9_bell_5 rfl ?_
    have htt : t * t ≤ 1001 * 1001 := Nat.mul_le_mul (by omega) (by omega)
    have httd : t * t * den ≤ 1002001 * 10 := Nat.mul_le_mul (by omega) hden
    refine v_lmul dX9_bell_7 ?_
    refine v_topl (y := lN (t * t)) (lN_mul _ _) ?_
    refine v_lload_n 2 dX9_bell_8 rfl rfl ?_
    refine v_lmul dX9_bell_9 ?_
    refine v_topl (y := lN (t * t * den)) (lN_mul _ _) ?_
    refine v_lload_n 1 dX9_bell_10 rfl rfl ?_
    refine v_lcmp dX9_bell_11 ?_
    refine v_if_gt (tgt := 24) dX9_bell_12 (by decide) (fun b12 => ?_) (fun b12 => ?_)
    · have b12 : num < t * t * den := (z_gt (by omega) (by omega)).mp b12
      refine v_lv [0, 1, 2, 3] rfl ?_
      have hTT : t = T := by rw [← hT, beL, if_neg (by omega)]
      rw [hTT]
      exact kX9_bell_loop hB hB.1 hnum hnum1 hden hden1 hT2 hT1 hE (e - p + 2) p dr (by split <;> omega) hfr hp hdr hq
    · have b12 : ¬ (num < t * t * den) := fun q => b12 ((z_gt (by omega) (by omega)).mpr q)
      have htn : t ≤ num := Nat.le_trans (Nat.le_trans (Nat.le_mul_of_pos_left t (by omega)) (Nat.le_mul_of_pos_right (t * t) hden1)) (by omega)
      refine v_lload 3 dX9_bell_15 rfl ?_
      refine v_lconst (v := lN 1) dX9_bell_17 (by decide) ?_
      refine v_ladd dX9_bell_18 ?_
      refine v_topl (y := lN (t + 1)) (lN_add _ _) ?_
      refine v_lstore (lv' := [(5, .long (lN (t + 1))), (0, .ref m), (1, .long (lN num)), (3, .long (lN den))]) dX9_bell_19 (by decide) rfl ?_
      refine v_goto (tgt := 3) dX9_bell_21 (by decide) ?_
      refine v_lv [1, 2, 3, 0] rfl ?_
      exact ih (t + 1) (by omega) (by omega) (by omega) (by rw [← hT, beL, if_pos (by omega)])
set_option maxRecDepth 100000 in
set_option maxHeartbeats 4000000 in
theorem kX9_bell {D : va_G} {cI cJ cT : ClassId} (l : Launch) {m mt mw mb ml mq mz ms mr mi mk mj mn : Nat} {th pc0 dw0 lt0 ic0 ma0 en0 : Int32} {fd sg ln fr e : Nat} {tr : Bool} {tp : Nat → Int32} {b : Nat → Nat} {p : Nat} {dr : Bool} {num den : Nat} (hB : MB tr fd ln sg tp b e) (hfr : fr ≤ p) (hp : p ≤ e) (hdr : dr = true → p = e) (hnum : num ≤ 1000) (hnum1 : 1 ≤ num) (hden : den ≤ 10) (hden1 : 1 ≤ den) : Fn (S := Nat × Nat × Bool) (gG D cI cJ cT) l yX9_bell (.code yX9_bell cX9_bell 16 (some .long)) (rmD 4) [.ref m, .long (lN num), .long (lN den)] [(m, .inr (9, [.int th, .int (nI fd), .int pc0, .int dw0, .int lt0, .ref mt, .ref mw, .ref mb, .ref ml, .ref mq, .ref mz, .ref ms, .ref mr, .int ic0, .ref mi, .int (dI tr), .int (nI sg), .int (nI ln), .int (nI p), .int (nI (p - fr)), .int (dI dr), .int ma0, .ref mk, .int en0, .ref mj, .ref mn])), (mt, .inl (cI, 16384, .inl tp))] (fun u => Rl (sBell b e num den p) e p dr u) (fun u => some (.long (blI u.1))) (fun u => [(m, .inr (9, [.int th, .int (nI fd), .int pc0, .int dw0, .int lt0, .ref mt, .ref mw, .ref mb, .ref ml, .ref mq, .ref mz, .ref ms, .ref mr, .int ic0, .ref mi, .int (dI tr), .int (nI sg), .int (nI ln), .int (nI u.2.1), .int (nI (u.2.1 - fr)), .int (dI u.2.2), .int ma0, .ref mk, .int en0, .ref mj, .ref mn])), (mt, .inl (cI, 16384, .inl tp))]) := by
  refine Fn.intro (by decide) (Nat.le_of_ble_eq_true rfl) ?_
  intro X hX hE hin
  subst hX
  show V (gG D cI cJ cT) X _ cX9_bell 16 RX9 _ 0 0 [(0, .ref m), (1, .long (lN num)), (3, .long (lN den))] 0 []
  refine v_lconst (v := lN 1) dX9_bell_0 (by decide) ?_
  refine v_lstore (lv' := [(5, .long (lN 1)), (0, .ref m), (1, .long (lN num)), (3, .long (lN den))]) dX9_bell_1 (by decide) rfl ?_
  have hbt := beT_le (num := num) (den := den) hnum hden1
  refine v_lv [1, 2, 3, 0] rfl ?_
  exact kX9_bell_t hB hfr hp hdr hnum hnum1 hden hden1 hbt.2 hbt.1 hE (fun u hu => hu) (num + 1) 1 (by omega) (by omega) (by omega) rfl
