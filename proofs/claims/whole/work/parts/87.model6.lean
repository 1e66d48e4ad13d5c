set_option maxRecDepth 100000 in
set_option maxHeartbeats 1000000 in
theorem kX9_shuffle_loop2 {D : va_G} {cI cJ cT : ClassId} {X : vX} {m mt mw mb ml mq mz ms mr mi mk mj mn : Nat} {th pc0 dw0 lt0 ic0 ma0 en0 : Int32} {fd sg ln fr e : Nat} {tr : Bool} {tp : Nat → Int32} {b : Nat → Nat} {n0 : Nat} (hB : MB tr fd ln sg tp b e) (hn0 : n0 ≤ 256) {W0 : va_W} {post : (Nat → Int32) × Nat × Bool → Prop} (hE : vE (gG D cI cJ cT) X none W0 post (fun u => none) (fun u => [(m, .inr (9, [.int th, .int (nI fd), .int pc0, .int dw0, .int lt0, .ref mt, .ref mw, .ref mb, .ref ml, .ref mq, .ref mz, .ref ms, .ref mr, .int ic0, .ref mi, .int (dI tr), .int (nI sg), .int (nI ln), .int (nI u.2.1), .int (nI (u.2.1 - fr)), .int (dI u.2.2), .int (nI n0), .ref mk, .int en0, .ref mj, .ref mn])), (mt, .inl (cI, 16384, .inl tp)), (mk, .inl (cI, 256, .inl u.1))])) :
    ∀ (k : Nat) (i : Nat) (gK : Nat → Int32) (F : Nat → Nat) (p : Nat) (dr : Bool), i < k → i < n0 → (∀ x, x < n0 → gK x = nI (F x)) → fr ≤ p → p ≤ e → (dr = true → p = e) → (∀ u, Rg (sShuL b e i F p) e p dr (fun F => ∀ x, x < n0 → u.1 x = nI (F x)) u.2.1 u.2.2 → post u) → V (gG D cI cJ cT) X (rmD 2) cX9_shuffle 5 RX9 [(m, .inr (9, [.int th, .int (nI fd), .int pc0, .int dw0, .int lt0, .ref mt, .ref mw, .ref mb, .ref ml, .ref mq, .ref mz, .ref ms, .ref mr, .int ic0, .ref mi, .int (dI tr), .int (nI sg), .int (nI ln), .int (nI p), .int (nI (p - fr)), .int (dI dr), .int (nI n0), .ref mk, .int en0, .ref mj, .ref mn])), (mt, .inl (cI, 16384, .inl tp)), (mk, .inl (cI, 256, .inl gK))] 0 0 [(0, .ref m), (1, .int (nI n0)), (2, .int (nI i))] 29 [] := by
  intro k
  induction k with
  | zero => intro i gK F p dr hk hi hF hfr hp hdr hq; omega
  | succ k ih =>
    intro i gK F p dr hk hi hF hfr hp hdr hq
    refine v_iload_n 2 dX9_shuffle_29 rfl rfl ?_
    refine v_if_le (tgt := 84) dX9_shuffle_30 (by decide) (fun b30 => ?_) (fun b30 => ?_)
    · have b30 : i ≤ 0 := ((show nI i ≤ 0 ↔ i ≤ 0 from nI_leI (b := 0) (by omega) (by decide))).mp b30
      exact v_vret hE dX9_shuffle_84 (gK, p, dr) (hq _ (Rg_here hp hdr (by rw [show i = 0 by omega]; rfl) hF)) rfl rfl
    · have b30 : ¬ (i ≤ 0) := fun q => b30 (((show nI i ≤ 0 ↔ i ≤ 0 from nI_leI (b := 0) (by omega) (by decide))).mpr q)
      refine v_aload_n 0 dX9_shuffle_33 rfl rfl ?_
      refine v_get f_SampleDeskModel_77 0 rfl rfl dX9_shuffle_34 ?_
      refine v_if_ne (tgt := 84) dX9_shuffle_37 (by decide) (fun b37 => ?_) (fun b37 => ?_)
      · have b37 : ¬ (dr = false) := fun q => b37 ((dI_0 dr).mpr q)
        exact v_vret hE dX9_shuffle_84 (gK, p, dr) (hq _ (Rg_over (by simpa using b37) (hdr (by simpa using b37)))) rfl rfl
      · have b37 : dr = false := (dI_0 dr).mp b37
        refine v_aload_n 0 dX9_shuffle_40 rfl rfl ?_
        refine v_iload_n 2 dX9_shuffle_41 rfl rfl ?_
        refine v_i2l (v := lN i) dX9_shuffle_42 (nI_l (by omega)) ?_
        refine v_lconst (v := lN 1) dX9_shuffle_43 (by decide) ?_
        refine v_ladd dX9_shuffle_44 ?_
        refine v_topl (y := lN (i + 1)) (lN_add _ _) ?_
        refine v_callV (as := [.long (lN (i + 1))]) (rest := []) (ws' := fun u => [(m, .inr (9, [.int th, .int (nI fd), .int pc0, .int dw0, .int lt0, .ref mt, .ref mw, .ref mb, .ref ml, .ref mq, .ref mz, .ref ms, .ref mr, .int ic0, .ref mi, .int (dI tr), .int (nI sg), .int (nI ln), .int (nI u.2.1), .int (nI (u.2.1 - fr)), .int (dI u.2.2), .int (nI n0), .ref mk, .int en0, .ref mj, .ref mn])), (mt, .inl (cI, 16384, .inl tp)), (mk, .inl (cI, 256, .inl gK))]) m_SampleDeskModel_105 (kX9_uniform X.l (m := m) (mt := mt) (mw := mw) (mb := mb) (ml := ml) (mq := mq) (mz := mz) (ms := ms) (mr := mr) (mi := mi) (mk := mk) (mj := mj) (mn := mn) (th := th) (pc0 := pc0) (dw0 := dw0) (lt0 := lt0) (ic0 := ic0) (en0 := en0) (fd := fd) (sg := sg) (ln := ln) (fr := fr) (e := e) (tr := tr) (tp := tp) (b := b) (ma0 := nI n0) (p := p) (dr := dr) (nn := i + 1) hB (by omega) (by omega) hdr (by omega) (by omega)) k_code_X9_uniform [0, 1] 0 rfl rfl rfl rfl dX9_shuffle_45 (Nat.le_of_ble_eq_true rfl) ⟨rfl, rfl, by decide, by decide⟩ ⟨Nat.zero_le _, Nat.zero_le _⟩ rfl rfl (fun _ => rfl) (v_mgU rfl (fun _ => rfl)) ?_
        intro u45 c45
        obtain ⟨r1, p1, d1⟩ := u45
        try dsimp only at c45
        show V (gG D cI cJ cT) X (rmD 2) cX9_shuffle 5 RX9 [(m, .inr (9, [.int th, .int (nI fd), .int pc0, .int dw0, .int lt0, .ref mt, .ref mw, .ref mb, .ref ml, .ref mq, .ref mz, .ref ms, .ref mr, .int ic0, .ref mi, .int (dI tr), .int (nI sg), .int (nI ln), .int (nI p1), .int (nI (p1 - fr)), .int (dI d1), .int (nI n0), .ref mk, .int en0, .ref mj, .ref mn])), (mt, .inl (cI, 16384, .inl tp)), (mk, .inl (cI, 256, .inl gK))] 0 0 [(0, .ref m), (1, .int (nI n0)), (2, .int (nI i))] 48 [.long (lN r1)]
        have hr1 : r1 < i + 1 := c45.2
        have hp1 := Rl_p c45.1
        refine v_l2i (v := nI r1) dX9_shuffle_48 (lN_i r1) ?_
        refine v_istore_n (lv' := [(3, .int (nI r1)), (0, .ref m), (1, .int (nI n0)), (2, .int (nI i))]) dX9_shuffle_49 rfl (by decide) rfl ?_
        refine v_aload_n 1 dX9_shuffle_50 rfl rfl ?_
        refine v_get f_SampleDeskModel_38 0 rfl rfl dX9_shuffle_51 ?_
        refine v_iload_n 3 dX9_shuffle_54 rfl rfl ?_
        refine v_iald 0 2 rfl rfl (by omega) (by omega) dX9_shuffle_55 ?_
        refine v_istore (lv' := [(4, .int (gK i)), (3, .int (nI r1)), (0, .ref m), (1, .int (nI n0)), (2, .int (nI i))]) dX9_shuffle_56 (by decide) rfl ?_
        refine v_aload_n 2 dX9_shuffle_58 rfl rfl ?_
        refine v_get f_SampleDeskModel_38 0 rfl rfl dX9_shuffle_59 ?_
        refine v_iload_n 4 dX9_shuffle_62 rfl rfl ?_
        refine v_aload_n 2 dX9_shuffle_63 rfl rfl ?_
        refine v_get f_SampleDeskModel_38 0 rfl rfl dX9_shuffle_64 ?_
        refine v_iload_n 1 dX9_shuffle_67 rfl rfl ?_
        refine v_iald 0 2 rfl rfl (by omega) (by omega) dX9_shuffle_68 ?_
        refine v_iast (ws' := [(m, .inr (9, [.int th, .int (nI fd), .int pc0, .int dw0, .int lt0, .ref mt, .ref mw, .ref mb, .ref ml, .ref mq, .ref mz, .ref ms, .ref mr, .int ic0, .ref mi, .int (dI tr), .int (nI sg), .int (nI ln), .int (nI p1), .int (nI (p1 - fr)), .int (dI d1), .int (nI n0), .ref mk, .int en0, .ref mj, .ref mn])), (mt, .inl (cI, 16384, .inl tp)), (mk, .inl (cI, 256, .inl (upd gK i (gK r1))))]) 0 2 rfl rfl (by omega) (by omega) dX9_shuffle_69 rfl ?_
        refine v_aload_n 2 dX9_shuffle_70 rfl rfl ?_
        refine v_get f_SampleDeskModel_38 0 rfl rfl dX9_shuffle_71 ?_
        refine v_iload_n 1 dX9_shuffle_74 rfl rfl ?_
        refine v_iload 0 dX9_shuffle_75 rfl ?_
        refine v_iast (ws' := [(m, .inr (9, [.int th, .int (nI fd), .int pc0, .int dw0, .int lt0, .ref mt, .ref mw, .ref mb, .ref ml, .ref mq, .ref mz, .ref ms, .ref mr, .int ic0, .ref mi, .int (dI tr), .int (nI sg), .int (nI ln), .int (nI p1), .int (nI (p1 - fr)), .int (dI d1), .int (nI n0), .ref mk, .int en0, .ref mj, .ref mn])), (mt, .inl (cI, 16384, .inl tp)), (mk, .inl (cI, 256, .inl (upd (upd gK i (gK r1)) r1 (gK i))))]) 0 2 rfl rfl (by omega) (by omega) dX9_shuffle_77 rfl ?_
        refine v_iinc (lv' := [(2, .int (nI (i - 1))), (4, .int (gK i)), (3, .int (nI r1)), (0, .ref m), (1, .int (nI n0))]) (v := nI (i - 1)) 4 dX9_shuffle_78 rfl (sb_m1 (by omega)) (by decide) rfl ?_
        refine v_goto (tgt := 29) dX9_shuffle_81 (by decide) ?_
        refine v_lv [3, 4, 0] rfl ?_
        exact ih (i - 1) _ (fU (fU F i (F r1)) r1 (F i)) p1 d1 (by omega) (by omega) (swap_ok hF (by omega) (by omega)) (by omega) hp1.2.1 hp1.2.2 (fun u hu => hq u (sShu_go (by omega) c45.1 hu))
set_option maxRecDepth 100000 in
set_option maxHeartbeats 1000000 in
theorem kX9_shuffle_loop1 {D : va_G} {cI cJ cT : ClassId} {X : vX} {m mt mw mb ml mq mz ms mr mi mk mj mn : Nat} {th pc0 dw0 lt0 ic0 ma0 en0 : Int32} {fd sg ln fr e : Nat} {tr : Bool} {tp : Nat → Int32} {b : Nat → Nat} {n0 p : Nat} {dr : Bool} (hB : MB tr fd ln sg tp b e) (hfr : fr ≤ p) (hp : p ≤ e) (hdr : dr = true → p = e) (hn0 : n0 ≤ 256) {W0 : va_W} {post : (Nat → Int32) × Nat × Bool → Prop} (hq : ∀ u, Rg (sShu b e n0 p) e p dr (fun F => ∀ x, x < n0 → u.1 x = nI (F x)) u.2.1 u.2.2 → post u) (hE : vE (gG D cI cJ cT) X none W0 post (fun u => none) (fun u => [(m, .inr (9, [.int th, .int (nI fd), .int pc0, .int dw0, .int lt0, .ref mt, .ref mw, .ref mb, .ref ml, .ref mq, .ref mz, .ref ms, .ref mr, .int ic0, .ref mi, .int (dI tr), .int (nI sg), .int (nI ln), .int (nI u.2.1), .int (nI (u.2.1 - fr)), .int (dI u.2.2), .int (nI n0), .ref mk, .int en0, .ref mj, .ref mn])), (mt, .inl (cI, 16384, .inl tp)), (mk, .inl (cI, 256, .inl u.1))])) :
    ∀ (k : Nat) (i : Nat) (gK : Nat → Int32), n0 - i < k → i ≤ n0 → (∀ x, x < i → gK x = nI x) → V (gG D cI cJ cT) X (rmD 2) cX9_shuffle 5 RX9 [(m, .inr (9, [.int th, .int (nI fd), .int pc0, .int dw0, .int lt0, .ref mt, .ref mw, .ref mb, .ref ml, .ref mq, .ref mz, .ref ms, .ref mr, .int ic0, .ref mi, .int (dI tr), .int (nI sg), .int (nI ln), .int (nI p), .int (nI (p - fr)), .int (dI dr), .int (nI n0), .ref mk, .int en0, .ref mj, .ref mn])), (mt, .inl (cI, 16384, .inl tp)), (mk, .inl (cI, 256, .inl gK))] 0 0 [(0, .ref m), (1, .int (nI n0)), (2, .int (nI i))] 7 [] := by
  intro k
  induction k with
  | zero => intro i gK hk hi hI; omega
  | succ k ih =>
    intro i gK hk hi hI
    refine v_iload_n 2 dX9_shuffle_7 rfl rfl ?_
    refine v_iload_n 1 dX9_shuffle_8 rfl rfl ?_
    refine v_icmp_ge (tgt := 25) dX9_shuffle_9 (by decide) (fun b9 => ?_) (fun b9 => ?_)
    · have b9 : n0 ≤ i := (nI_leI (by omega) (by omega)).mp b9
      rcases Nat.eq_zero_or_pos n0 with hz | hz
      · subst hz
        refine v_iload_n 1 dX9_shuffle_25 rfl rfl ?_
        refine v_iconst (v := nI 1) dX9_shuffle_26 (by decide) ?_
        refine v_isub dX9_shuffle_27 ?_
        refine v_istore_n (lv' := [(2, .int ((nI 0) - (nI 1))), (0, .ref m), (1, .int (nI 0))]) dX9_shuffle_28 rfl (by decide) rfl ?_
        refine v_iload_n 0 dX9_shuffle_29 rfl rfl ?_
        refine v_if_le (tgt := 84) dX9_shuffle_30 (by decide) (fun b30 => ?_) (fun b30 => absurd (by decide) b30)
        exact v_vret hE dX9_shuffle_84 (gK, p, dr) (hq _ (Rg_here hp hdr rfl (fun x hx => absurd hx (Nat.not_lt_zero x)))) rfl rfl
      · refine v_iload_n 1 dX9_shuffle_25 rfl rfl ?_
        refine v_iconst (v := nI 1) dX9_shuffle_26 (by decide) ?_
        refine v_isub dX9_shuffle_27 ?_
        refine v_topi (y := nI (n0 - 1)) (pk_sub hz) ?_
        refine v_istore_n (lv' := [(2, .int (nI (n0 - 1))), (0, .ref m), (1, .int (nI n0))]) dX9_shuffle_28 rfl (by decide) rfl ?_
        refine v_lv [1, 2, 0] rfl ?_
        exact kX9_shuffle_loop2 (ma0 := ma0) hB hn0 hE (n0 + 1) (n0 - 1) gK (fun x => x) p dr (by omega) (by omega) (fun x hx => hI x (by omega)) hfr hp hdr hq
    · have b9 : ¬ (n0 ≤ i) := fun q => b9 ((nI_leI (by omega) (by omega)).mpr q)
      refine v_aload_n 0 dX9_shuffle_12 rfl rfl ?_
      refine v_get f_SampleDeskModel_38 0 rfl rfl dX9_shuffle_13 ?_
      refine v_iload_n 2 dX9_shuffle_16 rfl rfl ?_
      refine v_iload_n 2 dX9_shuffle_17 rfl rfl ?_
      refine v_iast (ws' := [(m, .inr (9, [.int th, .int (nI fd), .int pc0, .int dw0, .int lt0, .ref mt, .ref mw, .ref mb, .ref ml, .ref mq, .ref mz, .ref ms, .ref mr, .int ic0, .ref mi, .int (dI tr), .int (nI sg), .int (nI ln), .int (nI p), .int (nI (p - fr)), .int (dI dr), .int (nI n0), .ref mk, .int en0, .ref mj, .ref mn])), (mt, .inl (cI, 16384, .inl tp)), (mk, .inl (cI, 256, .inl (upd gK i (nI i))))]) 0 2 rfl rfl (by omega) (by omega) dX9_shuffle_18 rfl ?_
      refine v_iinc (lv' := [(2, .int (nI (i + 1))), (0, .ref m), (1, .int (nI n0))]) (v := nI (i + 1)) 2 dX9_shuffle_19 rfl (nI_1 i) (by decide) rfl ?_
      refine v_goto (tgt := 7) dX9_shuffle_22 (by decide) ?_
      refine v_lv [1, 2, 0] rfl ?_
      exact ih (i + 1) _ (by omega) (by omega) (fun x hx => init_ok hI x hx)
set_option maxRecDepth 100000 in
set_option maxHeartbeats 1000000 in
theorem kX9_shuffle {D : va_G} {cI cJ cT : ClassId} (l : Launch) {m mt mw mb ml mq mz ms mr mi mk mj mn : Nat} {th pc0 dw0 lt0 ic0 ma0 en0 : Int32} {fd sg ln fr e : Nat} {tr : Bool} {tp : Nat → Int32} {b : Nat → Nat} {p : Nat} {dr : Bool} {n0 : Nat} {gK : Nat → Int32} (hB : MB tr fd ln sg tp b e) (hfr : fr ≤ p) (hp : p ≤ e) (hdr : dr = true → p = e) (hn0 : n0 ≤ 256) : Fn (S := (Nat → Int32) × Nat × Bool) (gG D cI cJ cT) l yX9_shuffle (.code yX9_shuffle cX9_shuffle 5 none) (rmD 2) [.ref m, .int (nI n0)] [(m, .inr (9, [.int th, .int (nI fd), .int pc0, .int dw0, .int lt0, .ref mt, .ref mw, .ref mb, .ref ml, .ref mq, .ref mz, .ref ms, .ref mr, .int ic0, .ref mi, .int (dI tr), .int (nI sg), .int (nI ln), .int (nI p), .int (nI (p - fr)), .int (dI dr), .int ma0, .ref mk, .int en0, .ref mj, .ref mn])), (mt, .inl (cI, 16384, .inl tp)), (mk, .inl (cI, 256, .inl gK))] (fun u => Rg (sShu b e n0 p) e p dr (fun F => ∀ x, x < n0 → u.1 x = nI (F x)) u.2.1 u.2.2) (fun u => none) (fun u => [(m, .inr (9, [.int th, .int (nI fd), .int pc0, .int dw0, .int lt0, .ref mt, .ref mw, .ref mb, .ref ml, .ref mq, .ref mz, .ref ms, .ref mr, .int ic0, .ref mi, .int (dI tr), .int (nI sg), .int (nI ln), .int (nI u.2.1), .int (nI (u.2.1 - fr)), .int (dI u.2.2), .int (nI n0), .ref mk, .int en0, .ref mj, .ref mn])), (mt, .inl (cI, 16384, .inl tp)), (mk, .inl (cI, 256, .inl u.1))]) := by
  refine Fn.intro (by decide) (Nat.le_of_ble_eq_true rfl) ?_
  intro X hX hE hin
  subst hX
  show V (gG D cI cJ cT) X _ cX9_shuffle 5 RX9 _ 0 0 [(0, .ref m), (1, .int (nI n0))] 0 []
  refine v_aload_n 0 dX9_shuffle_0 rfl rfl ?_
  refine v_iload_n 1 dX9_shuffle_1 rfl rfl ?_
  refine v_put (ws' := [(m, .inr (9, [.int th, .int (nI fd), .int pc0, .int dw0, .int lt0, .ref mt, .ref mw, .ref mb, .ref ml, .ref mq, .ref mz, .ref ms, .ref mr, .int ic0, .ref mi, .int (dI tr), .int (nI sg), .int (nI ln), .int (nI p), .int (nI (p - fr)), .int (dI dr), .int (nI n0), .ref mk, .int en0, .ref mj, .ref mn])), (mt, .inl (cI, 16384, .inl tp)), (mk, .inl (cI, 256, .inl gK))]) fw_SampleDeskModel_123 0 rfl (rfl) (rfl) (Nat.le_of_ble_eq_true rfl) dX9_shuffle_2 rfl ?_
  refine v_iconst (v := nI 0) dX9_shuffle_5 (by decide) ?_
  refine v_istore_n (lv' := [(2, .int (nI 0)), (0, .ref m), (1, .int (nI n0))]) dX9_shuffle_6 rfl (by decide) rfl ?_
  refine v_lv [1, 2, 0] rfl ?_
  exact kX9_shuffle_loop1 (ma0 := ma0) hB hfr hp hdr hn0 (fun u hu => hu) hE (n0 + 1) 0 gK (by omega) (by omega) (fun x hx => absurd hx (Nat.not_lt_zero x))
set_option maxRecDepth 100000 in
set_option maxHeartbeats 1000000 in
theorem kX9_stratum_loop {D : va_G} {cI cJ cT : ClassId} {X : vX} {m mt mw mb ml mq mz ms mr mi mk mj mn : Nat} {th pc0 dw0 lt0 ic0 ma0 en0 : Int32} {fd sg ln fr e : Nat} {tr : Bool} {tp : Nat → Int32} {b : Nat → Nat} {n0 arms p : Nat} {dr : Bool} {g0 : Nat → Int32} (hn0 : n0 ≤ 256) (ha0 : 0 < arms) (ha : arms < 2 ^ 31) {W0 : va_W} {post : (Nat → Int32) × Nat × Bool → Prop} (hq : ∀ g, (∀ x, x < n0 → g x = rI (g0 x) (nI arms)) → post (g, p, dr)) (hE : vE (gG D cI cJ cT) X none W0 post (fun u => none) (fun u => [(m, .inr (9, [.int th, .int (nI fd), .int pc0, .int dw0, .int lt0, .ref mt, .ref mw, .ref mb, .ref ml, .ref mq, .ref mz, .ref ms, .ref mr, .int ic0, .ref mi, .int (dI tr), .int (nI sg), .int (nI ln), .int (nI u.2.1), .int (nI (u.2.1 - fr)), .int (dI u.2.2), .int (nI n0), .ref mk, .int en0, .ref mj, .ref mn])), (mt, .inl (cI, 16384, .inl tp)), (mk, .inl (cI, 256, .inl u.1))])) :
    ∀ (k : Nat) (i : Nat) (gK : Nat → Int32), n0 - i < k → i ≤ n0 → (∀ x, x < i → gK x = rI (g0 x) (nI arms)) → (∀ x, i ≤ x → gK x = g0 x) → V (gG D cI cJ cT) X (rmD 3) cX9_stratum 4 RX9 [(m, .inr (9, [.int th, .int (nI fd), .int pc0, .int dw0, .int lt0, .ref mt, .ref mw, .ref mb, .ref ml, .ref mq, .ref mz, .ref ms, .ref mr, .int ic0, .ref mi, .int (dI tr), .int (nI sg), .int (nI ln), .int (nI p), .int (nI (p - fr)), .int (dI dr), .int (nI n0), .ref mk, .int en0, .ref mj, .ref mn])), (mt, .inl (cI, 16384, .inl tp)), (mk, .inl (cI, 256, .inl gK))] 0 0 [(0, .ref m), (1, .int (nI n0)), (2, .int (nI arms)), (3, .int (nI i))] 7 [] := by
  intro k
  induction k with
  | zero => intro i gK hk hi hlo hhi; omega
  | succ k ih =>
    intro i gK hk hi hlo hhi
    refine v_iload_n 3 dX9_stratum_7 rfl rfl ?_
    refine v_iload_n 1 dX9_stratum_8 rfl rfl ?_
    refine v_icmp_ge (tgt := 32) dX9_stratum_9 (by decide) (fun b9 => ?_) (fun b9 => ?_)
    · have b9 : n0 ≤ i := (nI_leI (by omega) (by omega)).mp b9
      exact v_vret hE dX9_stratum_32 (gK, p, dr) (hq gK (fun x hx => hlo x (by omega))) rfl rfl
    · have b9 : ¬ (n0 ≤ i) := fun q => b9 ((nI_leI (by omega) (by omega)).mpr q)
      refine v_aload_n 0 dX9_stratum_12 rfl rfl ?_
      refine v_get f_SampleDeskModel_38 0 rfl rfl dX9_stratum_13 ?_
      refine v_iload_n 3 dX9_stratum_16 rfl rfl ?_
      refine v_aload_n 0 dX9_stratum_17 rfl rfl ?_
      refine v_get f_SampleDeskModel_38 0 rfl rfl dX9_stratum_18 ?_
      refine v_iload_n 3 dX9_stratum_21 rfl rfl ?_
      refine v_iald 0 2 rfl rfl (by omega) (by omega) dX9_stratum_22 ?_
      refine v_iload_n 2 dX9_stratum_23 rfl rfl ?_
      refine v_irem dX9_stratum_24 (fun h => absurd ((nI_eq ha (by decide)).mp (show nI arms = nI 0 from h)) (by omega)) ?_
      refine v_iast (ws' := [(m, .inr (9, [.int th, .int (nI fd), .int pc0, .int dw0, .int lt0, .ref mt, .ref mw, .ref mb, .ref ml, .ref mq, .ref mz, .ref ms, .ref mr, .int ic0, .ref mi, .int (dI tr), .int (nI sg), .int (nI ln), .int (nI p), .int (nI (p - fr)), .int (dI dr), .int (nI n0), .ref mk, .int en0, .ref mj, .ref mn])), (mt, .inl (cI, 16384, .inl tp)), (mk, .inl (cI, 256, .inl (upd gK i ((gK i) - (gK i) / (nI arms) * (nI arms)))))]) 0 2 rfl rfl (by omega) (by omega) dX9_stratum_25 rfl ?_
      refine v_iinc (lv' := [(3, .int (nI (i + 1))), (0, .ref m), (1, .int (nI n0)), (2, .int (nI arms))]) (v := nI (i + 1)) 3 dX9_stratum_26 rfl (nI_1 i) (by decide) rfl ?_
      refine v_goto (tgt := 7) dX9_stratum_29 (by decide) ?_
      refine v_lv [1, 2, 3, 0] rfl ?_
      exact ih (i + 1) _ (by omega) (by omega) (fun x hx => by unfold upd; exact if q9 : x = i then by rw [if_pos q9, q9, hhi i (Nat.le_refl _)]; rfl else by rw [if_neg q9]; exact hlo x (by omega)) (fun x hx => by rw [pk_un (by omega)]; exact hhi x (by omega))
set_option maxRecDepth 100000 in
set_option maxHeartbeats 1000000 in
theorem kX9_stratum {D : va_G} {cI cJ cT : ClassId} (l : Launch) {m mt mw mb ml mq mz ms mr mi mk mj mn : Nat} {th pc0 dw0 lt0 ic0 ma0 en0 : Int32} {fd sg ln fr e : Nat} {tr : Bool} {tp : Nat → Int32} {b : Nat → Nat} {p : Nat} {dr : Bool} {n0 arms : Nat} {gK : Nat → Int32} (hB : MB tr fd ln sg tp b e) (hfr : fr ≤ p) (hp : p ≤ e) (hdr : dr = true → p = e) (hn0 : n0 ≤ 256) (ha0 : 0 < arms) (ha : arms < 2 ^ 31) : Fn (S := (Nat → Int32) × Nat × Bool) (gG D cI cJ cT) l yX9_stratum (.code yX9_stratum cX9_stratum 4 none) (rmD 3) [.ref m, .int (nI n0), .int (nI arms)] [(m, .inr (9, [.int th, .int (nI fd), .int pc0, .int dw0, .int lt0, .ref mt, .ref mw, .ref mb, .ref ml, .ref mq, .ref mz, .ref ms, .ref mr, .int ic0, .ref mi, .int (dI tr), .int (nI sg), .int (nI ln), .int (nI p), .int (nI (p - fr)), .int (dI dr), .int ma0, .ref mk, .int en0, .ref mj, .ref mn])), (mt, .inl (cI, 16384, .inl tp)), (mk, .inl (cI, 256, .inl gK))] (fun u => Rg (sStr b e n0 arms p) e p dr (fun F => ∀ x, x < n0 → u.1 x = nI (F x)) u.2.1 u.2.2) (fun u => none) (fun u => [(m, .inr (9, [.int th, .int (nI fd), .int pc0, .int dw0, .int lt0, .ref mt, .ref mw, .ref mb, .ref ml, .ref mq, .ref mz, .ref ms, .ref mr, .int ic0, .ref mi, .int (dI tr), .int (nI sg), .int (nI ln), .int (nI u.2.1), .int (nI (u.2.1 - fr)), .int (dI u.2.2), .int (nI n0), .ref mk, .int en0, .ref mj, .ref mn])), (mt, .inl (cI, 16384, .inl tp)), (mk, .inl (cI, 256, .inl u.1))]) := by
  refine Fn.intro (by decide) (Nat.le_of_ble_eq_true rfl) ?_
  intro X hX hE hin
  subst hX
  show V (gG D cI cJ cT) X _ cX9_stratum 4 RX9 _ 0 0 [(0, .ref m), (1, .int (nI n0)), (2, .int (nI arms))] 0 []
  refine v_aload_n 0 dX9_stratum_0 rfl rfl ?_
  refine v_iload_n 1 dX9_stratum_1 rfl rfl ?_
  refine v_callV (as := [.int (nI n0)]) (rest := []) (ws' := fun u => [(m, .inr (9, [.int th, .int (nI fd), .int pc0, .int dw0, .int lt0, .ref mt, .ref mw, .ref mb, .ref ml, .ref mq, .ref mz, .ref ms, .ref mr, .int ic0, .ref mi, .int (dI tr), .int (nI sg), .int (nI ln), .int (nI u.2.1), .int (nI (u.2.1 - fr)), .int (dI u.2.2), .int (nI n0), .ref mk, .int en0, .ref mj, .ref mn])), (mt, .inl (cI, 16384, .inl tp)), (mk, .inl (cI, 256, .inl u.1))]) m_SampleDeskModel_134 (kX9_shuffle X.l (m := m) (mt := mt) (mw := mw) (mb := mb) (ml := ml) (mq := mq) (mz := mz) (ms := ms) (mr := mr) (mi := mi) (mk := mk) (mj := mj) (mn := mn) (th := th) (pc0 := pc0) (dw0 := dw0) (lt0 := lt0) (ic0 := ic0) (en0 := en0) (fd := fd) (sg := sg) (ln := ln) (fr := fr) (e := e) (tr := tr) (tp := tp) (b := b) (ma0 := ma0) (p := p) (dr := dr) (n0 := n0) (gK := gK) hB (by omega) (by omega) hdr hn0) k_code_X9_shuffle [0, 1, 2] 0 rfl rfl rfl rfl dX9_stratum_2 (Nat.le_of_ble_eq_true rfl) ⟨rfl, rfl, by decide, by decide⟩ ⟨Nat.zero_le _, Nat.zero_le _⟩ rfl rfl (fun _ => rfl) (v_mgU rfl (fun _ => rfl)) ?_
  intro u2 c2
  obtain ⟨g1, p1, d1⟩ := u2
  try dsimp only at c2
  show V (gG D cI cJ cT) X (rmD 3) cX9_stratum 4 RX9 [(m, .inr (9, [.int th, .int (nI fd), .int pc0, .int dw0, .int lt0, .ref mt, .ref mw, .ref mb, .ref ml, .ref mq, .ref mz, .ref ms, .ref mr, .int ic0, .ref mi, .int (dI tr), .int (nI sg), .int (nI ln), .int (nI p1), .int (nI (p1 - fr)), .int (dI d1), .int (nI n0), .ref mk, .int en0, .ref mj, .ref mn])), (mt, .inl (cI, 16384, .inl tp)), (mk, .inl (cI, 256, .inl g1))] 0 0 [(0, .ref m), (1, .int (nI n0)), (2, .int (nI arms))] 5 []
  refine v_iconst (v := nI 0) dX9_stratum_5 (by decide) ?_
  refine v_istore_n (lv' := [(3, .int (nI 0)), (0, .ref m), (1, .int (nI n0)), (2, .int (nI arms))]) dX9_stratum_6 rfl (by decide) rfl ?_
  refine v_lv [1, 2, 3, 0] rfl ?_
  exact kX9_stratum_loop (ma0 := ma0) (e := e) (b := b) hn0 ha0 ha (fun g hg => str_map hn0 ha0 ha c2 hg) hE (n0 + 1) 0 g1 (by omega) (by omega) (fun x hx => absurd hx (Nat.not_lt_zero x)) (fun _ _ => rfl)
/-- a coin for one of the left: 1 only while some are wanted, 0 only while not all are -/
theorem subM {b : Nat → Nat} {e num den p r1 p1 : Nat} {dr d1 : Bool} (h1 : Rl (sCoin b e num den p) e p dr (r1, p1, d1)) (hd : dr = false) : (num = 0 → r1 = 0) ∧ (den ≤ num → 0 < num → r1 = 1) := by
  constructor
  · intro hg
    have : sCoin b e num den p = some (0, p) := by rw [sCoin, if_pos hg]
    rcases h1.2.1 hd with ⟨q, h2, h3⟩ | ⟨h2, -⟩
    · rw [this] at h2; cases h2; simp only [Prod.mk.injEq] at h3; exact h3.1
    · rw [this] at h2; cases h2
  · intro hh hg
    have : sCoin b e num den p = some (1, p) := by rw [sCoin, if_neg (by omega), if_pos hh]
    rcases h1.2.1 hd with ⟨q, h2, h3⟩ | ⟨h2, -⟩
    · rw [this] at h2; cases h2; simp only [Prod.mk.injEq] at h3; exact h3.1
    · rw [this] at h2; cases h2
set_option maxRecDepth 100000 in
set_option maxHeartbeats 1000000 in
theorem kX9_subset_loop {D : va_G} {cI cJ cT : ClassId} {X : vX} {m mt mw mb ml mq mz ms mr mi mk mj mn : Nat} {th pc0 dw0 lt0 ic0 ma0 en0 : Int32} {fd sg ln fr e : Nat} {tr : Bool} {tp : Nat → Int32} {b : Nat → Nat} {nn kk : Nat} (hB : MB tr fd ln sg tp b e) (hnn : nn ≤ 256) (hkk : kk ≤ nn) {W0 : va_W} {post : Nat × (Nat → Int32) × Nat × Bool → Prop} (hE : vE (gG D cI cJ cT) X none W0 post (fun u => none) (fun u => [(m, .inr (9, [.int th, .int (nI fd), .int pc0, .int dw0, .int lt0, .ref mt, .ref mw, .ref mb, .ref ml, .ref mq, .ref mz, .ref ms, .ref mr, .int ic0, .ref mi, .int (dI tr), .int (nI sg), .int (nI ln), .int (nI u.2.2.1), .int (nI (u.2.2.1 - fr)), .int (dI u.2.2.2), .int (nI u.1), .ref mk, .int en0, .ref mj, .ref mn])), (mt, .inl (cI, 16384, .inl tp)), (mk, .inl (cI, 256, .inl u.2.1))])) :
    ∀ (k : Nat) (i : Nat) (c : Nat) (gK : Nat → Int32) (F : Nat → Nat) (p : Nat) (dr : Bool), nn - i < k → i ≤ nn → c ≤ i ∧ c ≤ kk → kk - c ≤ nn - i → (∀ x, x < c → gK x = nI (F x)) → fr ≤ p → p ≤ e → (dr = true → p = e) → (∀ u, Rg (sSubL b e kk (nn - i) i c F p) e p dr (fun a => u.1 = a.1 ∧ ∀ x, x < a.1 → u.2.1 x = nI (a.2 x)) u.2.2.1 u.2.2.2 ∧ u.1 ≤ 256 → post u) → V (gG D cI cJ cT) X (rmD 2) cX9_subset 4 RX9 [(m, .inr (9, [.int th, .int (nI fd), .int pc0, .int dw0, .int lt0, .ref mt, .ref mw, .ref mb, .ref ml, .ref mq, .ref mz, .ref ms, .ref mr, .int ic0, .ref mi, .int (dI tr), .int (nI sg), .int (nI ln), .int (nI p), .int (nI (p - fr)), .int (dI dr), .int (nI c), .ref mk, .int en0, .ref mj, .ref mn])), (mt, .inl (cI, 16384, .inl tp)), (mk, .inl (cI, 256, .inl gK))] 0 0 [(0, .ref m), (1, .int (nI nn)), (2, .int (nI kk)), (3, .int (nI i))] 7 [] := by
  intro k
  induction k with
  | zero => intro i c gK F p dr hk hi hci hcb hF hfr hp hdr hq; omega
  | succ k ih =>
    intro i c gK F p dr hk hi hci hcb hF hfr hp hdr hq
    refine v_iload_n 3 dX9_subset_7 rfl rfl ?_
    refine v_iload_n 1 dX9_subset_8 rfl rfl ?_
    refine v_icmp_ge (tgt := 64) dX9_subset_9 (by decide) (fun b9 => ?_) (fun b9 => ?_)
    · have b9 : nn ≤ i := (nI_leI (by omega) (by omega)).mp b9
      exact v_vret hE dX9_subset_64 (c, gK, p, dr) (hq _ ⟨Rg_here hp hdr (by rw [show nn - i = 0 by omega]; rfl) ⟨rfl, hF⟩, by show c ≤ 256; omega⟩) rfl rfl
    · have b9 : ¬ (nn ≤ i) := fun q => b9 ((nI_leI (by omega) (by omega)).mpr q)
      refine v_aload_n 0 dX9_subset_12 rfl rfl ?_
      refine v_get f_SampleDeskModel_77 0 rfl rfl dX9_subset_13 ?_
      refine v_if_ne (tgt := 64) dX9_subset_16 (by decide) (fun b16 => ?_) (fun b16 => ?_)
      · have b16 : ¬ (dr = false) := fun q => b16 ((dI_0 dr).mpr q)
        exact v_vret hE dX9_subset_64 (c, gK, p, dr) (hq _ ⟨Rg_over (by simpa using b16) (hdr (by simpa using b16)), by show c ≤ 256; omega⟩) rfl rfl
      · have b16 : dr = false := (dI_0 dr).mp b16
        refine v_aload_n 0 dX9_subset_19 rfl rfl ?_
        refine v_iload_n 2 dX9_subset_20 rfl rfl ?_
        refine v_aload_n 0 dX9_subset_21 rfl rfl ?_
        refine v_get f_SampleDeskModel_123 0 rfl rfl dX9_subset_22 ?_
        refine v_isub dX9_subset_25 ?_
        refine v_topi (y := nI (kk - c)) (pk_sub (by omega)) ?_
        refine v_i2l (v := lN (kk - c)) dX9_subset_26 (nI_l (by omega)) ?_
        refine v_iload_n 1 dX9_subset_27 rfl rfl ?_
        refine v_iload_n 3 dX9_subset_28 rfl rfl ?_
        refine v_isub dX9_subset_29 ?_
        refine v_topi (y := nI (nn - i)) (pk_sub (by omega)) ?_
        refine v_i2l (v := lN (nn - i)) dX9_subset_30 (nI_l (by omega)) ?_
        refine v_callV (as := [.long (lN (kk - c)), .long (lN (nn - i))]) (rest := []) (ws' := fun u => [(m, .inr (9, [.int th, .int (nI fd), .int pc0, .int dw0, .int lt0, .ref mt, .ref mw, .ref mb, .ref ml, .ref mq, .ref mz, .ref ms, .ref mr, .int ic0, .ref mi, .int (dI tr), .int (nI sg), .int (nI ln), .int (nI u.2.1), .int (nI (u.2.1 - fr)), .int (dI u.2.2), .int (nI c), .ref mk, .int en0, .ref mj, .ref mn])), (mt, .inl (cI, 16384, .inl tp)), (mk, .inl (cI, 256, .inl gK))]) m_SampleDeskModel_109 (kX9_coin X.l (m := m) (mt := mt) (mw := mw) (mb := mb) (ml := ml) (mq := mq) (mz := mz) (ms := ms) (mr := mr) (mi := mi) (mk := mk) (mj := mj) (mn := mn) (th := th) (pc0 := pc0) (dw0 := dw0) (lt0 := lt0) (ic0 := ic0) (en0 := en0) (fd := fd) (sg := sg) (ln := ln) (fr := fr) (e := e) (tr := tr) (tp := tp) (b := b) (ma0 := nI c) (p := p) (dr := dr) (num := kk - c) (den := nn - i) hB (by omega) (by omega) hdr (by omega) (by omega)) k_code_X9_coin [0, 1] 0 rfl rfl rfl rfl dX9_subset_31 (Nat.le_of_ble_eq_true rfl) ⟨rfl, rfl, by decide, by decide⟩ ⟨Nat.zero_le _, Nat.zero_le _⟩ rfl rfl (fun _ => rfl) (v_mgU rfl (fun _ => rfl)) ?_
        intro u31 c31
        obtain ⟨r1, p1, d1⟩ := u31
        try dsimp only at c31
        show V (gG D cI cJ cT) X (rmD 2) cX9_subset 4 RX9 [(m, .inr (9, [.int th, .int (nI fd), .int pc0, .int dw0, .int lt0, .ref mt, .ref mw, .ref mb, .ref ml, .ref mq, .ref mz, .ref ms, .ref mr, .int ic0, .ref mi, .int (dI tr), .int (nI sg), .int (nI ln), .int (nI p1), .int (nI (p1 - fr)), .int (dI d1), .int (nI c), .ref mk, .int en0, .ref mj, .ref mn])), (mt, .inl (cI, 16384, .inl tp)), (mk, .inl (cI, 256, .inl gK))] 0 0 [(0, .ref m), (1, .int (nI nn)), (2, .int (nI kk)), (3, .int (nI i))] 34 [.int (nI r1)]
        have hr1 : r1 ≤ 1 := c31.2
        have hp1 := Rl_p c31.1
        have hsu := subM c31.1 b16
        refine v_iconst (v := nI 1) dX9_subset_34 (by decide) ?_
        refine v_icmp_ne (tgt := 58) dX9_subset_35 (by decide) (fun b35 => ?_) (fun b35 => ?_)
        · have b35 : ¬ (r1 = 1) := fun q => b35 ((nI_eq (by omega) (by decide)).mpr q)
          refine v_iinc (lv' := [(3, .int (nI (i + 1))), (0, .ref m), (1, .int (nI nn)), (2, .int (nI kk))]) (v := nI (i + 1)) 3 dX9_subset_58 rfl (nI_1 i) (by decide) rfl ?_
          refine v_goto (tgt := 7) dX9_subset_61 (by decide) ?_
          refine v_lv [1, 2, 3, 0] rfl ?_
          exact ih (i + 1) c gK F p1 d1 (by omega) (by omega) (by omega) (by omega) hF (by omega) hp1.2.1 hp1.2.2 (fun u hu => hq u ⟨sSub_go (by omega) c31.1 (by rw [if_neg b35]; exact hu.1), hu.2⟩)
        · have b35 : r1 = 1 := (nI_eq (by omega) (by decide)).mp b35
          refine v_aload_n 0 dX9_subset_38 rfl rfl ?_
          refine v_get f_SampleDeskModel_38 0 rfl rfl dX9_subset_39 ?_
          refine v_aload_n 0 dX9_subset_42 rfl rfl ?_
          refine v_get f_SampleDeskModel_123 0 rfl rfl dX9_subset_43 ?_
          refine v_iload_n 3 dX9_subset_46 rfl rfl ?_
          refine v_iast (ws' := [(m, .inr (9, [.int th, .int (nI fd), .int pc0, .int dw0, .int lt0, .ref mt, .ref mw, .ref mb, .ref ml, .ref mq, .ref mz, .ref ms, .ref mr, .int ic0, .ref mi, .int (dI tr), .int (nI sg), .int (nI ln), .int (nI p1), .int (nI (p1 - fr)), .int (dI d1), .int (nI c), .ref mk, .int en0, .ref mj, .ref mn])), (mt, .inl (cI, 16384, .inl tp)), (mk, .inl (cI, 256, .inl (upd gK c (nI i))))]) 0 2 rfl rfl (by omega) (by omega) dX9_subset_47 rfl ?_
          refine v_aload_n 0 dX9_subset_48 rfl rfl ?_
          refine v_dup dX9_subset_49 rfl ?_
          refine v_get f_SampleDeskModel_123 0 rfl rfl dX9_subset_50 ?_
          refine v_iconst (v := nI 1) dX9_subset_53 (by decide) ?_
          refine v_iadd dX9_subset_54 ?_
          refine v_topi (y := nI (c + 1)) (nI_add _ _) ?_
          refine v_put (ws' := [(m, .inr (9, [.int th, .int (nI fd), .int pc0, .int dw0, .int lt0, .ref mt, .ref mw, .ref mb, .ref ml, .ref mq, .ref mz, .ref ms, .ref mr, .int ic0, .ref mi, .int (dI tr), .int (nI sg), .int (nI ln), .int (nI p1), .int (nI (p1 - fr)), .int (dI d1), .int (nI (c + 1)), .ref mk, .int en0, .ref mj, .ref mn])), (mt, .inl (cI, 16384, .inl tp)), (mk, .inl (cI, 256, .inl (upd gK c (nI i))))]) fw_SampleDeskModel_123 0 rfl (rfl) (rfl) (Nat.le_of_ble_eq_true rfl) dX9_subset_55 rfl ?_
          refine v_iinc (lv' := [(3, .int (nI (i + 1))), (0, .ref m), (1, .int (nI nn)), (2, .int (nI kk))]) (v := nI (i + 1)) 3 dX9_subset_58 rfl (nI_1 i) (by decide) rfl ?_
          refine v_goto (tgt := 7) dX9_subset_61 (by decide) ?_
          refine v_lv [1, 2, 3, 0] rfl ?_
          exact ih (i + 1) (c + 1) _ (fU F c i) p1 d1 (by omega) (by omega) (by omega) (by omega) (upd_ok hF rfl) (by omega) hp1.2.1 hp1.2.2 (fun u hu => hq u ⟨sSub_go (by omega) c31.1 (by rw [if_pos b35]; exact hu.1), hu.2⟩)
set_option maxRecDepth 100000 in
set_option maxHeartbeats 1000000 in
theorem kX9_subset {D : va_G} {cI cJ cT : ClassId} (l : Launch) {m mt mw mb ml mq mz ms mr mi mk mj mn : Nat} {th pc0 dw0 lt0 ic0 ma0 en0 : Int32} {fd sg ln fr e : Nat} {tr : Bool} {tp : Nat → Int32} {b : Nat → Nat} {p : Nat} {dr : Bool} {nn kk : Nat} {gK : Nat → Int32} (hB : MB tr fd ln sg tp b e) (hfr : fr ≤ p) (hp : p ≤ e) (hdr : dr = true → p = e) (hnn : nn ≤ 256) (hkk : kk ≤ nn) : Fn (S := Nat × (Nat → Int32) × Nat × Bool) (gG D cI cJ cT) l yX9_subset (.code yX9_subset cX9_subset 4 none) (rmD 2) [.ref m, .int (nI nn), .int (nI kk)] [(m, .inr (9, [.int th, .int (nI fd), .int pc0, .int dw0, .int lt0, .ref mt, .ref mw, .ref mb, .ref ml, .ref mq, .ref mz, .ref ms, .ref mr, .int ic0, .ref mi, .int (dI tr), .int (nI sg), .int (nI ln), .int (nI p), .int (nI (p - fr)), .int (dI dr), .int ma0, .ref mk, .int en0, .ref mj, .ref mn])), (mt, .inl (cI, 16384, .inl tp)), (mk, .inl (cI, 256, .inl gK))] (fun u => Rg (sSub b e nn kk p) e p dr (fun a => u.1 = a.1 ∧ ∀ x, x < a.1 → u.2.1 x = nI (a.2 x)) u.2.2.1 u.2.2.2 ∧ u.1 ≤ 256) (fun u => none) (fun u => [(m, .inr (9, [.int th, .int (nI fd), .int pc0, .int dw0, .int lt0, .ref mt, .ref mw, .ref mb, .ref ml, .ref mq, .ref mz, .ref ms, .ref mr, .int ic0, .ref mi, .int (dI tr), .int (nI sg), .int (nI ln), .int (nI u.2.2.1), .int (nI (u.2.2.1 - fr)), .int (dI u.2.2.2), .int (nI u.1), .ref mk, .int en0, .ref mj, .ref mn])), (mt, .inl (cI, 16384, .inl tp)), (mk, .inl (cI, 256, .inl u.2.1))]) := by
  refine Fn.intro (by decide) (Nat.le_of_ble_eq_true rfl) ?_
  intro X hX hE hin
  subst hX
  show V (gG D cI cJ cT) X _ cX9_subset 4 RX9 _ 0 0 [(0, .ref m), (1, .int (nI nn)), (2, .int (nI kk))] 0 []
  refine v_aload_n 0 dX9_subset_0 rfl rfl ?_
  refine v_iconst (v := nI 0) dX9_subset_1 (by decide) ?_
  refine v_put (ws' := [(m, .inr (9, [.int th, .int (nI fd), .int pc0, .int dw0, .int lt0, .ref mt, .ref mw, .ref mb, .ref ml, .ref mq, .ref mz, .ref ms, .ref mr, .int ic0, .ref mi, .int (dI tr), .int (nI sg), .int (nI ln), .int (nI p), .int (nI (p - fr)), .int (dI dr), .int (nI 0), .ref mk, .int en0, .ref mj, .ref mn])), (mt, .inl (cI, 16384, .inl tp)), (mk, .inl (cI, 256, .inl gK))]) fw_SampleDeskModel_123 0 rfl (rfl) (rfl) (Nat.le_of_ble_eq_true rfl) dX9_subset_2 rfl ?_
  refine v_iconst (v := nI 0) dX9_subset_5 (by decide) ?_
  refine v_istore_n (lv' := [(3, .int (nI 0)), (0, .ref m), (1, .int (nI nn)), (2, .int (nI kk))]) dX9_subset_6 rfl (by decide) rfl ?_
  refine v_lv [1, 2, 3, 0] rfl ?_
  exact kX9_subset_loop (ma0 := ma0) hB hnn hkk hE (nn + 1) 0 0 gK (fun _ => 0) p dr (by omega) (by omega) (by omega) (by omega) (fun x hx => absurd hx (Nat.not_lt_zero x)) hfr hp hdr (fun u hu => hu)
theorem lN_m1 {h : Nat} (h0 : 0 < h) : lN h + (-1) = lN (h - 1) := by
  rw [← lN_sub (a := h) (b := 1) h0]
  exact (Int64.sub_eq_add_neg ..).symm
set_option maxRecDepth 100000 in
set_option maxHeartbeats 1000000 in
theorem kX9_path_loop {D : va_G} {cI cJ cT : ClassId} {X : vX} {m mt mw mb ml mq mz ms mr mi mk mj mn : Nat} {th pc0 dw0 lt0 ic0 ma0 en0 : Int32} {fd sg ln fr e : Nat} {tr : Bool} {tp : Nat → Int32} {b : Nat → Nat} {n0 : Nat} (hB : MB tr fd ln sg tp b e) (hn0 : n0 ≤ 128) {W0 : va_W} {post : (Nat → Int32) × Nat × Bool → Prop} (hE : vE (gG D cI cJ cT) X none W0 post (fun u => none) (fun u => [(m, .inr (9, [.int th, .int (nI fd), .int pc0, .int dw0, .int lt0, .ref mt, .ref mw, .ref mb, .ref ml, .ref mq, .ref mz, .ref ms, .ref mr, .int ic0, .ref mi, .int (dI tr), .int (nI sg), .int (nI ln), .int (nI u.2.1), .int (nI (u.2.1 - fr)), .int (dI u.2.2), .int (nI (2 * n0)), .ref mk, .int en0, .ref mj, .ref mn])), (mt, .inl (cI, 16384, .inl tp)), (mk, .inl (cI, 256, .inl u.1))])) :
    ∀ (k : Nat) (a : Nat) (h : Nat) (gK : Nat → Int32) (F : Nat → Nat) (p : Nat) (dr : Bool), 2 * n0 - a < k → a ≤ 2 * n0 → h ≤ 2 * n0 - a → (h + a) % 2 = 0 → (∀ x, x < a → gK x = nI (F x)) → fr ≤ p → p ≤ e → (dr = true → p = e) → (∀ u, Rg (sPatL b e (2 * n0 - a) a h F p) e p dr (fun F => ∀ x, x < 2 * n0 → u.1 x = nI (F x)) u.2.1 u.2.2 → post u) → V (gG D cI cJ cT) X (rmD 2) cX9_path 7 RX9 [(m, .inr (9, [.int th, .int (nI fd), .int pc0, .int dw0, .int lt0, .ref mt, .ref mw, .ref mb, .ref ml, .ref mq, .ref mz, .ref ms, .ref mr, .int ic0, .ref mi, .int (dI tr), .int (nI sg), .int (nI ln), .int (nI p), .int (nI (p - fr)), .int (dI dr), .int (nI (2 * n0)), .ref mk, .int en0, .ref mj, .ref mn])), (mt, .inl (cI, 16384, .inl tp)), (mk, .inl (cI, 256, .inl gK))] 0 0 [(0, .ref m), (1, .int (nI n0)), (2, .long (lN h)), (4, .int (nI a))] 12 [] := by
  intro k
  induction k with
  | zero => intro a h gK F p dr hk ha hhr hpar hF hfr hp hdr hq; omega
  | succ k ih =>
    intro a h gK F p dr hk ha hhr hpar hF hfr hp hdr hq
    refine v_iload 3 dX9_path_12 rfl ?_
    refine v_iconst (v := nI 2) dX9_path_14 (by decide) ?_
    refine v_iload_n 1 dX9_path_15 rfl rfl ?_
    refine v_imul dX9_path_16 ?_
    refine v_topi (y := nI (2 * n0)) (pk_mul 2 n0) ?_
    refine v_icmp_ge (tgt := 94) dX9_path_17 (by decide) (fun b17 => ?_) (fun b17 => ?_)
    · have b17 : 2 * n0 ≤ a := (nI_leI (by omega) (by omega)).mp b17
      exact v_vret hE dX9_path_94 (gK, p, dr) (hq _ (Rg_here hp hdr (by rw [show 2 * n0 - a = 0 by omega]; rfl) (fun x hx => hF x (by omega)))) rfl rfl
    · have b17 : ¬ (2 * n0 ≤ a) := fun q => b17 ((nI_leI (by omega) (by omega)).mpr q)
      refine v_aload_n 0 dX9_path_20 rfl rfl ?_
      refine v_get f_SampleDeskModel_77 0 rfl rfl dX9_path_21 ?_
      refine v_if_ne (tgt := 94) dX9_path_24 (by decide) (fun b24 => ?_) (fun b24 => ?_)
      · have b24 : ¬ (dr = false) := fun q => b24 ((dI_0 dr).mpr q)
        exact v_vret hE dX9_path_94 (gK, p, dr) (hq _ (Rg_over (by simpa using b24) (hdr (by simpa using b24)))) rfl rfl
      · have b24 : dr = false := (dI_0 dr).mp b24
        refine v_iconst (v := nI 2) dX9_path_27 (by decide) ?_
        refine v_iload_n 1 dX9_path_28 rfl rfl ?_
        refine v_imul dX9_path_29 ?_
        refine v_topi (y := nI (2 * n0)) (pk_mul 2 n0) ?_
        refine v_iload 3 dX9_path_30 rfl ?_
        refine v_isub dX9_path_32 ?_
        refine v_topi (y := nI (2 * n0 - a)) (pk_sub (by omega)) ?_
        refine v_i2l (v := lN (2 * n0 - a)) dX9_path_33 (nI_l (by omega)) ?_
        refine v_lstore (lv' := [(5, .long (lN (2 * n0 - a))), (0, .ref m), (1, .int (nI n0)), (2, .long (lN h)), (4, .int (nI a))]) dX9_path_34 (by decide) rfl ?_
        have hpb := pat_b (h := h) (r := 2 * n0 - a) (by omega) hhr (by omega)
        refine v_aload_n 1 dX9_path_36 rfl rfl ?_
        refine v_get f_SampleDeskModel_38 0 rfl rfl dX9_path_37 ?_
        refine v_iload 4 dX9_path_40 rfl ?_
        refine v_aload_n 1 dX9_path_42 rfl rfl ?_
        refine v_lload_n 3 dX9_path_43 rfl rfl ?_
        refine v_ldc2 (v := lN 2) k_c_SampleDeskModel_96 dX9_path_44 ?_
        refine v_ladd dX9_path_47 ?_
        refine v_topl (y := lN (h + 2)) (lN_add _ _) ?_
        refine v_lload 0 dX9_path_48 rfl ?_
        refine v_lload_n 3 dX9_path_50 rfl rfl ?_
        refine v_lsub dX9_path_51 ?_
        refine v_topl (y := lN (2 * n0 - a - h)) (lN_sub (by omega)) ?_
        refine v_lmul dX9_path_52 ?_
        refine v_topl (y := lN ((h + 2) * (2 * n0 - a - h))) (lN_mul _ _) ?_
        refine v_ldc2 (v := lN 2) k_c_SampleDeskModel_96 dX9_path_53 ?_
        refine v_lload_n 3 dX9_path_56 rfl rfl ?_
        refine v_lconst (v := lN 1) dX9_path_57 (by decide) ?_
        refine v_ladd dX9_path_58 ?_
        refine v_topl (y := lN (h + 1)) (lN_add _ _) ?_
        refine v_lmul dX9_path_59 ?_
        refine v_topl (y := lN (2 * (h + 1))) (lN_mul _ _) ?_
        refine v_lload 0 dX9_path_60 rfl ?_
        refine v_lmul dX9_path_62 ?_
        refine v_topl (y := lN (2 * (h + 1) * (2 * n0 - a))) (lN_mul _ _) ?_
        refine v_callV (as := [.long (lN ((h + 2) * (2 * n0 - a - h))), .long (lN (2 * (h + 1) * (2 * n0 - a)))]) (rest := [.int (nI a), .ref mk]) (ws' := fun u => [(m, .inr (9, [.int th, .int (nI fd), .int pc0, .int dw0, .int lt0, .ref mt, .ref mw, .ref mb, .ref ml, .ref mq, .ref mz, .ref ms, .ref mr, .int ic0, .ref mi, .int (dI tr), .int (nI sg), .int (nI ln), .int (nI u.2.1), .int (nI (u.2.1 - fr)), .int (dI u.2.2), .int (nI (2 * n0)), .ref mk, .int en0, .ref mj, .ref mn])), (mt, .inl (cI, 16384, .inl tp)), (mk, .inl (cI, 256, .inl gK))]) m_SampleDeskModel_109 (kX9_coin X.l (m := m) (mt := mt) (mw := mw) (mb := mb) (ml := ml) (mq := mq) (mz := mz) (ms := ms) (mr := mr) (mi := mi) (mk := mk) (mj := mj) (mn := mn) (th := th) (pc0 := pc0) (dw0 := dw0) (lt0 := lt0) (ic0 := ic0) (en0 := en0) (fd := fd) (sg := sg) (ln := ln) (fr := fr) (e := e) (tr := tr) (tp := tp) (b := b) (ma0 := nI (2 * n0)) (p := p) (dr := dr) (num := ((h + 2) * (2 * n0 - a - h))) (den := (2 * (h + 1) * (2 * n0 - a))) hB (by omega) (by omega) hdr (by omega) hpb.1) k_code_X9_coin [0, 1] 0 rfl rfl rfl rfl dX9_path_63 (Nat.le_of_ble_eq_true rfl) ⟨rfl, rfl, by decide, by decide⟩ ⟨Nat.zero_le _, Nat.zero_le _⟩ rfl rfl (fun _ => rfl) (v_mgU rfl (fun _ => rfl)) ?_
        intro u63 c63
        obtain ⟨r1, p1, d1⟩ := u63
        try dsimp only at c63
        show V (gG D cI cJ cT) X (rmD 2) cX9_path 7 RX9 [(m, .inr (9, [.int th, .int (nI fd), .int pc0, .int dw0, .int lt0, .ref mt, .ref mw, .ref mb, .ref ml, .ref mq, .ref mz, .ref ms, .ref mr, .int ic0, .ref mi, .int (dI tr), .int (nI sg), .int (nI ln), .int (nI p1), .int (nI (p1 - fr)), .int (dI d1), .int (nI (2 * n0)), .ref mk, .int en0, .ref mj, .ref mn])), (mt, .inl (cI, 16384, .inl tp)), (mk, .inl (cI, 256, .inl gK))] 0 0 [(5, .long (lN (2 * n0 - a))), (0, .ref m), (1, .int (nI n0)), (2, .long (lN h)), (4, .int (nI a))] 66 [.int (nI r1), .int (nI a), .ref mk]
        have hr1 : r1 ≤ 1 := c63.2
        have hp1 := Rl_p c63.1
        have hsu := subM c63.1 b24
        refine v_iast (ws' := [(m, .inr (9, [.int th, .int (nI fd), .int pc0, .int dw0, .int lt0, .ref mt, .ref mw, .ref mb, .ref ml, .ref mq, .ref mz, .ref ms, .ref mr, .int ic0, .ref mi, .int (dI tr), .int (nI sg), .int (nI ln), .int (nI p1), .int (nI (p1 - fr)), .int (dI d1), .int (nI (2 * n0)), .ref mk, .int en0, .ref mj, .ref mn])), (mt, .inl (cI, 16384, .inl tp)), (mk, .inl (cI, 256, .inl (upd gK a (nI r1))))]) 0 2 rfl rfl (by omega) (by omega) dX9_path_66 rfl ?_
        refine v_lload_n 3 dX9_path_67 rfl rfl ?_
        refine v_aload_n 1 dX9_path_68 rfl rfl ?_
        refine v_get f_SampleDeskModel_38 0 rfl rfl dX9_path_69 ?_
        refine v_iload 4 dX9_path_72 rfl ?_
        refine v_iald 0 2 rfl rfl (by omega) (by omega) dX9_path_74 ?_
        refine v_topi (y := nI r1) (pk_us) ?_
        refine v_iconst (v := nI 1) dX9_path_75 (by decide) ?_
        refine v_icmp_ne (tgt := 83) dX9_path_76 (by decide) (fun b76 => ?_) (fun b76 => ?_)
        · have b76 : ¬ (r1 = 1) := fun q => b76 ((nI_eq (by omega) (by decide)).mpr q)
          have hh0 : 0 < h := by rcases Nat.eq_zero_or_pos h with q | q; exact absurd (hsu.2 (Nat.le_of_eq (hpb.2.2.2.2.1 q).symm) (by rw [hpb.2.2.2.2.1 q]; exact hpb.2.2.2.1)) b76; exact q
          refine v_ldc2 (v := (-1)) k_c_SampleDeskModel_126 dX9_path_83 ?_
          refine v_ladd dX9_path_86 ?_
          refine v_topl (y := lN (h - 1)) (lN_m1 hh0) ?_
          refine v_lstore_n (lv' := [(2, .long (lN (h - 1))), (5, .long (lN (2 * n0 - a))), (0, .ref m), (1, .int (nI n0)), (4, .int (nI a))]) dX9_path_87 rfl (by decide) rfl ?_
          refine v_iinc (lv' := [(4, .int (nI (a + 1))), (2, .long (lN (h - 1))), (5, .long (lN (2 * n0 - a))), (0, .ref m), (1, .int (nI n0))]) (v := nI (a + 1)) 4 dX9_path_88 rfl (nI_1 a) (by decide) rfl ?_
          refine v_goto (tgt := 12) dX9_path_91 (by decide) ?_
          refine v_lv [3, 4, 1, 0] rfl ?_
          exact ih (a + 1) (h - 1) _ (fU F a r1) p1 d1 (by omega) (by omega) (by omega) (by omega) (upd_ok hF rfl) (by omega) hp1.2.1 hp1.2.2 (fun u hu => hq u (sPat_go (by omega) c63.1 (by rw [if_neg b76]; exact hu)))
        · have b76 : r1 = 1 := (nI_eq (by omega) (by decide)).mp b76
          have hh2 : h + 2 ≤ 2 * n0 - a := by rcases Nat.lt_or_ge h (2 * n0 - a) with q | q; omega; exact absurd (hsu.1 (hpb.2.2.2.2.2 (by omega))) (by omega)
          refine v_lconst (v := lN 1) dX9_path_79 (by decide) ?_
          refine v_goto (tgt := 86) dX9_path_80 (by decide) ?_
          refine v_ladd dX9_path_86 ?_
          refine v_topl (y := lN (h + 1)) (lN_add _ _) ?_
          refine v_lstore_n (lv' := [(2, .long (lN (h + 1))), (5, .long (lN (2 * n0 - a))), (0, .ref m), (1, .int (nI n0)), (4, .int (nI a))]) dX9_path_87 rfl (by decide) rfl ?_
          refine v_iinc (lv' := [(4, .int (nI (a + 1))), (2, .long (lN (h + 1))), (5, .long (lN (2 * n0 - a))), (0, .ref m), (1, .int (nI n0))]) (v := nI (a + 1)) 4 dX9_path_88 rfl (nI_1 a) (by decide) rfl ?_
          refine v_goto (tgt := 12) dX9_path_91 (by decide) ?_
          refine v_lv [3, 4, 1, 0] rfl ?_
          exact ih (a + 1) (h + 1) _ (fU F a r1) p1 d1 (by omega) (by omega) (by omega) (by omega) (upd_ok hF rfl) (by omega) hp1.2.1 hp1.2.2 (fun u hu => hq u (sPat_go (by omega) c63.1 (by rw [if_pos b76]; exact hu)))
set_option maxRecDepth 100000 in
set_option maxHeartbeats 1000000 in
theorem kX9_path {D : va_G} {cI cJ cT : ClassId} (l : Launch) {m mt mw mb ml mq mz ms mr mi mk mj mn : Nat} {th pc0 dw0 lt0 ic0 ma0 en0 : Int32} {fd sg ln fr e : Nat} {tr : Bool} {tp : Nat → Int32} {b : Nat → Nat} {p : Nat} {dr : Bool} {n0 : Nat} {gK : Nat → Int32} (hB : MB tr fd ln sg tp b e) (hfr : fr ≤ p) (hp : p ≤ e) (hdr : dr = true → p = e) (hn0 : n0 ≤ 128) : Fn (S := (Nat → Int32) × Nat × Bool) (gG D cI cJ cT) l yX9_path (.code yX9_path cX9_path 7 none) (rmD 2) [.ref m, .int (nI n0)] [(m, .inr (9, [.int th, .int (nI fd), .int pc0, .int dw0, .int lt0, .ref mt, .ref mw, .ref mb, .ref ml, .ref mq, .ref mz, .ref ms, .ref mr, .int ic0, .ref mi, .int (dI tr), .int (nI sg), .int (nI ln), .int (nI p), .int (nI (p - fr)), .int (dI dr), .int ma0, .ref mk, .int en0, .ref mj, .ref mn])), (mt, .inl (cI, 16384, .inl tp)), (mk, .inl (cI, 256, .inl gK))] (fun u => Rg (sPat b e n0 p) e p dr (fun F => ∀ x, x < 2 * n0 → u.1 x = nI (F x)) u.2.1 u.2.2) (fun u => none) (fun u => [(m, .inr (9, [.int th, .int (nI fd), .int pc0, .int dw0, .int lt0, .ref mt, .ref mw, .ref mb, .ref ml, .ref mq, .ref mz, .ref ms, .ref mr, .int ic0, .ref mi, .int (dI tr), .int (nI sg), .int (nI ln), .int (nI u.2.1), .int (nI (u.2.1 - fr)), .int (dI u.2.2), .int (nI (2 * n0)), .ref mk, .int en0, .ref mj, .ref mn])), (mt, .inl (cI, 16384, .inl tp)), (mk, .inl (cI, 256, .inl u.1))]) := by
  refine Fn.intro (by decide) (Nat.le_of_ble_eq_true rfl) ?_
  intro X hX hE hin
  subst hX
  show V (gG D cI cJ cT) X _ cX9_path 7 RX9 _ 0 0 [(0, .ref m), (1, .int (nI n0))] 0 []
  refine v_aload_n 0 dX9_path_0 rfl rfl ?_
  refine v_iconst (v := nI 2) dX9_path_1 (by decide) ?_
  refine v_iload_n 1 dX9_path_2 rfl rfl ?_
  refine v_imul dX9_path_3 ?_
  refine v_topi (y := nI (2 * n0)) (pk_mul 2 n0) ?_
  refine v_put (ws' := [(m, .inr (9, [.int th, .int (nI fd), .int pc0, .int dw0, .int lt0, .ref mt, .ref mw, .ref mb, .ref ml, .ref mq, .ref mz, .ref ms, .ref mr, .int ic0, .ref mi, .int (dI tr), .int (nI sg), .int (nI ln), .int (nI p), .int (nI (p - fr)), .int (dI dr), .int (nI (2 * n0)), .ref mk, .int en0, .ref mj, .ref mn])), (mt, .inl (cI, 16384, .inl tp)), (mk, .inl (cI, 256, .inl gK))]) fw_SampleDeskModel_123 0 rfl (rfl) (rfl) (Nat.le_of_ble_eq_true rfl) dX9_path_4 rfl ?_
  refine v_lconst (v := lN 0) dX9_path_7 (by decide) ?_
  refine v_lstore_n (lv' := [(2, .long (lN 0)), (0, .ref m), (1, .int (nI n0))]) dX9_path_8 rfl (by decide) rfl ?_
  refine v_iconst (v := nI 0) dX9_path_9 (by decide) ?_
  refine v_istore (lv' := [(4, .int (nI 0)), (2, .long (lN 0)), (0, .ref m), (1, .int (nI n0))]) dX9_path_10 (by decide) rfl ?_
  refine v_lv [2, 3, 1, 0] rfl ?_
  exact kX9_path_loop (ma0 := ma0) hB hn0 hE (2 * n0 + 1) 0 0 gK (fun _ => 0) p dr (by omega) (by omega) (by omega) (by omega) (fun x hx => absurd hx (Nat.not_lt_zero x)) hfr hp hdr (fun u hu => hu)
