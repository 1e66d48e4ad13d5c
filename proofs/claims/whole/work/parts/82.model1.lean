set_option maxRecDepth 100000 in
set_option maxHeartbeats 4000000 in
theorem kX9_nextBit {D : va_G} {cI cJ cT : ClassId} (l : Launch) {m mt mw mb ml mq mz ms mr mi mk mj mn : Nat} {th pc0 dw0 lt0 ic0 ma0 en0 : Int32} {fd sg ln fr e : Nat} {tr : Bool} {tp : Nat → Int32} {b : Nat → Nat} {p : Nat} {dr : Bool}  (hB : MB tr fd ln sg tp b e) (hfr : fr ≤ p) (hp : p ≤ e) (hdr : dr = true → p = e)  : Fn (S := Nat × Nat × Bool) (gG D cI cJ cT) l yX9_nextBit (.code yX9_nextBit cX9_nextBit 2 (some .int)) (rmD 0) [.ref m] [(m, .inr (9, [.int th, .int (nI fd), .int pc0, .int dw0, .int lt0, .ref mt, .ref mw, .ref mb, .ref ml, .ref mq, .ref mz, .ref ms, .ref mr, .int ic0, .ref mi, .int (dI tr), .int (nI sg), .int (nI ln), .int (nI p), .int (nI (p - fr)), .int (dI dr), .int ma0, .ref mk, .int en0, .ref mj, .ref mn])), (mt, .inl (cI, 16384, .inl tp))] (Rbit b e p dr) (fun u => some (.int (nI u.1))) (fun u => [(m, .inr (9, [.int th, .int (nI fd), .int pc0, .int dw0, .int lt0, .ref mt, .ref mw, .ref mb, .ref ml, .ref mq, .ref mz, .ref ms, .ref mr, .int ic0, .ref mi, .int (dI tr), .int (nI sg), .int (nI ln), .int (nI u.2.1), .int (nI (u.2.1 - fr)), .int (dI u.2.2), .int ma0, .ref mk, .int en0, .ref mj, .ref mn])), (mt, .inl (cI, 16384, .inl tp))]) := by
  refine Fn.intro (by decide) (Nat.le_of_ble_eq_true rfl) ?_
  intro X hX hE hin
  subst hX
  show V (gG D cI cJ cT) X _ cX9_nextBit 2 RX9 _ 0 0 [(0, .ref m)] 0 []
  rcases dr with _ | _
  · show V (gG D cI cJ cT) X (rmD 0) cX9_nextBit 2 RX9 [(m, .inr (9, [.int th, .int (nI fd), .int pc0, .int dw0, .int lt0, .ref mt, .ref mw, .ref mb, .ref ml, .ref mq, .ref mz, .ref ms, .ref mr, .int ic0, .ref mi, .int (dI tr), .int (nI sg), .int (nI ln), .int (nI p), .int (nI (p - fr)), .int (dI false), .int ma0, .ref mk, .int en0, .ref mj, .ref mn])), (mt, .inl (cI, 16384, .inl tp))] 0 0 [(0, .ref m)] 0 []
    refine v_aload_n 0 dX9_nextBit_0 rfl rfl ?_
    refine v_get f_SampleDeskModel_77 0 rfl rfl dX9_nextBit_1 ?_
    refine v_if_ne (tgt := 32) dX9_nextBit_4 (by decide) (fun b4 => absurd b4 (fun q => q rfl)) (fun b4 => ?_)
    rcases tr with _ | _
    · show V (gG D cI cJ cT) X (rmD 0) cX9_nextBit 2 RX9 [(m, .inr (9, [.int th, .int (nI fd), .int pc0, .int dw0, .int lt0, .ref mt, .ref mw, .ref mb, .ref ml, .ref mq, .ref mz, .ref ms, .ref mr, .int ic0, .ref mi, .int (dI false), .int (nI sg), .int (nI ln), .int (nI p), .int (nI (p - fr)), .int (dI false), .int ma0, .ref mk, .int en0, .ref mj, .ref mn])), (mt, .inl (cI, 16384, .inl tp))] 0 0 [(0, .ref m)] 7 []
      obtain ⟨he, htp⟩ := hB.2.2.1 rfl
      have he16 := hB.1
      refine v_aload_n 0 dX9_nextBit_7 rfl rfl ?_
      refine v_get f_SampleDeskModel_81 0 rfl rfl dX9_nextBit_8 ?_
      refine v_aload_n 0 dX9_nextBit_11 rfl rfl ?_
      refine v_get f_SampleDeskModel_84 0 rfl rfl dX9_nextBit_12 ?_
      refine v_if_eq (tgt := 25) dX9_nextBit_15 (by decide) (fun b15 => ?_) (fun b15 => absurd (rfl) b15)
      refine v_aload_n 0 dX9_nextBit_25 rfl rfl ?_
      refine v_get f_SampleDeskModel_51 0 rfl rfl dX9_nextBit_26 ?_
      refine v_icmp_ne (tgt := 39) dX9_nextBit_29 (by decide) (fun b29 => ?_) (fun b29 => ?_)
      · have b29 : ¬ (p = e) := fun q => b29 (((show nI p = nI fd ↔ p = e from (nI_eq (by omega) (by omega)).trans (by omega))).mpr q)
        have hlt : p < e := by omega
        refine v_aload_n 0 dX9_nextBit_39 rfl rfl ?_
        refine v_get f_SampleDeskModel_84 0 rfl rfl dX9_nextBit_40 ?_
        refine v_if_eq (tgt := 67) dX9_nextBit_43 (by decide) (fun b43 => ?_) (fun b43 => absurd (rfl) b43)
        refine v_aload_n 0 dX9_nextBit_67 rfl rfl ?_
        refine v_get f_SampleDeskModel_7 0 rfl rfl dX9_nextBit_68 ?_
        refine v_aload_n 0 dX9_nextBit_71 rfl rfl ?_
        refine v_get f_SampleDeskModel_81 0 rfl rfl dX9_nextBit_72 ?_
        refine v_iald 0 1 rfl rfl (by omega) (by omega) dX9_nextBit_75 ?_
        refine v_topi (y := nI (b p)) (htp p hlt) ?_
        refine v_istore_n (lv' := [(1, .int (nI (b p))), (0, .ref m)]) dX9_nextBit_76 rfl (by decide) rfl ?_
        refine v_aload_n 1 dX9_nextBit_77 rfl rfl ?_
        refine v_dup dX9_nextBit_78 rfl ?_
        refine v_get f_SampleDeskModel_81 0 rfl rfl dX9_nextBit_79 ?_
        refine v_iconst (v := nI 1) dX9_nextBit_82 (by decide) ?_
        refine v_iadd dX9_nextBit_83 ?_
        refine v_topi (y := nI (p + 1)) (nI_add p 1) ?_
        refine v_put (ws' := [(m, .inr (9, [.int th, .int (nI fd), .int pc0, .int dw0, .int lt0, .ref mt, .ref mw, .ref mb, .ref ml, .ref mq, .ref mz, .ref ms, .ref mr, .int ic0, .ref mi, .int (dI false), .int (nI sg), .int (nI ln), .int (nI (p + 1)), .int (nI (p - fr)), .int (dI false), .int ma0, .ref mk, .int en0, .ref mj, .ref mn])), (mt, .inl (cI, 16384, .inl tp))]) fw_SampleDeskModel_81 0 rfl (rfl) (rfl) (Nat.le_of_ble_eq_true rfl) dX9_nextBit_84 rfl ?_
        refine v_aload_n 1 dX9_nextBit_87 rfl rfl ?_
        refine v_dup dX9_nextBit_88 rfl ?_
        refine v_get f_SampleDeskModel_93 0 rfl rfl dX9_nextBit_89 ?_
        refine v_iconst (v := nI 1) dX9_nextBit_92 (by decide) ?_
        refine v_iadd dX9_nextBit_93 ?_
        refine v_topi (y := nI (p + 1 - fr)) (by rw [nI_add, show p - fr + 1 = p + 1 - fr by omega]) ?_
        refine v_put (ws' := [(m, .inr (9, [.int th, .int (nI fd), .int pc0, .int dw0, .int lt0, .ref mt, .ref mw, .ref mb, .ref ml, .ref mq, .ref mz, .ref ms, .ref mr, .int ic0, .ref mi, .int (dI false), .int (nI sg), .int (nI ln), .int (nI (p + 1)), .int (nI (p + 1 - fr)), .int (dI false), .int ma0, .ref mk, .int en0, .ref mj, .ref mn])), (mt, .inl (cI, 16384, .inl tp))]) fw_SampleDeskModel_93 0 rfl (rfl) (rfl) (Nat.le_of_ble_eq_true rfl) dX9_nextBit_94 rfl ?_
        refine v_iload_n 0 dX9_nextBit_97 rfl rfl ?_
        exact v_iret hE dX9_nextBit_98 (b p, p + 1, false) (Or.inl ⟨hlt, rfl⟩) rfl rfl
      · have b29 : p = e := ((show nI p = nI fd ↔ p = e from (nI_eq (by omega) (by omega)).trans (by omega))).mp b29
        refine v_aload_n 0 dX9_nextBit_32 rfl rfl ?_
        refine v_iconst (v := dI true) dX9_nextBit_33 (by decide) ?_
        refine v_put (ws' := [(m, .inr (9, [.int th, .int (nI fd), .int pc0, .int dw0, .int lt0, .ref mt, .ref mw, .ref mb, .ref ml, .ref mq, .ref mz, .ref ms, .ref mr, .int ic0, .ref mi, .int (dI false), .int (nI sg), .int (nI ln), .int (nI p), .int (nI (p - fr)), .int (dI true), .int ma0, .ref mk, .int en0, .ref mj, .ref mn])), (mt, .inl (cI, 16384, .inl tp))]) fw_SampleDeskModel_77 0 rfl (rfl) (rfl) (Nat.le_of_ble_eq_true rfl) dX9_nextBit_34 rfl ?_
        refine v_iconst (v := nI 0) dX9_nextBit_37 (by decide) ?_
        exact v_iret hE dX9_nextBit_38 (0, p, true) (Or.inr ⟨by omega, rfl⟩) rfl rfl
    · show V (gG D cI cJ cT) X (rmD 0) cX9_nextBit 2 RX9 [(m, .inr (9, [.int th, .int (nI fd), .int pc0, .int dw0, .int lt0, .ref mt, .ref mw, .ref mb, .ref ml, .ref mq, .ref mz, .ref ms, .ref mr, .int ic0, .ref mi, .int (dI true), .int (nI sg), .int (nI ln), .int (nI p), .int (nI (p - fr)), .int (dI false), .int ma0, .ref mk, .int en0, .ref mj, .ref mn])), (mt, .inl (cI, 16384, .inl tp))] 0 0 [(0, .ref m)] 7 []
      obtain ⟨he, hl12, hsg, hbs⟩ := hB.2.2.2 rfl
      have he16 := hB.1
      refine v_aload_n 0 dX9_nextBit_7 rfl rfl ?_
      refine v_get f_SampleDeskModel_81 0 rfl rfl dX9_nextBit_8 ?_
      refine v_aload_n 0 dX9_nextBit_11 rfl rfl ?_
      refine v_get f_SampleDeskModel_84 0 rfl rfl dX9_nextBit_12 ?_
      refine v_if_eq (tgt := 25) dX9_nextBit_15 (by decide) (fun b15 => absurd b15 (by decide)) (fun b15 => ?_)
      refine v_aload_n 0 dX9_nextBit_18 rfl rfl ?_
      refine v_get f_SampleDeskModel_87 0 rfl rfl dX9_nextBit_19 ?_
      refine v_goto (tgt := 29) dX9_nextBit_22 (by decide) ?_
      refine v_icmp_ne (tgt := 39) dX9_nextBit_29 (by decide) (fun b29 => ?_) (fun b29 => ?_)
      · have b29 : ¬ (p = e) := fun q => b29 (((show nI p = nI ln ↔ p = e from (nI_eq (by omega) (by omega)).trans (by omega))).mpr q)
        have hlt : p < e := by omega
        refine v_aload_n 0 dX9_nextBit_39 rfl rfl ?_
        refine v_get f_SampleDeskModel_84 0 rfl rfl dX9_nextBit_40 ?_
        refine v_if_eq (tgt := 67) dX9_nextBit_43 (by decide) (fun b43 => absurd b43 (by decide)) (fun b43 => ?_)
        refine v_aload_n 0 dX9_nextBit_46 rfl rfl ?_
        refine v_get f_SampleDeskModel_90 0 rfl rfl dX9_nextBit_47 ?_
        refine v_aload_n 0 dX9_nextBit_50 rfl rfl ?_
        refine v_get f_SampleDeskModel_87 0 rfl rfl dX9_nextBit_51 ?_
        refine v_iconst (v := nI 1) dX9_nextBit_54 (by decide) ?_
        refine v_isub dX9_nextBit_55 ?_
        refine v_topi (y := nI (ln - 1)) (pk_sub (by omega)) ?_
        refine v_aload_n 0 dX9_nextBit_56 rfl rfl ?_
        refine v_get f_SampleDeskModel_81 0 rfl rfl dX9_nextBit_57 ?_
        refine v_isub dX9_nextBit_60 ?_
        refine v_topi (y := nI (ln - 1 - p)) (pk_sub (by omega)) ?_
        refine v_ishr dX9_nextBit_61 ?_
        refine v_iconst (v := nI 1) dX9_nextBit_62 (by decide) ?_
        refine v_iand dX9_nextBit_63 ?_
        refine v_topi (y := nI (b p)) (by rw [hbs]; exact bS_shr hl12 hsg (by omega)) ?_
        refine v_goto (tgt := 76) dX9_nextBit_64 (by decide) ?_
        refine v_istore_n (lv' := [(1, .int (nI (b p))), (0, .ref m)]) dX9_nextBit_76 rfl (by decide) rfl ?_
        refine v_aload_n 1 dX9_nextBit_77 rfl rfl ?_
        refine v_dup dX9_nextBit_78 rfl ?_
        refine v_get f_SampleDeskModel_81 0 rfl rfl dX9_nextBit_79 ?_
        refine v_iconst (v := nI 1) dX9_nextBit_82 (by decide) ?_
        refine v_iadd dX9_nextBit_83 ?_
        refine v_topi (y := nI (p + 1)) (nI_add p 1) ?_
        refine v_put (ws' := [(m, .inr (9, [.int th, .int (nI fd), .int pc0, .int dw0, .int lt0, .ref mt, .ref mw, .ref mb, .ref ml, .ref mq, .ref mz, .ref ms, .ref mr, .int ic0, .ref mi, .int (dI true), .int (nI sg), .int (nI ln), .int (nI (p + 1)), .int (nI (p - fr)), .int (dI false), .int ma0, .ref mk, .int en0, .ref mj, .ref mn])), (mt, .inl (cI, 16384, .inl tp))]) fw_SampleDeskModel_81 0 rfl (rfl) (rfl) (Nat.le_of_ble_eq_true rfl) dX9_nextBit_84 rfl ?_
        refine v_aload_n 1 dX9_nextBit_87 rfl rfl ?_
        refine v_dup dX9_nextBit_88 rfl ?_
        refine v_get f_SampleDeskModel_93 0 rfl rfl dX9_nextBit_89 ?_
        refine v_iconst (v := nI 1) dX9_nextBit_92 (by decide) ?_
        refine v_iadd dX9_nextBit_93 ?_
        refine v_topi (y := nI (p + 1 - fr)) (by rw [nI_add, show p - fr + 1 = p + 1 - fr by omega]) ?_
        refine v_put (ws' := [(m, .inr (9, [.int th, .int (nI fd), .int pc0, .int dw0, .int lt0, .ref mt, .ref mw, .ref mb, .ref ml, .ref mq, .ref mz, .ref ms, .ref mr, .int ic0, .ref mi, .int (dI true), .int (nI sg), .int (nI ln), .int (nI (p + 1)), .int (nI (p + 1 - fr)), .int (dI false), .int ma0, .ref mk, .int en0, .ref mj, .ref mn])), (mt, .inl (cI, 16384, .inl tp))]) fw_SampleDeskModel_93 0 rfl (rfl) (rfl) (Nat.le_of_ble_eq_true rfl) dX9_nextBit_94 rfl ?_
        refine v_iload_n 0 dX9_nextBit_97 rfl rfl ?_
        exact v_iret hE dX9_nextBit_98 (b p, p + 1, false) (Or.inl ⟨hlt, rfl⟩) rfl rfl
      · have b29 : p = e := ((show nI p = nI ln ↔ p = e from (nI_eq (by omega) (by omega)).trans (by omega))).mp b29
        refine v_aload_n 0 dX9_nextBit_32 rfl rfl ?_
        refine v_iconst (v := dI true) dX9_nextBit_33 (by decide) ?_
        refine v_put (ws' := [(m, .inr (9, [.int th, .int (nI fd), .int pc0, .int dw0, .int lt0, .ref mt, .ref mw, .ref mb, .ref ml, .ref mq, .ref mz, .ref ms, .ref mr, .int ic0, .ref mi, .int (dI true), .int (nI sg), .int (nI ln), .int (nI p), .int (nI (p - fr)), .int (dI true), .int ma0, .ref mk, .int en0, .ref mj, .ref mn])), (mt, .inl (cI, 16384, .inl tp))]) fw_SampleDeskModel_77 0 rfl (rfl) (rfl) (Nat.le_of_ble_eq_true rfl) dX9_nextBit_34 rfl ?_
        refine v_iconst (v := nI 0) dX9_nextBit_37 (by decide) ?_
        exact v_iret hE dX9_nextBit_38 (0, p, true) (Or.inr ⟨by omega, rfl⟩) rfl rfl
  · show V (gG D cI cJ cT) X (rmD 0) cX9_nextBit 2 RX9 [(m, .inr (9, [.int th, .int (nI fd), .int pc0, .int dw0, .int lt0, .ref mt, .ref mw, .ref mb, .ref ml, .ref mq, .ref mz, .ref ms, .ref mr, .int ic0, .ref mi, .int (dI tr), .int (nI sg), .int (nI ln), .int (nI p), .int (nI (p - fr)), .int (dI true), .int ma0, .ref mk, .int en0, .ref mj, .ref mn])), (mt, .inl (cI, 16384, .inl tp))] 0 0 [(0, .ref m)] 0 []
    refine v_aload_n 0 dX9_nextBit_0 rfl rfl ?_
    refine v_get f_SampleDeskModel_77 0 rfl rfl dX9_nextBit_1 ?_
    refine v_if_ne (tgt := 32) dX9_nextBit_4 (by decide) (fun b4 => ?_) (fun b4 => absurd b4 (by decide))
    refine v_aload_n 0 dX9_nextBit_32 rfl rfl ?_
    refine v_iconst (v := dI true) dX9_nextBit_33 (by decide) ?_
    refine v_put (ws' := [(m, .inr (9, [.int th, .int (nI fd), .int pc0, .int dw0, .int lt0, .ref mt, .ref mw, .ref mb, .ref ml, .ref mq, .ref mz, .ref ms, .ref mr, .int ic0, .ref mi, .int (dI tr), .int (nI sg), .int (nI ln), .int (nI p), .int (nI (p - fr)), .int (dI true), .int ma0, .ref mk, .int en0, .ref mj, .ref mn])), (mt, .inl (cI, 16384, .inl tp))]) fw_SampleDeskModel_77 0 rfl (rfl) (rfl) (Nat.le_of_ble_eq_true rfl) dX9_nextBit_34 rfl ?_
    refine v_iconst (v := nI 0) dX9_nextBit_37 (by decide) ?_
    exact v_iret hE dX9_nextBit_38 (0, p, true) (Or.inr ⟨by have := hdr rfl; omega, rfl⟩) rfl rfl
set_option maxRecDepth 100000 in
set_option maxHeartbeats 4000000 in
theorem kX9_coin_loop {D : va_G} {cI cJ cT : ClassId} {X : vX} {m mt mw mb ml mq mz ms mr mi mk mj mn : Nat} {th pc0 dw0 lt0 ic0 ma0 en0 : Int32} {fd sg ln fr e : Nat} {tr : Bool} {tp : Nat → Int32} {b : Nat → Nat} {num den : Nat} (hB : MB tr fd ln sg tp b e) (hden : den < 2 ^ 62) {W0 : va_W} {post : Nat × Nat × Bool → Prop} (hE : vE (gG D cI cJ cT) X (some .int) W0 post (fun u => some (.int (nI u.1))) (fun u => [(m, .inr (9, [.int th, .int (nI fd), .int pc0, .int dw0, .int lt0, .ref mt, .ref mw, .ref mb, .ref ml, .ref mq, .ref mz, .ref ms, .ref mr, .int ic0, .ref mi, .int (dI tr), .int (nI sg), .int (nI ln), .int (nI u.2.1), .int (nI (u.2.1 - fr)), .int (dI u.2.2), .int ma0, .ref mk, .int en0, .ref mj, .ref mn])), (mt, .inl (cI, 16384, .inl tp))])) :
    ∀ (j : Nat) (k : Nat) (r : Nat) (p : Nat) (dr : Bool), 0 < r → r < den → (dr = false → e - p < k) → fr ≤ p → p ≤ e → (dr = true → p = e) → (if dr = true then 0 else e - p + 1) < j → (∀ u, Rl (sCoinL b e den k r p) e p dr u ∧ u.1 ≤ 1 → post u) → V (gG D cI cJ cT) X (rmD 1) cX9_coin 9 RX9 [(m, .inr (9, [.int th, .int (nI fd), .int pc0, .int dw0, .int lt0, .ref mt, .ref mw, .ref mb, .ref ml, .ref mq, .ref mz, .ref ms, .ref mr, .int ic0, .ref mi, .int (dI tr), .int (nI sg), .int (nI ln), .int (nI p), .int (nI (p - fr)), .int (dI dr), .int ma0, .ref mk, .int en0, .ref mj, .ref mn])), (mt, .inl (cI, 16384, .inl tp))] 0 0 [(0, .ref m), (1, .long (lN num)), (3, .long (lN den)), (5, .long (lN r))] 19 [] := by
  intro j
  induction j with
  | zero => intro k r p dr h0 hr hk hfr hp hdr hj hq; (try split at hj) <;> omega
  | succ j ih =>
    intro k r p dr h0 hr hk hfr hp hdr hj hq
    rcases dr with _ | _
    · show V (gG D cI cJ cT) X (rmD 1) cX9_coin 9 RX9 [(m, .inr (9, [.int th, .int (nI fd), .int pc0, .int dw0, .int lt0, .ref mt, .ref mw, .ref mb, .ref ml, .ref mq, .ref mz, .ref ms, .ref mr, .int ic0, .ref mi, .int (dI tr), .int (nI sg), .int (nI ln), .int (nI p), .int (nI (p - fr)), .int (dI false), .int ma0, .ref mk, .int en0, .ref mj, .ref mn])), (mt, .inl (cI, 16384, .inl tp))] 0 0 [(0, .ref m), (1, .long (lN num)), (3, .long (lN den)), (5, .long (lN r))] 19 []
      have hkk := hk rfl
      obtain ⟨k, rfl⟩ : ∃ q, k = q + 1 := ⟨k - 1, by omega⟩
      refine v_aload_n 0 dX9_coin_19 rfl rfl ?_
      refine v_get f_SampleDeskModel_77 0 rfl rfl dX9_coin_20 ?_
      refine v_if_ne (tgt := 98) dX9_coin_23 (by decide) (fun b23 => absurd b23 (fun q => q rfl)) (fun b23 => ?_)
      refine v_ldc2 (v := 2) k_c_SampleDeskModel_96 dX9_coin_26 ?_
      refine v_lload 3 dX9_coin_29 rfl ?_
      refine v_lmul dX9_coin_31 ?_
      refine v_topl (y := lN (2 * r)) (by rw [show (2 : Int64) = lN 2 by decide]; exact lN_mul 2 r) ?_
      refine v_lstore (lv' := [(5, .long (lN (2 * r))), (0, .ref m), (1, .long (lN num)), (3, .long (lN den))]) dX9_coin_32 (by decide) rfl ?_
      refine v_lload 0 dX9_coin_34 rfl ?_
      refine v_lload_n 3 dX9_coin_36 rfl rfl ?_
      refine v_lcmp dX9_coin_37 ?_
      refine v_if_lt (tgt := 45) dX9_coin_38 (by decide) (fun b38 => ?_) (fun b38 => ?_)
      · have b38 : 2 * r < den := (z_lt (by omega) (by omega)).mp b38
        refine v_iconst (v := nI 0) dX9_coin_45 (by decide) ?_
        refine v_istore (lv' := [(7, .int (nI 0)), (5, .long (lN (2 * r))), (0, .ref m), (1, .long (lN num)), (3, .long (lN den))]) dX9_coin_46 (by decide) rfl ?_
        refine v_iload 0 dX9_coin_48 rfl ?_
        refine v_iconst (v := nI 1) dX9_coin_50 (by decide) ?_
        refine v_icmp_ne (tgt := 60) dX9_coin_51 (by decide) (fun b51 => ?_) (fun b51 => absurd b51 (by decide))
        refine v_aload_n 2 dX9_coin_60 rfl rfl ?_
        refine v_callV (as := []) (rest := []) (ws' := fun u => [(m, .inr (9, [.int th, .int (nI fd), .int pc0, .int dw0, .int lt0, .ref mt, .ref mw, .ref mb, .ref ml, .ref mq, .ref mz, .ref ms, .ref mr, .int ic0, .ref mi, .int (dI tr), .int (nI sg), .int (nI ln), .int (nI u.2.1), .int (nI (u.2.1 - fr)), .int (dI u.2.2), .int ma0, .ref mk, .int en0, .ref mj, .ref mn])), (mt, .inl (cI, 16384, .inl tp))]) m_SampleDeskModel_98 (kX9_nextBit X.l (m := m) (mt := mt) (mw := mw) (mb := mb) (ml := ml) (mq := mq) (mz := mz) (ms := ms) (mr := mr) (mi := mi) (mk := mk) (mj := mj) (mn := mn) (th := th) (pc0 := pc0) (dw0 := dw0) (lt0 := lt0) (ic0 := ic0) (en0 := en0) (fd := fd) (sg := sg) (ln := ln) (fr := fr) (e := e) (tr := tr) (tp := tp) (b := b) (ma0 := ma0) (p := p) (dr := false)  hB (by omega) (by omega) (fun h => nomatch h) ) k_code_X9_nextBit [0, 1] 0 rfl rfl rfl rfl dX9_coin_61 (Nat.le_of_ble_eq_true rfl) ⟨rfl, rfl, by decide, by decide⟩ ⟨Nat.zero_le _, Nat.zero_le _⟩ rfl rfl (fun _ => rfl) (v_mgU rfl (fun _ => rfl)) ?_
        intro u61 c61
        obtain ⟨r1, p1, d1⟩ := u61
        try dsimp only at c61
        show V (gG D cI cJ cT) X (rmD 1) cX9_coin 9 RX9 [(m, .inr (9, [.int th, .int (nI fd), .int pc0, .int dw0, .int lt0, .ref mt, .ref mw, .ref mb, .ref ml, .ref mq, .ref mz, .ref ms, .ref mr, .int ic0, .ref mi, .int (dI tr), .int (nI sg), .int (nI ln), .int (nI p1), .int (nI (p1 - fr)), .int (dI d1), .int ma0, .ref mk, .int en0, .ref mj, .ref mn])), (mt, .inl (cI, 16384, .inl tp))] 0 0 [(7, .int (nI 0)), (5, .long (lN (2 * r))), (0, .ref m), (1, .long (lN num)), (3, .long (lN den))] 64 [.int (nI r1)]
        have hr1 : r1 < 2 := Rbit_lt hB.2.1 c61
        rcases d1 with _ | _
        · show V (gG D cI cJ cT) X (rmD 1) cX9_coin 9 RX9 [(m, .inr (9, [.int th, .int (nI fd), .int pc0, .int dw0, .int lt0, .ref mt, .ref mw, .ref mb, .ref ml, .ref mq, .ref mz, .ref ms, .ref mr, .int ic0, .ref mi, .int (dI tr), .int (nI sg), .int (nI ln), .int (nI p1), .int (nI (p1 - fr)), .int (dI false), .int ma0, .ref mk, .int en0, .ref mj, .ref mn])), (mt, .inl (cI, 16384, .inl tp))] 0 0 [(7, .int (nI 0)), (5, .long (lN (2 * r))), (0, .ref m), (1, .long (lN num)), (3, .long (lN den))] 64 [.int (nI r1)]
          have hb1 : p < e ∧ r1 = b p ∧ p1 = p + 1 ∧ false = false := Rbit_f c61
          have hr1 : r1 < 2 := Rbit_lt hB.2.1 c61
          refine v_istore (lv' := [(8, .int (nI r1)), (7, .int (nI 0)), (5, .long (lN (2 * r))), (0, .ref m), (1, .long (lN num)), (3, .long (lN den))]) dX9_coin_64 (by decide) rfl ?_
          refine v_iload 0 dX9_coin_66 rfl ?_
          refine v_iload 1 dX9_coin_68 rfl ?_
          refine v_icmp_eq (tgt := 86) dX9_coin_70 (by decide) (fun b70 => ?_) (fun b70 => ?_)
          · have b70 : r1 = 0 := (nI_eq (by omega) (by decide)).mp b70
            refine v_lload 2 dX9_coin_86 rfl ?_
            refine v_lconst (v := lN 0) dX9_coin_88 (by decide) ?_
            refine v_lcmp dX9_coin_89 ?_
            refine v_if_ne (tgt := 95) dX9_coin_90 (by decide) (fun b90 => ?_) (fun b90 => ?_)
            · have b90 : ¬ (2 * r = 0) := fun q => b90 ((z_eq (by omega) (by decide)).mpr q)
              refine v_goto (tgt := 19) dX9_coin_95 (by decide) ?_
              refine v_lv [3, 4, 5, 2] rfl ?_
              exact ih k (2 * r) p1 false (by omega) (by omega) (fun h => by omega) (by omega) (by omega) (fun h => nomatch h) (by rw [if_neg (by decide)] at hj ⊢; omega) (fun u hu => hq u ⟨sCoin_go0 hb1 b38 b70 b90 rfl hu.1, hu.2⟩)
            · have b90 : 2 * r = 0 := (z_eq (by omega) (by decide)).mp b90
              refine v_iconst (v := nI 0) dX9_coin_93 (by decide) ?_
              exact v_iret hE dX9_coin_94 (0, p1, false) (hq _ ⟨sCoin_end0 hb1 b38 b70 b90 rfl, Nat.le_of_ble_eq_true rfl⟩) rfl rfl
          · have b70 : ¬ (r1 = 0) := fun q => b70 ((nI_eq (by omega) (by decide)).mpr q)
            refine v_iload 0 dX9_coin_73 rfl ?_
            refine v_iload 1 dX9_coin_75 rfl ?_
            refine v_icmp_ge (tgt := 84) dX9_coin_77 (by decide) (fun b77 => ?_) (fun b77 => ?_)
            · have b77 : 0 ≤ r1 := (nI_leI (by decide) (by omega)).mp b77
              refine v_iconst (v := nI 0) dX9_coin_84 (by decide) ?_
              exact v_iret hE dX9_coin_85 (0, p1, false) (hq _ ⟨sCoin_out0 hb1 b38 b70 rfl, Nat.le_of_ble_eq_true rfl⟩) rfl rfl
            · have b77 : ¬ (0 ≤ r1) := fun q => b77 ((nI_leI (by decide) (by omega)).mpr q)
              refine v_iconst (v := nI 1) dX9_coin_80 (by decide) ?_
              refine v_goto (tgt := 85) dX9_coin_81 (by decide) ?_
              exact v_iret hE dX9_coin_85 (1, p1, false) (hq _ ⟨(show False by omega).elim, Nat.le_of_ble_eq_true rfl⟩) rfl rfl
        · show V (gG D cI cJ cT) X (rmD 1) cX9_coin 9 RX9 [(m, .inr (9, [.int th, .int (nI fd), .int pc0, .int dw0, .int lt0, .ref mt, .ref mw, .ref mb, .ref ml, .ref mq, .ref mz, .ref ms, .ref mr, .int ic0, .ref mi, .int (dI tr), .int (nI sg), .int (nI ln), .int (nI p1), .int (nI (p1 - fr)), .int (dI true), .int ma0, .ref mk, .int en0, .ref mj, .ref mn])), (mt, .inl (cI, 16384, .inl tp))] 0 0 [(7, .int (nI 0)), (5, .long (lN (2 * r))), (0, .ref m), (1, .long (lN num)), (3, .long (lN den))] 64 [.int (nI r1)]
          have hb1 : p = e ∧ p1 = e ∧ true = true := Rbit_t (dr := false) hp (fun h => nomatch h) c61 rfl
          have hr1 : r1 < 2 := Rbit_lt hB.2.1 c61
          refine v_istore (lv' := [(8, .int (nI r1)), (7, .int (nI 0)), (5, .long (lN (2 * r))), (0, .ref m), (1, .long (lN num)), (3, .long (lN den))]) dX9_coin_64 (by decide) rfl ?_
          refine v_iload 0 dX9_coin_66 rfl ?_
          refine v_iload 1 dX9_coin_68 rfl ?_
          refine v_icmp_eq (tgt := 86) dX9_coin_70 (by decide) (fun b70 => ?_) (fun b70 => ?_)
          · have b70 : r1 = 0 := (nI_eq (by omega) (by decide)).mp b70
            refine v_lload 2 dX9_coin_86 rfl ?_
            refine v_lconst (v := lN 0) dX9_coin_88 (by decide) ?_
            refine v_lcmp dX9_coin_89 ?_
            refine v_if_ne (tgt := 95) dX9_coin_90 (by decide) (fun b90 => ?_) (fun b90 => ?_)
            · have b90 : ¬ (2 * r = 0) := fun q => b90 ((z_eq (by omega) (by decide)).mpr q)
              refine v_goto (tgt := 19) dX9_coin_95 (by decide) ?_
              refine v_lv [3, 4, 5, 2] rfl ?_
              exact ih k (2 * r) p1 true (by omega) (by omega) (fun h => by cases h) (by omega) (by omega) (fun _ => hb1.2.1) (by rw [if_pos rfl]; rw [if_neg (by decide)] at hj; omega) (fun u hu => hq u ⟨Rl_end rfl (by omega) (fun _ => sCoin_dry hb1.1) hu.1, hu.2⟩)
            · have b90 : 2 * r = 0 := (z_eq (by omega) (by decide)).mp b90
              refine v_iconst (v := nI 0) dX9_coin_93 (by decide) ?_
              exact v_iret hE dX9_coin_94 (0, p1, true) (hq _ ⟨Rl_dry hb1 (sCoin_dry hb1.1), Nat.le_of_ble_eq_true rfl⟩) rfl rfl
          · have b70 : ¬ (r1 = 0) := fun q => b70 ((nI_eq (by omega) (by decide)).mpr q)
            refine v_iload 0 dX9_coin_73 rfl ?_
            refine v_iload 1 dX9_coin_75 rfl ?_
            refine v_icmp_ge (tgt := 84) dX9_coin_77 (by decide) (fun b77 => ?_) (fun b77 => ?_)
            · have b77 : 0 ≤ r1 := (nI_leI (by decide) (by omega)).mp b77
              refine v_iconst (v := nI 0) dX9_coin_84 (by decide) ?_
              exact v_iret hE dX9_coin_85 (0, p1, true) (hq _ ⟨Rl_dry hb1 (sCoin_dry hb1.1), Nat.le_of_ble_eq_true rfl⟩) rfl rfl
            · have b77 : ¬ (0 ≤ r1) := fun q => b77 ((nI_leI (by decide) (by omega)).mpr q)
              refine v_iconst (v := nI 1) dX9_coin_80 (by decide) ?_
              refine v_goto (tgt := 85) dX9_coin_81 (by decide) ?_
              exact v_iret hE dX9_coin_85 (1, p1, true) (hq _ ⟨Rl_dry hb1 (sCoin_dry hb1.1), Nat.le_of_ble_eq_true rfl⟩) rfl rfl
      · have b38 : ¬ (2 * r < den) := fun q => b38 ((z_lt (by omega) (by omega)).mpr q)
        refine v_iconst (v := nI 1) dX9_coin_41 (by decide) ?_
        refine v_goto (tgt := 46) dX9_coin_42 (by decide) ?_
        refine v_istore (lv' := [(7, .int (nI 1)), (5, .long (lN (2 * r))), (0, .ref m), (1, .long (lN num)), (3, .long (lN den))]) dX9_coin_46 (by decide) rfl ?_
        refine v_iload 0 dX9_coin_48 rfl ?_
        refine v_iconst (v := nI 1) dX9_coin_50 (by decide) ?_
        refine v_icmp_ne (tgt := 60) dX9_coin_51 (by decide) (fun b51 => absurd b51 (fun q => q rfl)) (fun b51 => ?_)
        refine v_lload 1 dX9_coin_54 rfl ?_
        refine v_lload_n 4 dX9_coin_56 rfl rfl ?_
        refine v_lsub dX9_coin_57 ?_
        refine v_topl (y := lN (2 * r - den)) (lN_sub (by omega)) ?_
        refine v_lstore (lv' := [(5, .long (lN (2 * r - den))), (7, .int (nI 1)), (0, .ref m), (1, .long (lN num)), (3, .long (lN den))]) dX9_coin_58 (by decide) rfl ?_
        refine v_aload_n 2 dX9_coin_60 rfl rfl ?_
        refine v_callV (as := []) (rest := []) (ws' := fun u => [(m, .inr (9, [.int th, .int (nI fd), .int pc0, .int dw0, .int lt0, .ref mt, .ref mw, .ref mb, .ref ml, .ref mq, .ref mz, .ref ms, .ref mr, .int ic0, .ref mi, .int (dI tr), .int (nI sg), .int (nI ln), .int (nI u.2.1), .int (nI (u.2.1 - fr)), .int (dI u.2.2), .int ma0, .ref mk, .int en0, .ref mj, .ref mn])), (mt, .inl (cI, 16384, .inl tp))]) m_SampleDeskModel_98 (kX9_nextBit X.l (m := m) (mt := mt) (mw := mw) (mb := mb) (ml := ml) (mq := mq) (mz := mz) (ms := ms) (mr := mr) (mi := mi) (mk := mk) (mj := mj) (mn := mn) (th := th) (pc0 := pc0) (dw0 := dw0) (lt0 := lt0) (ic0 := ic0) (en0 := en0) (fd := fd) (sg := sg) (ln := ln) (fr := fr) (e := e) (tr := tr) (tp := tp) (b := b) (ma0 := ma0) (p := p) (dr := false)  hB (by omega) (by omega) (fun h => nomatch h) ) k_code_X9_nextBit [0, 1] 0 rfl rfl rfl rfl dX9_coin_61 (Nat.le_of_ble_eq_true rfl) ⟨rfl, rfl, by decide, by decide⟩ ⟨Nat.zero_le _, Nat.zero_le _⟩ rfl rfl (fun _ => rfl) (v_mgU rfl (fun _ => rfl)) ?_
        intro u61 c61
        obtain ⟨r1, p1, d1⟩ := u61
        try dsimp only at c61
        show V (gG D cI cJ cT) X (rmD 1) cX9_coin 9 RX9 [(m, .inr (9, [.int th, .int (nI fd), .int pc0, .int dw0, .int lt0, .ref mt, .ref mw, .ref mb, .ref ml, .ref mq, .ref mz, .ref ms, .ref mr, .int ic0, .ref mi, .int (dI tr), .int (nI sg), .int (nI ln), .int (nI p1), .int (nI (p1 - fr)), .int (dI d1), .int ma0, .ref mk, .int en0, .ref mj, .ref mn])), (mt, .inl (cI, 16384, .inl tp))] 0 0 [(5, .long (lN (2 * r - den))), (7, .int (nI 1)), (0, .ref m), (1, .long (lN num)), (3, .long (lN den))] 64 [.int (nI r1)]
        have hr1 : r1 < 2 := Rbit_lt hB.2.1 c61
        rcases d1 with _ | _
        · show V (gG D cI cJ cT) X (rmD 1) cX9_coin 9 RX9 [(m, .inr (9, [.int th, .int (nI fd), .int pc0, .int dw0, .int lt0, .ref mt, .ref mw, .ref mb, .ref ml, .ref mq, .ref mz, .ref ms, .ref mr, .int ic0, .ref mi, .int (dI tr), .int (nI sg), .int (nI ln), .int (nI p1), .int (nI (p1 - fr)), .int (dI false), .int ma0, .ref mk, .int en0, .ref mj, .ref mn])), (mt, .inl (cI, 16384, .inl tp))] 0 0 [(5, .long (lN (2 * r - den))), (7, .int (nI 1)), (0, .ref m), (1, .long (lN num)), (3, .long (lN den))] 64 [.int (nI r1)]
          have hb1 : p < e ∧ r1 = b p ∧ p1 = p + 1 ∧ false = false := Rbit_f c61
          have hr1 : r1 < 2 := Rbit_lt hB.2.1 c61
          refine v_istore (lv' := [(8, .int (nI r1)), (5, .long (lN (2 * r - den))), (7, .int (nI 1)), (0, .ref m), (1, .long (lN num)), (3, .long (lN den))]) dX9_coin_64 (by decide) rfl ?_
          refine v_iload 0 dX9_coin_66 rfl ?_
          refine v_iload 2 dX9_coin_68 rfl ?_
          refine v_icmp_eq (tgt := 86) dX9_coin_70 (by decide) (fun b70 => ?_) (fun b70 => ?_)
          · have b70 : r1 = 1 := (nI_eq (by omega) (by decide)).mp b70
            refine v_lload 1 dX9_coin_86 rfl ?_
            refine v_lconst (v := lN 0) dX9_coin_88 (by decide) ?_
            refine v_lcmp dX9_coin_89 ?_
            refine v_if_ne (tgt := 95) dX9_coin_90 (by decide) (fun b90 => ?_) (fun b90 => ?_)
            · have b90 : ¬ (2 * r - den = 0) := fun q => b90 ((z_eq (by omega) (by decide)).mpr q)
              refine v_goto (tgt := 19) dX9_coin_95 (by decide) ?_
              refine v_lv [3, 4, 5, 1] rfl ?_
              exact ih k (2 * r - den) p1 false (by omega) (by omega) (fun h => by omega) (by omega) (by omega) (fun h => nomatch h) (by rw [if_neg (by decide)] at hj ⊢; omega) (fun u hu => hq u ⟨sCoin_go1 hb1 b38 b70 b90 rfl hu.1, hu.2⟩)
            · have b90 : 2 * r - den = 0 := (z_eq (by omega) (by decide)).mp b90
              refine v_iconst (v := nI 0) dX9_coin_93 (by decide) ?_
              exact v_iret hE dX9_coin_94 (0, p1, false) (hq _ ⟨sCoin_end1 hb1 b38 b70 b90 rfl, Nat.le_of_ble_eq_true rfl⟩) rfl rfl
          · have b70 : ¬ (r1 = 1) := fun q => b70 ((nI_eq (by omega) (by decide)).mpr q)
            refine v_iload 0 dX9_coin_73 rfl ?_
            refine v_iload 2 dX9_coin_75 rfl ?_
            refine v_icmp_ge (tgt := 84) dX9_coin_77 (by decide) (fun b77 => ?_) (fun b77 => ?_)
            · have b77 : 1 ≤ r1 := (nI_leI (by decide) (by omega)).mp b77
              refine v_iconst (v := nI 0) dX9_coin_84 (by decide) ?_
              exact v_iret hE dX9_coin_85 (0, p1, false) (hq _ ⟨(show False by omega).elim, Nat.le_of_ble_eq_true rfl⟩) rfl rfl
            · have b77 : ¬ (1 ≤ r1) := fun q => b77 ((nI_leI (by decide) (by omega)).mpr q)
              refine v_iconst (v := nI 1) dX9_coin_80 (by decide) ?_
              refine v_goto (tgt := 85) dX9_coin_81 (by decide) ?_
              exact v_iret hE dX9_coin_85 (1, p1, false) (hq _ ⟨sCoin_out1 hb1 b38 b70 rfl, Nat.le_of_ble_eq_true rfl⟩) rfl rfl
        · show V (gG D cI cJ cT) X (rmD 1) cX9_coin 9 RX9 [(m, .inr (9, [.int th, .int (nI fd), .int pc0, .int dw0, .int lt0, .ref mt, .ref mw, .ref mb, .ref ml, .ref mq, .ref mz, .ref ms, .ref mr, .int ic0, .ref mi, .int (dI tr), .int (nI sg), .int (nI ln), .int (nI p1), .int (nI (p1 - fr)), .int (dI true), .int ma0, .ref mk, .int en0, .ref mj, .ref mn])), (mt, .inl (cI, 16384, .inl tp))] 0 0 [(5, .long (lN (2 * r - den))), (7, .int (nI 1)), (0, .ref m), (1, .long (lN num)), (3, .long (lN den))] 64 [.int (nI r1)]
          have hb1 : p = e ∧ p1 = e ∧ true = true := Rbit_t (dr := false) hp (fun h => nomatch h) c61 rfl
          have hr1 : r1 < 2 := Rbit_lt hB.2.1 c61
          refine v_istore (lv' := [(8, .int (nI r1)), (5, .long (lN (2 * r - den))), (7, .int (nI 1)), (0, .ref m), (1, .long (lN num)), (3, .long (lN den))]) dX9_coin_64 (by decide) rfl ?_
          refine v_iload 0 dX9_coin_66 rfl ?_
          refine v_iload 2 dX9_coin_68 rfl ?_
          refine v_icmp_eq (tgt := 86) dX9_coin_70 (by decide) (fun b70 => ?_) (fun b70 => ?_)
          · have b70 : r1 = 1 := (nI_eq (by omega) (by decide)).mp b70
            refine v_lload 1 dX9_coin_86 rfl ?_
            refine v_lconst (v := lN 0) dX9_coin_88 (by decide) ?_
            refine v_lcmp dX9_coin_89 ?_
            refine v_if_ne (tgt := 95) dX9_coin_90 (by decide) (fun b90 => ?_) (fun b90 => ?_)
            · have b90 : ¬ (2 * r - den = 0) := fun q => b90 ((z_eq (by omega) (by decide)).mpr q)
              refine v_goto (tgt := 19) dX9_coin_95 (by decide) ?_
              refine v_lv [3, 4, 5, 1] rfl ?_
              exact ih k (2 * r - den) p1 true (by omega) (by omega) (fun h => by cases h) (by omega) (by omega) (fun _ => hb1.2.1) (by rw [if_pos rfl]; rw [if_neg (by decide)] at hj; omega) (fun u hu => hq u ⟨Rl_end rfl (by omega) (fun _ => sCoin_dry hb1.1) hu.1, hu.2⟩)
            · have b90 : 2 * r - den = 0 := (z_eq (by omega) (by decide)).mp b90
              refine v_iconst (v := nI 0) dX9_coin_93 (by decide) ?_
              exact v_iret hE dX9_coin_94 (0, p1, true) (hq _ ⟨Rl_dry hb1 (sCoin_dry hb1.1), Nat.le_of_ble_eq_true rfl⟩) rfl rfl
          · have b70 : ¬ (r1 = 1) := fun q => b70 ((nI_eq (by omega) (by decide)).mpr q)
            refine v_iload 0 dX9_coin_73 rfl ?_
            refine v_iload 2 dX9_coin_75 rfl ?_
            refine v_icmp_ge (tgt := 84) dX9_coin_77 (by decide) (fun b77 => ?_) (fun b77 => ?_)
            · have b77 : 1 ≤ r1 := (nI_leI (by decide) (by omega)).mp b77
              refine v_iconst (v := nI 0) dX9_coin_84 (by decide) ?_
              exact v_iret hE dX9_coin_85 (0, p1, true) (hq _ ⟨Rl_dry hb1 (sCoin_dry hb1.1), Nat.le_of_ble_eq_true rfl⟩) rfl rfl
            · have b77 : ¬ (1 ≤ r1) := fun q => b77 ((nI_leI (by decide) (by omega)).mpr q)
              refine v_iconst (v := nI 1) dX9_coin_80 (by decide) ?_
              refine v_goto (tgt := 85) dX9_coin_81 (by decide) ?_
              exact v_iret hE dX9_coin_85 (1, p1, true) (hq _ ⟨Rl_dry hb1 (sCoin_dry hb1.1), Nat.le_of_ble_eq_true rfl⟩) rfl rfl
    · show V (gG D cI cJ cT) X (rmD 1) cX9_coin 9 RX9 [(m, .inr (9, [.int th, .int (nI fd), .int pc0, .int dw0, .int lt0, .ref mt, .ref mw, .ref mb, .ref ml, .ref mq, .ref mz, .ref ms, .ref mr, .int ic0, .ref mi, .int (dI tr), .int (nI sg), .int (nI ln), .int (nI p), .int (nI (p - fr)), .int (dI true), .int ma0, .ref mk, .int en0, .ref mj, .ref mn])), (mt, .inl (cI, 16384, .inl tp))] 0 0 [(0, .ref m), (1, .long (lN num)), (3, .long (lN den)), (5, .long (lN r))] 19 []
      refine v_aload_n 0 dX9_coin_19 rfl rfl ?_
      refine v_get f_SampleDeskModel_77 0 rfl rfl dX9_coin_20 ?_
      refine v_if_ne (tgt := 98) dX9_coin_23 (by decide) (fun b23 => ?_) (fun b23 => absurd b23 (by decide))
      refine v_iconst (v := nI 0) dX9_coin_98 (by decide) ?_
      exact v_iret hE dX9_coin_99 (0, p, true) (hq _ ⟨Rl_over rfl (hdr rfl), Nat.zero_le _⟩) rfl rfl
set_option maxRecDepth 100000 in
set_option maxHeartbeats 4000000 in
theorem kX9_coin {D : va_G} {cI cJ cT : ClassId} (l : Launch) {m mt mw mb ml mq mz ms mr mi mk mj mn : Nat} {th pc0 dw0 lt0 ic0 ma0 en0 : Int32} {fd sg ln fr e : Nat} {tr : Bool} {tp : Nat → Int32} {b : Nat → Nat} {p : Nat} {dr : Bool} {num den : Nat} (hB : MB tr fd ln sg tp b e) (hfr : fr ≤ p) (hp : p ≤ e) (hdr : dr = true → p = e) (hden : den < 2 ^ 62) (hnum : num ≤ den) : Fn (S := Nat × Nat × Bool) (gG D cI cJ cT) l yX9_coin (.code yX9_coin cX9_coin 9 (some .int)) (rmD 1) [.ref m, .long (lN num), .long (lN den)] [(m, .inr (9, [.int th, .int (nI fd), .int pc0, .int dw0, .int lt0, .ref mt, .ref mw, .ref mb, .ref ml, .ref mq, .ref mz, .ref ms, .ref mr, .int ic0, .ref mi, .int (dI tr), .int (nI sg), .int (nI ln), .int (nI p), .int (nI (p - fr)), .int (dI dr), .int ma0, .ref mk, .int en0, .ref mj, .ref mn])), (mt, .inl (cI, 16384, .inl tp))] (fun u => Rl (sCoin b e num den p) e p dr u ∧ u.1 ≤ 1) (fun u => some (.int (nI u.1))) (fun u => [(m, .inr (9, [.int th, .int (nI fd), .int pc0, .int dw0, .int lt0, .ref mt, .ref mw, .ref mb, .ref ml, .ref mq, .ref mz, .ref ms, .ref mr, .int ic0, .ref mi, .int (dI tr), .int (nI sg), .int (nI ln), .int (nI u.2.1), .int (nI (u.2.1 - fr)), .int (dI u.2.2), .int ma0, .ref mk, .int en0, .ref mj, .ref mn])), (mt, .inl (cI, 16384, .inl tp))]) := by
  refine Fn.intro (by decide) (Nat.le_of_ble_eq_true rfl) ?_
  intro X hX hE hin
  subst hX
  show V (gG D cI cJ cT) X _ cX9_coin 9 RX9 _ 0 0 [(0, .ref m), (1, .long (lN num)), (3, .long (lN den))] 0 []
  refine v_lload_n 1 dX9_coin_0 rfl rfl ?_
  refine v_lconst (v := lN 0) dX9_coin_1 (by decide) ?_
  refine v_lcmp dX9_coin_2 ?_
  refine v_if_ne (tgt := 8) dX9_coin_3 (by decide) (fun b3 => ?_) (fun b3 => ?_)
  · have b3 : ¬ (num = 0) := fun q => b3 ((z_eq (by omega) (by decide)).mpr q)
    refine v_lload_n 1 dX9_coin_8 rfl rfl ?_
    refine v_lload_n 2 dX9_coin_9 rfl rfl ?_
    refine v_lcmp dX9_coin_10 ?_
    refine v_if_ne (tgt := 16) dX9_coin_11 (by decide) (fun b11 => ?_) (fun b11 => ?_)
    · have b11 : ¬ (num = den) := fun q => b11 ((z_eq (by omega) (by omega)).mpr q)
      refine v_lload_n 1 dX9_coin_16 rfl rfl ?_
      refine v_lstore (lv' := [(5, .long (lN num)), (0, .ref m), (1, .long (lN num)), (3, .long (lN den))]) dX9_coin_17 (by decide) rfl ?_
      refine v_lv [1, 2, 3, 0] rfl ?_
      exact kX9_coin_loop hB hden hE (e - p + 2) (e - p + 1) num p dr (by omega) (by omega) (fun _ => by omega) hfr hp hdr (by split <;> omega) (fun u hu => ⟨by rw [sCoin, if_neg (by omega), if_neg (by omega)]; exact hu.1, hu.2⟩)
    · have b11 : num = den := (z_eq (by omega) (by omega)).mp b11
      refine v_iconst (v := nI 1) dX9_coin_14 (by decide) ?_
      exact v_iret hE dX9_coin_15 (1, p, dr) (⟨sCoin_triv1 hp hdr ⟨by omega, by omega⟩, Nat.le_refl _⟩) rfl rfl
  · have b3 : num = 0 := (z_eq (by omega) (by decide)).mp b3
    refine v_iconst (v := nI 0) dX9_coin_6 (by decide) ?_
    exact v_iret hE dX9_coin_7 (0, p, dr) (⟨sCoin_triv0 hp hdr b3, Nat.zero_le _⟩) rfl rfl
