/-! THE LAW'S LOOP -/
theorem v_lawret {G : vG} {X : vX} {own : String} {ws : va_W} {ce sl b : Nat} {lv : List (Nat × Value)} {pc : Nat} (hQ : X.Q = lw_Z X.below X.args X.s) (ha : X.args = #[Value.ref b]) (hA : ∀ q, X.A q → X.s.heap.size ≤ q) (hr : X.meth.sig.returnType = ret) (h1 : ce ≤ 601024) (h2 : sl ≤ 7293034) (hdg : decode code pc = .ok (.ireturn, 1)) : V G X room_1 code 8 own ws ce sl lv pc [.int 1] := by
  intro hC H locs ls hP hD hS hl
  rw [hQ, ha]
  refine va_forget (fun q hq => hA _ (hS.2.2 q hq)) ?_
  exact W.widen h1 h2 (lw_ret hC.1 hC.2.1 hr hC.2.2.2.2.2.2.2 hdg)
theorem law_lt {L i : Nat} (hL : L ≤ 3584) (hi : i ≤ L) : nI L - nI 7 < nI i ↔ L < i + 7 := by
  rw [Int32.lt_iff_toInt_lt, pk_sub_toInt (by omega) (by decide), nI_toInt (by omega)]
  omega
set_option maxRecDepth 100000 in
set_option maxHeartbeats 1000000 in
theorem law_loop {D : va_G} {cI cJ cT : ClassId} {X : vX} {b L : Nat} {xs : Nat → Int32} {ou x ta tq sa oo lo sg ia w lq d o lc st us pe it m mt mw mb ml mq mz ms mr mi mk mj mn : Nat} {A : Nat → Nat} {tf : Nat → Option Nat} (hZ : vZ X) (hX : va_X b L xs X.s X.s.heap) (hbl : b < X.s.heap.size) (hbA : ¬ X.A b) (hL : L ≤ 3584) (hQ : X.Q = lw_Z X.below X.args X.s) (ha : X.args = #[Value.ref b]) (hAA : ∀ q, X.A q → X.s.heap.size ≤ q) (hr : X.meth.sig.returnType = ret) :
    ∀ (n i ce sl : Nat) (go : Nat → Int64) (icn : Nat) (lt : Nat) (sz : Nat) (pl : Nat) (f : Nat → Int32) (k0 : Int32) (a0 : Int32) (b0 : Int32) (c0 : Int32) (nx : Nat) (ls : Nat) (dw : Nat) (g : Nat → Int64) (gg : Nat → Int32) (gt : Nat → Int32) (w9 : Nat) (v1 : Int32) (v2 : Int32) (v3 : Int32) (v4 : Int32) (s0 : Int32) (gs : Nat → Int32) (gu : Nat → Int32) (gpe : Nat → Int32) (gi : Nat → Int32) (T : Nat → TR) (th : Int32) (tr0 : Int32) (sgn : Nat) (lnn : Nat) (at0 : Int32) (rd0 : Int32) (dr0 : Int32) (ma0 : Int32) (tpm : Nat → Int32) (gW : Nat → Int64) (gB : Nat → Int32) (gL : Nat → Int64) (gQ : Nat → Int32) (gZ : Nat → Int32) (gS : Nat → Int64) (gR : Nat → Int32) (gI : Nat → Int32) (gK : Nat → Int32) (gJ : Nat → Int32) (gN : Nat → Int64) (W : Nat → Nat → Nat) (M : Nat → Nat) (J : Nat → JE), L + 8 ≤ i + n → i ≤ L → ce ≤ 200 + i → sl ≤ 30000 + 6 * i → IA sz pl f tpm → IB icn gt gI → IC A tf T W M gW gL gB gQ gZ → ID nx ls sz g J gJ gN → V (gG D cI cJ cT) X room_1 cL_law 8 RL ([(ou, .inl (cJ, 1, .inr (.inl go))), (x, .inr (8, [.ref ta, .ref tq, .ref sa, .ref oo, .ref lo, .ref sg, .ref ia, .int (nI icn), .int (nI lt)])), (ta, .inr (7, [.ref w, .int (nI sz), .int (nI pl)])), (w, .inl (cI, 512, .inl f)), (oo, .inr (3, [.int k0, .int a0, .int b0, .int c0])), (lo, .inr (2, [.ref lc, .int (nI nx), .int (nI ls), .int (nI dw)])), (lc, .inl (cJ, 800, .inr (.inl g))), (sg, .inl (cI, 1, .inl gg)), (ia, .inl (cI, 256, .inl gt)), (sa, .inr (5, [.ref tq, .ref lq, .ref d, .ref o])), (d, .inr (0, [.ref w9, .int v1, .int v2, .int v3, .int v4])), (lq, .inr (1, [.ref d])), (o, .inr (4, [.ref d, .ref st, .ref us, .ref pe, .ref it, .int s0])), (st, .inl (cI, 256, .inl gs)), (us, .inl (cI, 128, .inl gu)), (pe, .inl (cI, 128, .inl gpe)), (it, .inl (cI, 256, .inl gi)), (tq, .inl (cT, 8, .inr (.inr (.inr (.inr tf))))), (m, .inr (9, [.int th, .int (nI sz), .int (nI pl), .int (nI dw), .int (nI lt), .ref mt, .ref mw, .ref mb, .ref ml, .ref mq, .ref mz, .ref ms, .ref mr, .int (nI icn), .ref mi, .int tr0, .int (nI sgn), .int (nI lnn), .int at0, .int rd0, .int dr0, .int ma0, .ref mk, .int (nI ls), .ref mj, .ref mn])), (mt, .inl (cI, 16384, .inl tpm)), (mw, .inl (cJ, 512, .inr (.inl gW))), (mb, .inl (cI, 8, .inl gB)), (ml, .inl (cJ, 512, .inr (.inl gL))), (mq, .inl (cI, 512, .inl gQ)), (mz, .inl (cI, 8, .inl gZ)), (ms, .inl (cJ, 64, .inr (.inl gS))), (mr, .inl (cI, 512, .inl gR)), (mi, .inl (cI, 256, .inl gI)), (mk, .inl (cI, 256, .inl gK)), (mj, .inl (cI, 700, .inl gJ)), (mn, .inl (cJ, 100, .inr (.inl gN)))] ++ tbW A cI cJ T) ce sl [(4, .int (nI i)), (0, .ref b), (1, .ref x), (2, .ref m), (3, .ref ou)] 23 [] := by
  intro n
  induction n with
  | zero =>
    intro i ce sl go icn lt sz pl f k0 a0 b0 c0 nx ls dw g gg gt w9 v1 v2 v3 v4 s0 gs gu gpe gi T th tr0 sgn lnn at0 rd0 dr0 ma0 tpm gW gB gL gQ gZ gS gR gI gK gJ gN W M J hn hi _ _ _ _ _ _
    exfalso; omega
  | succ n ih =>
    intro i ce sl go icn lt sz pl f k0 a0 b0 c0 nx ls dw g gg gt w9 v1 v2 v3 v4 s0 gs gu gpe gi T th tr0 sgn lnn at0 rd0 dr0 ma0 tpm gW gB gL gQ gZ gS gR gI gK gJ gN W M J hn hi hc9 hs9 hA hB hC hD
    refine v_iload 0 dL_law_23 rfl ?_
    refine v_aload_n 1 dL_law_25 rfl rfl ?_
    refine v_slen hX hbl hbA dL_law_26 ?_
    refine v_bipush (v := nI 7) dL_law_27 (by decide) ?_
    refine v_isub dL_law_29 ?_
    refine v_icmp_gt (tgt := 1080) dL_law_30 (by decide) (fun b30 => ?_) (fun b30 => ?_)
    · have b30 : L < i + 7 := (law_lt hL hi).mp b30
      refine v_iconst (v := 1) dL_law_1080 (by decide) ?_
      exact v_lawret hQ ha hAA hr (by omega) (by omega) dL_law_1081
    · have b30 : ¬ (L < i + 7) := fun q => b30 ((law_lt hL hi).mpr q)
      have hil : i + 7 ≤ L := by omega
      have hq : ∀ (go : Nat → Int64) (icn : Nat) (lt : Nat) (sz : Nat) (pl : Nat) (f : Nat → Int32) (k0 : Int32) (a0 : Int32) (b0 : Int32) (c0 : Int32) (nx : Nat) (ls : Nat) (dw : Nat) (g : Nat → Int64) (gg : Nat → Int32) (gt : Nat → Int32) (w9 : Nat) (v1 : Int32) (v2 : Int32) (v3 : Int32) (v4 : Int32) (s0 : Int32) (gs : Nat → Int32) (gu : Nat → Int32) (gpe : Nat → Int32) (gi : Nat → Int32) (T : Nat → TR) (th : Int32) (tr0 : Int32) (sgn : Nat) (lnn : Nat) (at0 : Int32) (rd0 : Int32) (dr0 : Int32) (ma0 : Int32) (tpm : Nat → Int32) (gW : Nat → Int64) (gB : Nat → Int32) (gL : Nat → Int64) (gQ : Nat → Int32) (gZ : Nat → Int32) (gS : Nat → Int64) (gR : Nat → Int32) (gI : Nat → Int32) (gK : Nat → Int32) (gJ : Nat → Int32) (gN : Nat → Int64) (W : Nat → Nat → Nat) (M : Nat → Nat) (J : Nat → JE), IA sz pl f tpm → IB icn gt gI → IC A tf T W M gW gL gB gQ gZ → ID nx ls sz g J gJ gN → V (gG D cI cJ cT) X room_1 cL_law 8 RL ([(ou, .inl (cJ, 1, .inr (.inl go))), (x, .inr (8, [.ref ta, .ref tq, .ref sa, .ref oo, .ref lo, .ref sg, .ref ia, .int (nI icn), .int (nI lt)])), (ta, .inr (7, [.ref w, .int (nI sz), .int (nI pl)])), (w, .inl (cI, 512, .inl f)), (oo, .inr (3, [.int k0, .int a0, .int b0, .int c0])), (lo, .inr (2, [.ref lc, .int (nI nx), .int (nI ls), .int (nI dw)])), (lc, .inl (cJ, 800, .inr (.inl g))), (sg, .inl (cI, 1, .inl gg)), (ia, .inl (cI, 256, .inl gt)), (sa, .inr (5, [.ref tq, .ref lq, .ref d, .ref o])), (d, .inr (0, [.ref w9, .int v1, .int v2, .int v3, .int v4])), (lq, .inr (1, [.ref d])), (o, .inr (4, [.ref d, .ref st, .ref us, .ref pe, .ref it, .int s0])), (st, .inl (cI, 256, .inl gs)), (us, .inl (cI, 128, .inl gu)), (pe, .inl (cI, 128, .inl gpe)), (it, .inl (cI, 256, .inl gi)), (tq, .inl (cT, 8, .inr (.inr (.inr (.inr tf))))), (m, .inr (9, [.int th, .int (nI sz), .int (nI pl), .int (nI dw), .int (nI lt), .ref mt, .ref mw, .ref mb, .ref ml, .ref mq, .ref mz, .ref ms, .ref mr, .int (nI icn), .ref mi, .int tr0, .int (nI sgn), .int (nI lnn), .int at0, .int rd0, .int dr0, .int ma0, .ref mk, .int (nI ls), .ref mj, .ref mn])), (mt, .inl (cI, 16384, .inl tpm)), (mw, .inl (cJ, 512, .inr (.inl gW))), (mb, .inl (cI, 8, .inl gB)), (ml, .inl (cJ, 512, .inr (.inl gL))), (mq, .inl (cI, 512, .inl gQ)), (mz, .inl (cI, 8, .inl gZ)), (ms, .inl (cJ, 64, .inr (.inl gS))), (mr, .inl (cI, 512, .inl gR)), (mi, .inl (cI, 256, .inl gI)), (mk, .inl (cI, 256, .inl gK)), (mj, .inl (cI, 700, .inl gJ)), (mn, .inl (cJ, 100, .inr (.inl gN)))] ++ tbW A cI cJ T) (ce + 1) (sl + 6) [(4, .int (nI i)), (0, .ref b), (1, .ref x), (2, .ref m), (3, .ref ou)] 1074 [] := by
        intro go icn lt sz pl f k0 a0 b0 c0 nx ls dw g gg gt w9 v1 v2 v3 v4 s0 gs gu gpe gi T th tr0 sgn lnn at0 rd0 dr0 ma0 tpm gW gB gL gQ gZ gS gR gI gK gJ gN W M J hA hB hC hD
        refine v_iinc (lv' := [(4, .int (nI (i + 7))), (0, .ref b), (1, .ref x), (2, .ref m), (3, .ref ou)]) (v := nI (i + 7)) 0 dL_law_1074 rfl (nI_add i 7) (by decide) rfl ?_
        refine v_goto (tgt := 23) dL_law_1077 (by decide) ?_
        exact ih (i + 7) (ce + 1) (sl + 6) go icn lt sz pl f k0 a0 b0 c0 nx ls dw g gg gt w9 v1 v2 v3 v4 s0 gs gu gpe gi T th tr0 sgn lnn at0 rd0 dr0 ma0 tpm gW gB gL gQ gZ gS gR gI gK gJ gN W M J (by omega) (by omega) (by omega) (by omega) hA hB hC hD
      have e0 : xs i = xs i := rfl
      refine v_aload_n 1 dL_law_33 rfl rfl ?_
      refine v_iload 0 dL_law_34 rfl ?_
      refine v_sld hX hbl hbA (by omega) hL dL_law_36 ?_
      refine v_topi (y := xs i) e0 ?_
      refine v_bipush (v := nI 15) dL_law_37 (by decide) ?_
      refine v_iand dL_law_39 ?_
      obtain ⟨c9, hc9, ec9⟩ := pk_andE (xs i) (m := nI 15) 4 (by decide)
      refine v_topi (y := nI c9) ec9 ?_
      rcases (show c9 = 0 ∨ c9 = 1 ∨ c9 = 2 ∨ c9 = 3 ∨ c9 = 4 ∨ c9 = 5 ∨ c9 = 6 ∨ c9 = 7 ∨ c9 = 8 ∨ c9 = 9 ∨ c9 = 10 ∨ c9 = 11 ∨ c9 = 12 ∨ c9 = 13 ∨ c9 = 14 ∨ c9 = 15 by omega) with rfl | rfl | rfl | rfl | rfl | rfl | rfl | rfl | rfl | rfl | rfl | rfl | rfl | rfl | rfl | rfl
      · refine v_tableIn (off := 68) (tgt := 108) dL_law_40 (by decide) (by decide) (by decide) (by decide) ?_
        refine v_lv [0, 1, 2, 3, 4] rfl ?_
        exact law_0 hZ hX hbl hbA hL hil (by omega) (by omega) rfl rfl rfl rfl hA hB hC hD hq
      · refine v_tableIn (off := 160) (tgt := 200) dL_law_40 (by decide) (by decide) (by decide) (by decide) ?_
        refine v_lv [0, 1, 2, 3, 4] rfl ?_
        exact law_1 hZ hX hbl hbA hL hil (by omega) (by omega) rfl rfl hA hB hC hD hq
      · refine v_tableIn (off := 228) (tgt := 268) dL_law_40 (by decide) (by decide) (by decide) (by decide) ?_
        refine v_lv [0, 1, 2, 3, 4] rfl ?_
        exact law_2 hZ hX hbl hbA hL hil (by omega) (by omega) rfl hA hB hC hD hq
      · refine v_tableIn (off := 284) (tgt := 324) dL_law_40 (by decide) (by decide) (by decide) (by decide) ?_
        refine v_lv [0, 1, 2, 3, 4] rfl ?_
        exact law_3 hZ hX hbl hbA hL hil (by omega) (by omega) rfl rfl rfl hA hB hC hD hq
      · refine v_tableIn (off := 364) (tgt := 404) dL_law_40 (by decide) (by decide) (by decide) (by decide) ?_
        refine v_lv [0, 1, 2, 3, 4] rfl ?_
        exact law_4 hZ hX hbl hbA hL hil (by omega) (by omega) rfl rfl hA hB hC hD hq
      · refine v_tableIn (off := 431) (tgt := 471) dL_law_40 (by decide) (by decide) (by decide) (by decide) ?_
        refine v_lv [0, 1, 2, 3, 4] rfl ?_
        exact law_5 hZ hX hbl hbA hL hil (by omega) (by omega) rfl rfl rfl hA hB hC hD hq
      · refine v_tableIn (off := 510) (tgt := 550) dL_law_40 (by decide) (by decide) (by decide) (by decide) ?_
        refine v_lv [0, 1, 2, 3, 4] rfl ?_
        exact law_6 hZ hX hbl hbA hL hil (by omega) (by omega) rfl rfl rfl rfl hA hB hC hD hq
      · refine v_tableIn (off := 601) (tgt := 641) dL_law_40 (by decide) (by decide) (by decide) (by decide) ?_
        refine v_lv [0, 1, 2, 3, 4] rfl ?_
        exact law_7 hZ hX hbl hbA hL hil (by omega) (by omega) rfl hA hB hC hD hq
      · refine v_tableIn (off := 657) (tgt := 697) dL_law_40 (by decide) (by decide) (by decide) (by decide) ?_
        refine v_lv [0, 1, 2, 3, 4] rfl ?_
        exact law_8 hZ hX hbl hbA hL hil (by omega) (by omega) rfl rfl rfl rfl rfl rfl hA hB hC hD hq
      · refine v_tableIn (off := 775) (tgt := 815) dL_law_40 (by decide) (by decide) (by decide) (by decide) ?_
        refine v_lv [0, 1, 2, 3, 4] rfl ?_
        exact law_9 hZ hX hbl hbA hL hil (by omega) (by omega) rfl rfl rfl rfl rfl hA hB hC hD hq
      · refine v_tableIn (off := 879) (tgt := 919) dL_law_40 (by decide) (by decide) (by decide) (by decide) ?_
        refine v_lv [0, 1, 2, 3, 4] rfl ?_
        exact law_10 hZ hX hbl hbA hL hil (by omega) (by omega) rfl rfl hA hB hC hD hq
      · refine v_tableIn (off := 946) (tgt := 986) dL_law_40 (by decide) (by decide) (by decide) (by decide) ?_
        refine v_lv [0, 1, 2, 3, 4] rfl ?_
        exact law_11 hZ hX hbl hbA hL hil (by omega) (by omega) rfl hA hB hC hD hq
      · refine v_tableIn (off := 1009) (tgt := 1049) dL_law_40 (by decide) (by decide) (by decide) (by decide) ?_
        refine v_lv [0, 1, 2, 3, 4] rfl ?_
        exact law_12 hZ hX hbl hbA hL hil (by omega) (by omega) rfl hA hB hC hD hq
      · refine v_tableOut (tgt := 1074) dL_law_40 (Or.inr (by decide)) (by decide) ?_
        refine v_lv [0, 1, 2, 3, 4] rfl ?_
        refine v_widen (Nat.le_add_right ce 1) (Nat.le_add_right sl 6) ?_
        exact hq _ _ _ _ _ _ _ _ _ _ _ _ _ _ _ _ _ _ _ _ _ _ _ _ _ _ _ _ _ _ _ _ _ _ _ _ _ _ _ _ _ _ _ _ _ _ _ _ _ _ hA hB hC hD
      · refine v_tableOut (tgt := 1074) dL_law_40 (Or.inr (by decide)) (by decide) ?_
        refine v_lv [0, 1, 2, 3, 4] rfl ?_
        refine v_widen (Nat.le_add_right ce 1) (Nat.le_add_right sl 6) ?_
        exact hq _ _ _ _ _ _ _ _ _ _ _ _ _ _ _ _ _ _ _ _ _ _ _ _ _ _ _ _ _ _ _ _ _ _ _ _ _ _ _ _ _ _ _ _ _ _ _ _ _ _ hA hB hC hD
      · refine v_tableOut (tgt := 1074) dL_law_40 (Or.inr (by decide)) (by decide) ?_
        refine v_lv [0, 1, 2, 3, 4] rfl ?_
        refine v_widen (Nat.le_add_right ce 1) (Nat.le_add_right sl 6) ?_
        exact hq _ _ _ _ _ _ _ _ _ _ _ _ _ _ _ _ _ _ _ _ _ _ _ _ _ _ _ _ _ _ _ _ _ _ _ _ _ _ _ _ _ _ _ _ _ _ _ _ _ _ hA hB hC hD
