theorem cs_step (F : Nat → Nat) (i : Nat) : (csN F i % 1000003 + (i + 1) * F i) % 1000003 = csN F (i + 1) % 1000003 := by
  rw [csN, Nat.add_mod, Nat.mod_mod, ← Nat.add_mod]
set_option maxRecDepth 100000 in
set_option maxHeartbeats 1000000 in
theorem kX9_sumOfItems_loop {D : va_G} {cI cJ cT : ClassId} {X : vX} {m mt mw mb ml mq mz ms mr mi mk mj mn : Nat} {th fd0 pc0 dw0 lt0 ic0 tr0 sg0 ln0 at0 rd0 dr0 ma0 en0 : Int32} {sz : Nat} {kd : Int32} {gK : Nat → Int32} {F : Nat → Nat} (hsz : sz ≤ 256) (hF : ∀ x, x < sz → gK x = nI (F x)) (hB : ∀ x, x < sz → F x < 65536) (hkd : ¬ kd ≤ nI 8) {W0 : va_W} {post : Unit → Prop} (hq : ∀ u, True → post u) (hE : vE (gG D cI cJ cT) X (some .int) W0 post (fun u => some (.int (nI (csN F sz % 1000003)))) (fun u => [(m, .inr (9, [.int th, .int fd0, .int pc0, .int dw0, .int lt0, .ref mt, .ref mw, .ref mb, .ref ml, .ref mq, .ref mz, .ref ms, .ref mr, .int ic0, .ref mi, .int tr0, .int sg0, .int ln0, .int at0, .int rd0, .int dr0, .int (nI sz), .ref mk, .int en0, .ref mj, .ref mn])), (mk, .inl (cI, 256, .inl gK))])) :
    ∀ (k : Nat) (i : Nat), sz - i < k → i ≤ sz → V (gG D cI cJ cT) X (rmD 0) cX9_sumOfItems 5 RX9 [(m, .inr (9, [.int th, .int fd0, .int pc0, .int dw0, .int lt0, .ref mt, .ref mw, .ref mb, .ref ml, .ref mq, .ref mz, .ref ms, .ref mr, .int ic0, .ref mi, .int tr0, .int sg0, .int ln0, .int at0, .int rd0, .int dr0, .int (nI sz), .ref mk, .int en0, .ref mj, .ref mn])), (mk, .inl (cI, 256, .inl gK))] 0 0 [(0, .ref m), (1, .int kd), (2, .long (lN (csN F i % 1000003))), (4, .int (nI i))] 5 [] := by
  intro k
  induction k with
  | zero => intro i hk hi; omega
  | succ k ih =>
    intro i hk hi
    refine v_iload 3 dX9_sumOfItems_5 rfl ?_
    refine v_aload_n 0 dX9_sumOfItems_7 rfl rfl ?_
    refine v_get f_SampleDeskModel_123 0 rfl rfl dX9_sumOfItems_8 ?_
    refine v_icmp_ge (tgt := 47) dX9_sumOfItems_11 (by decide) (fun b11 => ?_) (fun b11 => ?_)
    · have b11 : sz ≤ i := (nI_leI (by omega) (by omega)).mp b11
      have hie : i = sz := by omega
      subst hie
      have hmo := Nat.mod_lt (csN F i) (show 0 < 1000003 by decide)
      refine v_lload_n 2 dX9_sumOfItems_47 rfl rfl ?_
      refine v_l2i (v := nI (csN F i % 1000003)) dX9_sumOfItems_48 (l2i_n (by omega)) ?_
      exact v_iret hE dX9_sumOfItems_49 () (hq _ trivial) rfl rfl
    · have b11 : ¬ (sz ≤ i) := fun q => b11 ((nI_leI (by omega) (by omega)).mpr q)
      have hFi := hB i (by omega)
      have hmo := Nat.mod_lt (csN F i) (show 0 < 1000003 by decide)
      have hml : (i + 1) * F i ≤ 256 * 65536 := Nat.mul_le_mul (by omega) (by omega)
      refine v_iload_n 1 dX9_sumOfItems_14 rfl rfl ?_
      refine v_bipush (v := nI 8) dX9_sumOfItems_15 (by decide) ?_
      refine v_icmp_le (tgt := 47) dX9_sumOfItems_17 (by decide) (fun b17 => absurd b17 (hkd)) (fun b17 => ?_)
      refine v_lload_n 2 dX9_sumOfItems_20 rfl rfl ?_
      refine v_iload 3 dX9_sumOfItems_21 rfl ?_
      refine v_i2l (v := lN i) dX9_sumOfItems_23 (nI_l (by omega)) ?_
      refine v_lconst (v := lN 1) dX9_sumOfItems_24 (by decide) ?_
      refine v_ladd dX9_sumOfItems_25 ?_
      refine v_topl (y := lN (i + 1)) (lN_add _ _) ?_
      refine v_aload_n 0 dX9_sumOfItems_26 rfl rfl ?_
      refine v_get f_SampleDeskModel_38 0 rfl rfl dX9_sumOfItems_27 ?_
      refine v_iload 3 dX9_sumOfItems_30 rfl ?_
      refine v_iald 0 1 rfl rfl (by omega) (by omega) dX9_sumOfItems_32 ?_
      refine v_topi (y := nI (F i)) (hF i (by omega)) ?_
      refine v_i2l (v := lN (F i)) dX9_sumOfItems_33 (nI_l (by omega)) ?_
      refine v_lmul dX9_sumOfItems_34 ?_
      refine v_topl (y := lN ((i + 1) * F i)) (lN_mul _ _) ?_
      refine v_ladd dX9_sumOfItems_35 ?_
      refine v_topl (y := lN (csN F i % 1000003 + (i + 1) * F i)) (lN_add _ _) ?_
      refine v_ldc2 (v := lN 1000003) k_c_SampleDeskModel_189 dX9_sumOfItems_36 ?_
      refine v_lrem dX9_sumOfItems_39 (by decide) ?_
      refine v_topl (y := lN (csN F (i + 1) % 1000003)) (by rw [← cs_step]; exact pk_lRem (by omega) (by decide) (by decide)) ?_
      refine v_lstore_n (lv' := [(2, .long (lN (csN F (i + 1) % 1000003))), (0, .ref m), (1, .int kd), (4, .int (nI i))]) dX9_sumOfItems_40 rfl (by decide) rfl ?_
      refine v_iinc (lv' := [(4, .int (nI (i + 1))), (2, .long (lN (csN F (i + 1) % 1000003))), (0, .ref m), (1, .int kd)]) (v := nI (i + 1)) 3 dX9_sumOfItems_41 rfl (nI_1 i) (by decide) rfl ?_
      refine v_goto (tgt := 5) dX9_sumOfItems_44 (by decide) ?_
      refine v_lv [2, 3, 1, 0] rfl ?_
      exact ih (i + 1) (by omega) (by omega)
set_option maxRecDepth 100000 in
set_option maxHeartbeats 1000000 in
theorem kX9_sumOfItems {D : va_G} {cI cJ cT : ClassId} (l : Launch) {m mt mw mb ml mq mz ms mr mi mk mj mn : Nat} {th fd0 pc0 dw0 lt0 ic0 tr0 sg0 ln0 at0 rd0 dr0 ma0 en0 : Int32} {sz : Nat} {kd : Int32} {gK : Nat → Int32} {F : Nat → Nat} (hsz : sz ≤ 256) (hF : ∀ x, x < sz → gK x = nI (F x)) (hB : ∀ x, x < sz → F x < 65536) (hkd : ¬ kd ≤ nI 8) : Fn (S := Unit) (gG D cI cJ cT) l yX9_sumOfItems (.code yX9_sumOfItems cX9_sumOfItems 5 (some .int)) (rmD 0) [.ref m, .int kd] [(m, .inr (9, [.int th, .int fd0, .int pc0, .int dw0, .int lt0, .ref mt, .ref mw, .ref mb, .ref ml, .ref mq, .ref mz, .ref ms, .ref mr, .int ic0, .ref mi, .int tr0, .int sg0, .int ln0, .int at0, .int rd0, .int dr0, .int (nI sz), .ref mk, .int en0, .ref mj, .ref mn])), (mk, .inl (cI, 256, .inl gK))] (fun _ => True) (fun u => some (.int (nI (csN F sz % 1000003)))) (fun u => [(m, .inr (9, [.int th, .int fd0, .int pc0, .int dw0, .int lt0, .ref mt, .ref mw, .ref mb, .ref ml, .ref mq, .ref mz, .ref ms, .ref mr, .int ic0, .ref mi, .int tr0, .int sg0, .int ln0, .int at0, .int rd0, .int dr0, .int (nI sz), .ref mk, .int en0, .ref mj, .ref mn])), (mk, .inl (cI, 256, .inl gK))]) := by
  refine Fn.intro (by decide) (Nat.le_of_ble_eq_true rfl) ?_
  intro X hX hE hin
  subst hX
  show V (gG D cI cJ cT) X _ cX9_sumOfItems 5 RX9 _ 0 0 [(0, .ref m), (1, .int kd)] 0 []
  refine v_lconst (v := lN 0) dX9_sumOfItems_0 (by decide) ?_
  refine v_lstore_n (lv' := [(2, .long (lN 0)), (0, .ref m), (1, .int kd)]) dX9_sumOfItems_1 rfl (by decide) rfl ?_
  refine v_iconst (v := nI 0) dX9_sumOfItems_2 (by decide) ?_
  refine v_istore (lv' := [(4, .int (nI 0)), (2, .long (lN 0)), (0, .ref m), (1, .int kd)]) dX9_sumOfItems_3 (by decide) rfl ?_
  refine v_lv [2, 3, 1, 0] rfl ?_
  exact kX9_sumOfItems_loop (ma0 := ma0) hsz hF hB hkd (fun u _ => trivial) hE (sz + 1) 0 (by omega) (by omega)
set_option maxRecDepth 100000 in
set_option maxHeartbeats 1000000 in
theorem kX9_sumOfItems_0 {D : va_G} {cI cJ cT : ClassId} (l : Launch) {m mt mw mb ml mq mz ms mr mi mk mj mn : Nat} {th fd0 pc0 dw0 lt0 ic0 tr0 sg0 ln0 at0 rd0 dr0 ma0 en0 : Int32} {kd : Int32} {gK : Nat → Int32} (hkd : kd ≤ nI 8) : Fn (S := Unit) (gG D cI cJ cT) l yX9_sumOfItems (.code yX9_sumOfItems cX9_sumOfItems 5 (some .int)) (rmD 0) [.ref m, .int kd] [(m, .inr (9, [.int th, .int fd0, .int pc0, .int dw0, .int lt0, .ref mt, .ref mw, .ref mb, .ref ml, .ref mq, .ref mz, .ref ms, .ref mr, .int ic0, .ref mi, .int tr0, .int sg0, .int ln0, .int at0, .int rd0, .int dr0, .int ma0, .ref mk, .int en0, .ref mj, .ref mn])), (mk, .inl (cI, 256, .inl gK))] (fun _ => True) (fun u => some (.int (nI 0))) (fun u => [(m, .inr (9, [.int th, .int fd0, .int pc0, .int dw0, .int lt0, .ref mt, .ref mw, .ref mb, .ref ml, .ref mq, .ref mz, .ref ms, .ref mr, .int ic0, .ref mi, .int tr0, .int sg0, .int ln0, .int at0, .int rd0, .int dr0, .int ma0, .ref mk, .int en0, .ref mj, .ref mn])), (mk, .inl (cI, 256, .inl gK))]) := by
  refine Fn.intro (by decide) (Nat.le_of_ble_eq_true rfl) ?_
  intro X hX hE hin
  subst hX
  show V (gG D cI cJ cT) X _ cX9_sumOfItems 5 RX9 _ 0 0 [(0, .ref m), (1, .int kd)] 0 []
  refine v_lconst (v := lN 0) dX9_sumOfItems_0 (by decide) ?_
  refine v_lstore_n (lv' := [(2, .long (lN 0)), (0, .ref m), (1, .int kd)]) dX9_sumOfItems_1 rfl (by decide) rfl ?_
  refine v_iconst (v := nI 0) dX9_sumOfItems_2 (by decide) ?_
  refine v_istore (lv' := [(4, .int (nI 0)), (2, .long (lN 0)), (0, .ref m), (1, .int kd)]) dX9_sumOfItems_3 (by decide) rfl ?_
  refine v_iload 0 dX9_sumOfItems_5 rfl ?_
  refine v_aload_n 2 dX9_sumOfItems_7 rfl rfl ?_
  refine v_get f_SampleDeskModel_123 0 rfl rfl dX9_sumOfItems_8 ?_
  refine v_icmp_ge (tgt := 47) dX9_sumOfItems_11 (by decide) (fun b11 => ?_) (fun b11 => ?_)
  · refine v_lload_n 1 dX9_sumOfItems_47 rfl rfl ?_
    refine v_l2i (v := nI 0) dX9_sumOfItems_48 (l2i_n (by decide)) ?_
    exact v_iret hE dX9_sumOfItems_49 () (trivial) rfl rfl
  · refine v_iload_n 3 dX9_sumOfItems_14 rfl rfl ?_
    refine v_bipush (v := nI 8) dX9_sumOfItems_15 (by decide) ?_
    refine v_icmp_le (tgt := 47) dX9_sumOfItems_17 (by decide) (fun b17 => ?_) (fun b17 => absurd (hkd) b17)
    refine v_lload_n 1 dX9_sumOfItems_47 rfl rfl ?_
    refine v_l2i (v := nI 0) dX9_sumOfItems_48 (l2i_n (by decide)) ?_
    exact v_iret hE dX9_sumOfItems_49 () (trivial) rfl rfl
def mG (kd : Int32) (an : Int64) (ma : Int32) (g : Nat → Int32) : sR → Prop := fun x => an = x.1 ∧ (¬ kd < nI 9 → ma = nI x.2.1 ∧ ∀ y, y < x.2.1 → g y = nI (x.2.2 y))
theorem Rl_oG {o : Option (Nat × Nat)} {h : Nat → Int64} {e p r p1 : Nat} {dr d1 : Bool} {kd ma : Int32} {g : Nat → Int32} (hk : kd < nI 9) (hl : Rl o e p dr (r, p1, d1)) : Rg (oM o h) e p dr (mG kd (h r) ma g) p1 d1 := by
  obtain ⟨a1, a2, a3, a4, a5⟩ := hl
  refine ⟨a1, fun hd => ?_, a3, a4, a5⟩
  rcases a2 hd with ⟨q, h2, h3⟩ | ⟨h2, h3⟩
  · simp only [Prod.mk.injEq] at h3
    exact Or.inl ⟨_, by rw [h2]; rfl, ⟨by rw [h3.1], fun h9 => absurd hk h9⟩, h3.2.1, h3.2.2⟩
  · exact Or.inr ⟨by rw [h2]; rfl, h3⟩
theorem Rg_bG {o : Option (sR × Nat)} {e p p1 : Nat} {dr d1 : Bool} {kd ma : Int32} {an : Int64} {g : Nat → Int32} (h : Rg o e p dr (mB an ma g) p1 d1) : Rg o e p dr (mG kd an ma g) p1 d1 :=
  Rg_map h (fun _ _ F ho hm => ⟨F, ho, hm.1, fun _ => hm.2⟩) (fun _ ho => ho)
set_option maxRecDepth 100000 in
set_option maxHeartbeats 1000000 in
theorem kX9_go_0 {D : va_G} {cI cJ cT : ClassId} (l : Launch) {m mt mw mb ml mq mz ms mr mi mk mj mn : Nat} {th pc0 dw0 lt0 ic0 ma0 en0 : Int32} {fd sg ln fr e : Nat} {tr : Bool} {tp : Nat → Int32} {b : Nat → Nat} {at0 rd0 dr0 : Int32} {y : Nat} {gW gS gL : Nat → Int64} {W : Nat → Nat} {mm : Nat} {gB gQ gZ gK gR : Nat → Int32} {x y9 z : Nat} {b1 c1 : Int32} (hB : MB tr fd ln sg tp b e) (hfe : fr ≤ e) (hW : ∀ x, x < 64 → gW (64 * y + x) = lN (W x)) (hWb : ∀ x, x < 64 → W x < 2 ^ 31) (hy : y < 8) (hs0 : 0 < sumN W 64) (hM : mm ≤ 1) (hBt : gB y = nI (mm + 1)) (hal : mm = 1 → gZ y = nI (topN W 64) ∧ (∀ x, x < topN W 64 → gL (64 * y + x) = lN ((alS W (topN W 64) (sumN W 64)).1 x)) ∧ ∀ x, x < topN W 64 → gQ (64 * y + x) = nI ((alS W (topN W 64) (sumN W 64)).2 x)) : Fn (S := Int64 × Int32 × (Nat → Int64) × (Nat → Int32) × (Nat → Int32) × Nat × Bool) (gG D cI cJ cT) l yX9_go (.code yX9_go cX9_go 6 (some .long)) (rmD 5) [.ref m, .int (nI 0), .int (nI y), .int b1, .int c1, .int (nI fr)] [(m, .inr (9, [.int th, .int (nI fd), .int pc0, .int dw0, .int lt0, .ref mt, .ref mw, .ref mb, .ref ml, .ref mq, .ref mz, .ref ms, .ref mr, .int ic0, .ref mi, .int (dI tr), .int (nI sg), .int (nI ln), .int at0, .int rd0, .int dr0, .int ma0, .ref mk, .int en0, .ref mj, .ref mn])), (mt, .inl (cI, 16384, .inl tp)), (mw, .inl (cJ, 512, .inr (.inl gW))), (ms, .inl (cJ, 64, .inr (.inl gS))), (mb, .inl (cI, 8, .inl gB)), (ml, .inl (cJ, 512, .inr (.inl gL))), (mq, .inl (cI, 512, .inl gQ)), (mz, .inl (cI, 8, .inl gZ)), (mk, .inl (cI, 256, .inl gK)), (mr, .inl (cI, 512, .inl gR))] (fun u => Rg (sAns b e 0 x y9 z W mm fr) e fr false (mG (nI 0) u.1 u.2.1 u.2.2.2.1) u.2.2.2.2.2.1 u.2.2.2.2.2.2) (fun u => some (.long u.1)) (fun u => [(m, .inr (9, [.int th, .int (nI fd), .int pc0, .int dw0, .int lt0, .ref mt, .ref mw, .ref mb, .ref ml, .ref mq, .ref mz, .ref ms, .ref mr, .int ic0, .ref mi, .int (dI tr), .int (nI sg), .int (nI ln), .int (nI u.2.2.2.2.2.1), .int (nI (u.2.2.2.2.2.1 - fr)), .int (dI u.2.2.2.2.2.2), .int u.2.1, .ref mk, .int en0, .ref mj, .ref mn])), (mt, .inl (cI, 16384, .inl tp)), (mw, .inl (cJ, 512, .inr (.inl gW))), (ms, .inl (cJ, 64, .inr (.inl u.2.2.1))), (mb, .inl (cI, 8, .inl gB)), (ml, .inl (cJ, 512, .inr (.inl gL))), (mq, .inl (cI, 512, .inl gQ)), (mz, .inl (cI, 8, .inl gZ)), (mk, .inl (cI, 256, .inl u.2.2.2.1)), (mr, .inl (cI, 512, .inl u.2.2.2.2.1))]) := by
  refine Fn.intro (by decide) (Nat.le_of_ble_eq_true rfl) ?_
  intro X hX hE hin
  subst hX
  show V (gG D cI cJ cT) X _ cX9_go 6 RX9 _ 0 0 [(0, .ref m), (1, .int (nI 0)), (2, .int (nI y)), (3, .int b1), (4, .int c1), (5, .int (nI fr))] 0 []
  refine v_aload_n 0 dX9_go_0 rfl rfl ?_
  refine v_iload 5 dX9_go_1 rfl ?_
  refine v_put (ws' := [(m, .inr (9, [.int th, .int (nI fd), .int pc0, .int dw0, .int lt0, .ref mt, .ref mw, .ref mb, .ref ml, .ref mq, .ref mz, .ref ms, .ref mr, .int ic0, .ref mi, .int (dI tr), .int (nI sg), .int (nI ln), .int (nI fr), .int rd0, .int dr0, .int ma0, .ref mk, .int en0, .ref mj, .ref mn])), (mt, .inl (cI, 16384, .inl tp)), (mw, .inl (cJ, 512, .inr (.inl gW))), (ms, .inl (cJ, 64, .inr (.inl gS))), (mb, .inl (cI, 8, .inl gB)), (ml, .inl (cJ, 512, .inr (.inl gL))), (mq, .inl (cI, 512, .inl gQ)), (mz, .inl (cI, 8, .inl gZ)), (mk, .inl (cI, 256, .inl gK)), (mr, .inl (cI, 512, .inl gR))]) fw_SampleDeskModel_81 0 rfl (rfl) (rfl) (Nat.le_of_ble_eq_true rfl) dX9_go_3 rfl ?_
  refine v_aload_n 0 dX9_go_6 rfl rfl ?_
  refine v_iconst (v := nI (fr - fr)) dX9_go_7 (by rw [Nat.sub_self]; decide) ?_
  refine v_put (ws' := [(m, .inr (9, [.int th, .int (nI fd), .int pc0, .int dw0, .int lt0, .ref mt, .ref mw, .ref mb, .ref ml, .ref mq, .ref mz, .ref ms, .ref mr, .int ic0, .ref mi, .int (dI tr), .int (nI sg), .int (nI ln), .int (nI fr), .int (nI (fr - fr)), .int dr0, .int ma0, .ref mk, .int en0, .ref mj, .ref mn])), (mt, .inl (cI, 16384, .inl tp)), (mw, .inl (cJ, 512, .inr (.inl gW))), (ms, .inl (cJ, 64, .inr (.inl gS))), (mb, .inl (cI, 8, .inl gB)), (ml, .inl (cJ, 512, .inr (.inl gL))), (mq, .inl (cI, 512, .inl gQ)), (mz, .inl (cI, 8, .inl gZ)), (mk, .inl (cI, 256, .inl gK)), (mr, .inl (cI, 512, .inl gR))]) fw_SampleDeskModel_93 0 rfl (rfl) (rfl) (Nat.le_of_ble_eq_true rfl) dX9_go_8 rfl ?_
  refine v_aload_n 0 dX9_go_11 rfl rfl ?_
  refine v_iconst (v := dI false) dX9_go_12 (by decide) ?_
  refine v_put (ws' := [(m, .inr (9, [.int th, .int (nI fd), .int pc0, .int dw0, .int lt0, .ref mt, .ref mw, .ref mb, .ref ml, .ref mq, .ref mz, .ref ms, .ref mr, .int ic0, .ref mi, .int (dI tr), .int (nI sg), .int (nI ln), .int (nI fr), .int (nI (fr - fr)), .int (dI false), .int ma0, .ref mk, .int en0, .ref mj, .ref mn])), (mt, .inl (cI, 16384, .inl tp)), (mw, .inl (cJ, 512, .inr (.inl gW))), (ms, .inl (cJ, 64, .inr (.inl gS))), (mb, .inl (cI, 8, .inl gB)), (ml, .inl (cJ, 512, .inr (.inl gL))), (mq, .inl (cI, 512, .inl gQ)), (mz, .inl (cI, 8, .inl gZ)), (mk, .inl (cI, 256, .inl gK)), (mr, .inl (cI, 512, .inl gR))]) fw_SampleDeskModel_77 0 rfl (rfl) (rfl) (Nat.le_of_ble_eq_true rfl) dX9_go_13 rfl ?_
  refine v_iload_n 1 dX9_go_16 rfl rfl ?_
  refine v_if_ne (tgt := 26) dX9_go_17 (by decide) (fun b17 => absurd b17 (fun q => q rfl)) (fun b17 => ?_)
  refine v_aload_n 0 dX9_go_20 rfl rfl ?_
  refine v_iload_n 2 dX9_go_21 rfl rfl ?_
  refine v_callV (as := [.int (nI y)]) (rest := []) (ws' := fun u => [(m, .inr (9, [.int th, .int (nI fd), .int pc0, .int dw0, .int lt0, .ref mt, .ref mw, .ref mb, .ref ml, .ref mq, .ref mz, .ref ms, .ref mr, .int ic0, .ref mi, .int (dI tr), .int (nI sg), .int (nI ln), .int (nI u.2.2.1), .int (nI (u.2.2.1 - fr)), .int (dI u.2.2.2), .int ma0, .ref mk, .int en0, .ref mj, .ref mn])), (mt, .inl (cI, 16384, .inl tp)), (mw, .inl (cJ, 512, .inr (.inl gW))), (ms, .inl (cJ, 64, .inr (.inl u.1))), (mb, .inl (cI, 8, .inl gB)), (ml, .inl (cJ, 512, .inr (.inl gL))), (mq, .inl (cI, 512, .inl gQ)), (mz, .inl (cI, 8, .inl gZ)), (mk, .inl (cI, 256, .inl gK)), (mr, .inl (cI, 512, .inl gR))]) m_SampleDeskModel_165 (kX9_fromTable X.l (m := m) (mt := mt) (mw := mw) (mb := mb) (ml := ml) (mq := mq) (mz := mz) (ms := ms) (mr := mr) (mi := mi) (mk := mk) (mj := mj) (mn := mn) (th := th) (pc0 := pc0) (dw0 := dw0) (lt0 := lt0) (ic0 := ic0) (en0 := en0) (fd := fd) (sg := sg) (ln := ln) (fr := fr) (e := e) (tr := tr) (tp := tp) (b := b) (ma0 := ma0) (p := fr) (dr := false) (y := y) (gW := gW) (W := W) (mm := mm) (gS := gS) (gL := gL) (gB := gB) (gQ := gQ) (gZ := gZ) hB (Nat.le_refl _) hfe (fun h => nomatch h) hW hWb hy hs0 hM hBt hal) k_code_X9_fromTable [0, 1, 2, 3, 4, 5, 6, 7] 0 rfl rfl rfl rfl dX9_go_22 (Nat.le_of_ble_eq_true rfl) ⟨rfl, rfl, by decide, by decide⟩ ⟨Nat.zero_le _, Nat.zero_le _⟩ rfl rfl (fun _ => rfl) (v_mgU rfl (fun _ => rfl)) ?_
  intro u22 c22
  obtain ⟨g1, r1, p1, d1⟩ := u22
  try dsimp only at c22
  show V (gG D cI cJ cT) X (rmD 5) cX9_go 6 RX9 [(m, .inr (9, [.int th, .int (nI fd), .int pc0, .int dw0, .int lt0, .ref mt, .ref mw, .ref mb, .ref ml, .ref mq, .ref mz, .ref ms, .ref mr, .int ic0, .ref mi, .int (dI tr), .int (nI sg), .int (nI ln), .int (nI p1), .int (nI (p1 - fr)), .int (dI d1), .int ma0, .ref mk, .int en0, .ref mj, .ref mn])), (mt, .inl (cI, 16384, .inl tp)), (mw, .inl (cJ, 512, .inr (.inl gW))), (ms, .inl (cJ, 64, .inr (.inl g1))), (mb, .inl (cI, 8, .inl gB)), (ml, .inl (cJ, 512, .inr (.inl gL))), (mq, .inl (cI, 512, .inl gQ)), (mz, .inl (cI, 8, .inl gZ)), (mk, .inl (cI, 256, .inl gK)), (mr, .inl (cI, 512, .inl gR))] 0 0 [(0, .ref m), (1, .int (nI 0)), (2, .int (nI y)), (3, .int b1), (4, .int c1), (5, .int (nI fr))] 25 [.long (lN r1)]
  exact v_lret hE dX9_go_25 (lN r1, ma0, g1, gK, gR, p1, d1) (Rl_oG (by decide) c22.1) rfl rfl
set_option maxRecDepth 100000 in
set_option maxHeartbeats 1000000 in
theorem kX9_go_1 {D : va_G} {cI cJ cT : ClassId} (l : Launch) {m mt mw mb ml mq mz ms mr mi mk mj mn : Nat} {th pc0 dw0 lt0 ic0 ma0 en0 : Int32} {fd sg ln fr e : Nat} {tr : Bool} {tp : Nat → Int32} {b : Nat → Nat} {at0 rd0 dr0 : Int32} {y : Nat} {gW gS gL : Nat → Int64} {W : Nat → Nat} {mm : Nat} {gB gQ gZ gK gR : Nat → Int32} {x y1 z : Nat} {c1 : Int32} (hB : MB tr fd ln sg tp b e) (hfe : fr ≤ e) (hx : x < 2 ^ 31) (hy1 : y1 ≤ 511) (hw1 : 1 ≤ x + 2147483648 * y1) : Fn (S := Int64 × Int32 × (Nat → Int64) × (Nat → Int32) × (Nat → Int32) × Nat × Bool) (gG D cI cJ cT) l yX9_go (.code yX9_go cX9_go 6 (some .long)) (rmD 5) [.ref m, .int (nI 1), .int (nI x), .int (nI y1), .int c1, .int (nI fr)] [(m, .inr (9, [.int th, .int (nI fd), .int pc0, .int dw0, .int lt0, .ref mt, .ref mw, .ref mb, .ref ml, .ref mq, .ref mz, .ref ms, .ref mr, .int ic0, .ref mi, .int (dI tr), .int (nI sg), .int (nI ln), .int at0, .int rd0, .int dr0, .int ma0, .ref mk, .int en0, .ref mj, .ref mn])), (mt, .inl (cI, 16384, .inl tp)), (mw, .inl (cJ, 512, .inr (.inl gW))), (ms, .inl (cJ, 64, .inr (.inl gS))), (mb, .inl (cI, 8, .inl gB)), (ml, .inl (cJ, 512, .inr (.inl gL))), (mq, .inl (cI, 512, .inl gQ)), (mz, .inl (cI, 8, .inl gZ)), (mk, .inl (cI, 256, .inl gK)), (mr, .inl (cI, 512, .inl gR))] (fun u => Rg (sAns b e 1 x y1 z W mm fr) e fr false (mG (nI 1) u.1 u.2.1 u.2.2.2.1) u.2.2.2.2.2.1 u.2.2.2.2.2.2) (fun u => some (.long u.1)) (fun u => [(m, .inr (9, [.int th, .int (nI fd), .int pc0, .int dw0, .int lt0, .ref mt, .ref mw, .ref mb, .ref ml, .ref mq, .ref mz, .ref ms, .ref mr, .int ic0, .ref mi, .int (dI tr), .int (nI sg), .int (nI ln), .int (nI u.2.2.2.2.2.1), .int (nI (u.2.2.2.2.2.1 - fr)), .int (dI u.2.2.2.2.2.2), .int u.2.1, .ref mk, .int en0, .ref mj, .ref mn])), (mt, .inl (cI, 16384, .inl tp)), (mw, .inl (cJ, 512, .inr (.inl gW))), (ms, .inl (cJ, 64, .inr (.inl u.2.2.1))), (mb, .inl (cI, 8, .inl gB)), (ml, .inl (cJ, 512, .inr (.inl gL))), (mq, .inl (cI, 512, .inl gQ)), (mz, .inl (cI, 8, .inl gZ)), (mk, .inl (cI, 256, .inl u.2.2.2.1)), (mr, .inl (cI, 512, .inl u.2.2.2.2.1))]) := by
  refine Fn.intro (by decide) (Nat.le_of_ble_eq_true rfl) ?_
  intro X hX hE hin
  subst hX
  show V (gG D cI cJ cT) X _ cX9_go 6 RX9 _ 0 0 [(0, .ref m), (1, .int (nI 1)), (2, .int (nI x)), (3, .int (nI y1)), (4, .int c1), (5, .int (nI fr))] 0 []
  refine v_aload_n 0 dX9_go_0 rfl rfl ?_
  refine v_iload 5 dX9_go_1 rfl ?_
  refine v_put (ws' := [(m, .inr (9, [.int th, .int (nI fd), .int pc0, .int dw0, .int lt0, .ref mt, .ref mw, .ref mb, .ref ml, .ref mq, .ref mz, .ref ms, .ref mr, .int ic0, .ref mi, .int (dI tr), .int (nI sg), .int (nI ln), .int (nI fr), .int rd0, .int dr0, .int ma0, .ref mk, .int en0, .ref mj, .ref mn])), (mt, .inl (cI, 16384, .inl tp)), (mw, .inl (cJ, 512, .inr (.inl gW))), (ms, .inl (cJ, 64, .inr (.inl gS))), (mb, .inl (cI, 8, .inl gB)), (ml, .inl (cJ, 512, .inr (.inl gL))), (mq, .inl (cI, 512, .inl gQ)), (mz, .inl (cI, 8, .inl gZ)), (mk, .inl (cI, 256, .inl gK)), (mr, .inl (cI, 512, .inl gR))]) fw_SampleDeskModel_81 0 rfl (rfl) (rfl) (Nat.le_of_ble_eq_true rfl) dX9_go_3 rfl ?_
  refine v_aload_n 0 dX9_go_6 rfl rfl ?_
  refine v_iconst (v := nI (fr - fr)) dX9_go_7 (by rw [Nat.sub_self]; decide) ?_
  refine v_put (ws' := [(m, .inr (9, [.int th, .int (nI fd), .int pc0, .int dw0, .int lt0, .ref mt, .ref mw, .ref mb, .ref ml, .ref mq, .ref mz, .ref ms, .ref mr, .int ic0, .ref mi, .int (dI tr), .int (nI sg), .int (nI ln), .int (nI fr), .int (nI (fr - fr)), .int dr0, .int ma0, .ref mk, .int en0, .ref mj, .ref mn])), (mt, .inl (cI, 16384, .inl tp)), (mw, .inl (cJ, 512, .inr (.inl gW))), (ms, .inl (cJ, 64, .inr (.inl gS))), (mb, .inl (cI, 8, .inl gB)), (ml, .inl (cJ, 512, .inr (.inl gL))), (mq, .inl (cI, 512, .inl gQ)), (mz, .inl (cI, 8, .inl gZ)), (mk, .inl (cI, 256, .inl gK)), (mr, .inl (cI, 512, .inl gR))]) fw_SampleDeskModel_93 0 rfl (rfl) (rfl) (Nat.le_of_ble_eq_true rfl) dX9_go_8 rfl ?_
  refine v_aload_n 0 dX9_go_11 rfl rfl ?_
  refine v_iconst (v := dI false) dX9_go_12 (by decide) ?_
  refine v_put (ws' := [(m, .inr (9, [.int th, .int (nI fd), .int pc0, .int dw0, .int lt0, .ref mt, .ref mw, .ref mb, .ref ml, .ref mq, .ref mz, .ref ms, .ref mr, .int ic0, .ref mi, .int (dI tr), .int (nI sg), .int (nI ln), .int (nI fr), .int (nI (fr - fr)), .int (dI false), .int ma0, .ref mk, .int en0, .ref mj, .ref mn])), (mt, .inl (cI, 16384, .inl tp)), (mw, .inl (cJ, 512, .inr (.inl gW))), (ms, .inl (cJ, 64, .inr (.inl gS))), (mb, .inl (cI, 8, .inl gB)), (ml, .inl (cJ, 512, .inr (.inl gL))), (mq, .inl (cI, 512, .inl gQ)), (mz, .inl (cI, 8, .inl gZ)), (mk, .inl (cI, 256, .inl gK)), (mr, .inl (cI, 512, .inl gR))]) fw_SampleDeskModel_77 0 rfl (rfl) (rfl) (Nat.le_of_ble_eq_true rfl) dX9_go_13 rfl ?_
  refine v_iload_n 1 dX9_go_16 rfl rfl ?_
  refine v_if_ne (tgt := 26) dX9_go_17 (by decide) (fun b17 => ?_) (fun b17 => absurd b17 (by decide))
  refine v_iload_n 1 dX9_go_26 rfl rfl ?_
  refine v_iconst (v := nI 1) dX9_go_27 (by decide) ?_
  refine v_icmp_ne (tgt := 45) dX9_go_28 (by decide) (fun b28 => absurd b28 (fun q => q rfl)) (fun b28 => ?_)
  refine v_aload_n 0 dX9_go_31 rfl rfl ?_
  refine v_iload_n 2 dX9_go_32 rfl rfl ?_
  refine v_i2l (v := lN x) dX9_go_33 (nI_l (by omega)) ?_
  refine v_ldc2 (v := lN 2147483648) k_c_SampleDeskModel_168 dX9_go_34 ?_
  refine v_iload_n 3 dX9_go_37 rfl rfl ?_
  refine v_i2l (v := lN y1) dX9_go_38 (nI_l (by omega)) ?_
  refine v_lmul dX9_go_39 ?_
  refine v_topl (y := lN (2147483648 * y1)) (lN_mul _ _) ?_
  refine v_ladd dX9_go_40 ?_
  refine v_topl (y := lN (x + 2147483648 * y1)) (lN_add _ _) ?_
  refine v_callV (as := [.long (lN (x + 2147483648 * y1))]) (rest := []) (ws' := fun u => [(m, .inr (9, [.int th, .int (nI fd), .int pc0, .int dw0, .int lt0, .ref mt, .ref mw, .ref mb, .ref ml, .ref mq, .ref mz, .ref ms, .ref mr, .int ic0, .ref mi, .int (dI tr), .int (nI sg), .int (nI ln), .int (nI u.2.1), .int (nI (u.2.1 - fr)), .int (dI u.2.2), .int ma0, .ref mk, .int en0, .ref mj, .ref mn])), (mt, .inl (cI, 16384, .inl tp)), (mw, .inl (cJ, 512, .inr (.inl gW))), (ms, .inl (cJ, 64, .inr (.inl gS))), (mb, .inl (cI, 8, .inl gB)), (ml, .inl (cJ, 512, .inr (.inl gL))), (mq, .inl (cI, 512, .inl gQ)), (mz, .inl (cI, 8, .inl gZ)), (mk, .inl (cI, 256, .inl gK)), (mr, .inl (cI, 512, .inl gR))]) m_SampleDeskModel_105 (kX9_uniform X.l (m := m) (mt := mt) (mw := mw) (mb := mb) (ml := ml) (mq := mq) (mz := mz) (ms := ms) (mr := mr) (mi := mi) (mk := mk) (mj := mj) (mn := mn) (th := th) (pc0 := pc0) (dw0 := dw0) (lt0 := lt0) (ic0 := ic0) (en0 := en0) (fd := fd) (sg := sg) (ln := ln) (fr := fr) (e := e) (tr := tr) (tp := tp) (b := b) (ma0 := ma0) (p := fr) (dr := false) (nn := x + 2147483648 * y1) hB (Nat.le_refl _) hfe (fun h => nomatch h) (by omega) (by omega)) k_code_X9_uniform [0, 1] 0 rfl rfl rfl rfl dX9_go_41 (Nat.le_of_ble_eq_true rfl) ⟨rfl, rfl, by decide, by decide⟩ ⟨Nat.zero_le _, Nat.zero_le _⟩ rfl rfl (fun _ => rfl) (v_mgU rfl (fun _ => rfl)) ?_
  intro u41 c41
  obtain ⟨r1, p1, d1⟩ := u41
  try dsimp only at c41
  show V (gG D cI cJ cT) X (rmD 5) cX9_go 6 RX9 [(m, .inr (9, [.int th, .int (nI fd), .int pc0, .int dw0, .int lt0, .ref mt, .ref mw, .ref mb, .ref ml, .ref mq, .ref mz, .ref ms, .ref mr, .int ic0, .ref mi, .int (dI tr), .int (nI sg), .int (nI ln), .int (nI p1), .int (nI (p1 - fr)), .int (dI d1), .int ma0, .ref mk, .int en0, .ref mj, .ref mn])), (mt, .inl (cI, 16384, .inl tp)), (mw, .inl (cJ, 512, .inr (.inl gW))), (ms, .inl (cJ, 64, .inr (.inl gS))), (mb, .inl (cI, 8, .inl gB)), (ml, .inl (cJ, 512, .inr (.inl gL))), (mq, .inl (cI, 512, .inl gQ)), (mz, .inl (cI, 8, .inl gZ)), (mk, .inl (cI, 256, .inl gK)), (mr, .inl (cI, 512, .inl gR))] 0 0 [(0, .ref m), (1, .int (nI 1)), (2, .int (nI x)), (3, .int (nI y1)), (4, .int c1), (5, .int (nI fr))] 44 [.long (lN r1)]
  exact v_lret hE dX9_go_44 (lN r1, ma0, gS, gK, gR, p1, d1) (Rl_oG (by decide) c41.1) rfl rfl
set_option maxRecDepth 100000 in
set_option maxHeartbeats 1000000 in
theorem kX9_go_2 {D : va_G} {cI cJ cT : ClassId} (l : Launch) {m mt mw mb ml mq mz ms mr mi mk mj mn : Nat} {th pc0 dw0 lt0 ic0 ma0 en0 : Int32} {fd sg ln fr e : Nat} {tr : Bool} {tp : Nat → Int32} {b : Nat → Nat} {at0 rd0 dr0 : Int32} {y : Nat} {gW gS gL : Nat → Int64} {W : Nat → Nat} {mm : Nat} {gB gQ gZ gK gR : Nat → Int32} {x y1 z : Nat} {c1 : Int32} (hB : MB tr fd ln sg tp b e) (hfe : fr ≤ e) (hx : x ≤ y1) (hy1 : y1 < 2 ^ 31) : Fn (S := Int64 × Int32 × (Nat → Int64) × (Nat → Int32) × (Nat → Int32) × Nat × Bool) (gG D cI cJ cT) l yX9_go (.code yX9_go cX9_go 6 (some .long)) (rmD 5) [.ref m, .int (nI 2), .int (nI x), .int (nI y1), .int c1, .int (nI fr)] [(m, .inr (9, [.int th, .int (nI fd), .int pc0, .int dw0, .int lt0, .ref mt, .ref mw, .ref mb, .ref ml, .ref mq, .ref mz, .ref ms, .ref mr, .int ic0, .ref mi, .int (dI tr), .int (nI sg), .int (nI ln), .int at0, .int rd0, .int dr0, .int ma0, .ref mk, .int en0, .ref mj, .ref mn])), (mt, .inl (cI, 16384, .inl tp)), (mw, .inl (cJ, 512, .inr (.inl gW))), (ms, .inl (cJ, 64, .inr (.inl gS))), (mb, .inl (cI, 8, .inl gB)), (ml, .inl (cJ, 512, .inr (.inl gL))), (mq, .inl (cI, 512, .inl gQ)), (mz, .inl (cI, 8, .inl gZ)), (mk, .inl (cI, 256, .inl gK)), (mr, .inl (cI, 512, .inl gR))] (fun u => Rg (sAns b e 2 x y1 z W mm fr) e fr false (mG (nI 2) u.1 u.2.1 u.2.2.2.1) u.2.2.2.2.2.1 u.2.2.2.2.2.2) (fun u => some (.long u.1)) (fun u => [(m, .inr (9, [.int th, .int (nI fd), .int pc0, .int dw0, .int lt0, .ref mt, .ref mw, .ref mb, .ref ml, .ref mq, .ref mz, .ref ms, .ref mr, .int ic0, .ref mi, .int (dI tr), .int (nI sg), .int (nI ln), .int (nI u.2.2.2.2.2.1), .int (nI (u.2.2.2.2.2.1 - fr)), .int (dI u.2.2.2.2.2.2), .int u.2.1, .ref mk, .int en0, .ref mj, .ref mn])), (mt, .inl (cI, 16384, .inl tp)), (mw, .inl (cJ, 512, .inr (.inl gW))), (ms, .inl (cJ, 64, .inr (.inl u.2.2.1))), (mb, .inl (cI, 8, .inl gB)), (ml, .inl (cJ, 512, .inr (.inl gL))), (mq, .inl (cI, 512, .inl gQ)), (mz, .inl (cI, 8, .inl gZ)), (mk, .inl (cI, 256, .inl u.2.2.2.1)), (mr, .inl (cI, 512, .inl u.2.2.2.2.1))]) := by
  refine Fn.intro (by decide) (Nat.le_of_ble_eq_true rfl) ?_
  intro X hX hE hin
  subst hX
  show V (gG D cI cJ cT) X _ cX9_go 6 RX9 _ 0 0 [(0, .ref m), (1, .int (nI 2)), (2, .int (nI x)), (3, .int (nI y1)), (4, .int c1), (5, .int (nI fr))] 0 []
  refine v_aload_n 0 dX9_go_0 rfl rfl ?_
  refine v_iload 5 dX9_go_1 rfl ?_
  refine v_put (ws' := [(m, .inr (9, [.int th, .int (nI fd), .int pc0, .int dw0, .int lt0, .ref mt, .ref mw, .ref mb, .ref ml, .ref mq, .ref mz, .ref ms, .ref mr, .int ic0, .ref mi, .int (dI tr), .int (nI sg), .int (nI ln), .int (nI fr), .int rd0, .int dr0, .int ma0, .ref mk, .int en0, .ref mj, .ref mn])), (mt, .inl (cI, 16384, .inl tp)), (mw, .inl (cJ, 512, .inr (.inl gW))), (ms, .inl (cJ, 64, .inr (.inl gS))), (mb, .inl (cI, 8, .inl gB)), (ml, .inl (cJ, 512, .inr (.inl gL))), (mq, .inl (cI, 512, .inl gQ)), (mz, .inl (cI, 8, .inl gZ)), (mk, .inl (cI, 256, .inl gK)), (mr, .inl (cI, 512, .inl gR))]) fw_SampleDeskModel_81 0 rfl (rfl) (rfl) (Nat.le_of_ble_eq_true rfl) dX9_go_3 rfl ?_
  refine v_aload_n 0 dX9_go_6 rfl rfl ?_
  refine v_iconst (v := nI (fr - fr)) dX9_go_7 (by rw [Nat.sub_self]; decide) ?_
  refine v_put (ws' := [(m, .inr (9, [.int th, .int (nI fd), .int pc0, .int dw0, .int lt0, .ref mt, .ref mw, .ref mb, .ref ml, .ref mq, .ref mz, .ref ms, .ref mr, .int ic0, .ref mi, .int (dI tr), .int (nI sg), .int (nI ln), .int (nI fr), .int (nI (fr - fr)), .int dr0, .int ma0, .ref mk, .int en0, .ref mj, .ref mn])), (mt, .inl (cI, 16384, .inl tp)), (mw, .inl (cJ, 512, .inr (.inl gW))), (ms, .inl (cJ, 64, .inr (.inl gS))), (mb, .inl (cI, 8, .inl gB)), (ml, .inl (cJ, 512, .inr (.inl gL))), (mq, .inl (cI, 512, .inl gQ)), (mz, .inl (cI, 8, .inl gZ)), (mk, .inl (cI, 256, .inl gK)), (mr, .inl (cI, 512, .inl gR))]) fw_SampleDeskModel_93 0 rfl (rfl) (rfl) (Nat.le_of_ble_eq_true rfl) dX9_go_8 rfl ?_
  refine v_aload_n 0 dX9_go_11 rfl rfl ?_
  refine v_iconst (v := dI false) dX9_go_12 (by decide) ?_
  refine v_put (ws' := [(m, .inr (9, [.int th, .int (nI fd), .int pc0, .int dw0, .int lt0, .ref mt, .ref mw, .ref mb, .ref ml, .ref mq, .ref mz, .ref ms, .ref mr, .int ic0, .ref mi, .int (dI tr), .int (nI sg), .int (nI ln), .int (nI fr), .int (nI (fr - fr)), .int (dI false), .int ma0, .ref mk, .int en0, .ref mj, .ref mn])), (mt, .inl (cI, 16384, .inl tp)), (mw, .inl (cJ, 512, .inr (.inl gW))), (ms, .inl (cJ, 64, .inr (.inl gS))), (mb, .inl (cI, 8, .inl gB)), (ml, .inl (cJ, 512, .inr (.inl gL))), (mq, .inl (cI, 512, .inl gQ)), (mz, .inl (cI, 8, .inl gZ)), (mk, .inl (cI, 256, .inl gK)), (mr, .inl (cI, 512, .inl gR))]) fw_SampleDeskModel_77 0 rfl (rfl) (rfl) (Nat.le_of_ble_eq_true rfl) dX9_go_13 rfl ?_
  refine v_iload_n 1 dX9_go_16 rfl rfl ?_
  refine v_if_ne (tgt := 26) dX9_go_17 (by decide) (fun b17 => ?_) (fun b17 => absurd b17 (by decide))
  refine v_iload_n 1 dX9_go_26 rfl rfl ?_
  refine v_iconst (v := nI 1) dX9_go_27 (by decide) ?_
  refine v_icmp_ne (tgt := 45) dX9_go_28 (by decide) (fun b28 => ?_) (fun b28 => absurd b28 (by decide))
  refine v_iload_n 1 dX9_go_45 rfl rfl ?_
  refine v_iconst (v := nI 2) dX9_go_46 (by decide) ?_
  refine v_icmp_ne (tgt := 60) dX9_go_47 (by decide) (fun b47 => absurd b47 (fun q => q rfl)) (fun b47 => ?_)
  refine v_aload_n 0 dX9_go_50 rfl rfl ?_
  refine v_iload_n 2 dX9_go_51 rfl rfl ?_
  refine v_i2l (v := lN x) dX9_go_52 (nI_l (by omega)) ?_
  refine v_iload_n 3 dX9_go_53 rfl rfl ?_
  refine v_i2l (v := lN y1) dX9_go_54 (nI_l (by omega)) ?_
  refine v_callV (as := [.long (lN x), .long (lN y1)]) (rest := []) (ws' := fun u => [(m, .inr (9, [.int th, .int (nI fd), .int pc0, .int dw0, .int lt0, .ref mt, .ref mw, .ref mb, .ref ml, .ref mq, .ref mz, .ref ms, .ref mr, .int ic0, .ref mi, .int (dI tr), .int (nI sg), .int (nI ln), .int (nI u.2.1), .int (nI (u.2.1 - fr)), .int (dI u.2.2), .int ma0, .ref mk, .int en0, .ref mj, .ref mn])), (mt, .inl (cI, 16384, .inl tp)), (mw, .inl (cJ, 512, .inr (.inl gW))), (ms, .inl (cJ, 64, .inr (.inl gS))), (mb, .inl (cI, 8, .inl gB)), (ml, .inl (cJ, 512, .inr (.inl gL))), (mq, .inl (cI, 512, .inl gQ)), (mz, .inl (cI, 8, .inl gZ)), (mk, .inl (cI, 256, .inl gK)), (mr, .inl (cI, 512, .inl gR))]) m_SampleDeskModel_109 (kX9_coin X.l (m := m) (mt := mt) (mw := mw) (mb := mb) (ml := ml) (mq := mq) (mz := mz) (ms := ms) (mr := mr) (mi := mi) (mk := mk) (mj := mj) (mn := mn) (th := th) (pc0 := pc0) (dw0 := dw0) (lt0 := lt0) (ic0 := ic0) (en0 := en0) (fd := fd) (sg := sg) (ln := ln) (fr := fr) (e := e) (tr := tr) (tp := tp) (b := b) (ma0 := ma0) (p := fr) (dr := false) (num := x) (den := y1) hB (Nat.le_refl _) hfe (fun h => nomatch h) (by omega) hx) k_code_X9_coin [0, 1] 0 rfl rfl rfl rfl dX9_go_55 (Nat.le_of_ble_eq_true rfl) ⟨rfl, rfl, by decide, by decide⟩ ⟨Nat.zero_le _, Nat.zero_le _⟩ rfl rfl (fun _ => rfl) (v_mgU rfl (fun _ => rfl)) ?_
  intro u55 c55
  obtain ⟨r1, p1, d1⟩ := u55
  try dsimp only at c55
  show V (gG D cI cJ cT) X (rmD 5) cX9_go 6 RX9 [(m, .inr (9, [.int th, .int (nI fd), .int pc0, .int dw0, .int lt0, .ref mt, .ref mw, .ref mb, .ref ml, .ref mq, .ref mz, .ref ms, .ref mr, .int ic0, .ref mi, .int (dI tr), .int (nI sg), .int (nI ln), .int (nI p1), .int (nI (p1 - fr)), .int (dI d1), .int ma0, .ref mk, .int en0, .ref mj, .ref mn])), (mt, .inl (cI, 16384, .inl tp)), (mw, .inl (cJ, 512, .inr (.inl gW))), (ms, .inl (cJ, 64, .inr (.inl gS))), (mb, .inl (cI, 8, .inl gB)), (ml, .inl (cJ, 512, .inr (.inl gL))), (mq, .inl (cI, 512, .inl gQ)), (mz, .inl (cI, 8, .inl gZ)), (mk, .inl (cI, 256, .inl gK)), (mr, .inl (cI, 512, .inl gR))] 0 0 [(0, .ref m), (1, .int (nI 2)), (2, .int (nI x)), (3, .int (nI y1)), (4, .int c1), (5, .int (nI fr))] 58 [.int (nI r1)]
  have hr1 : r1 ≤ 1 := c55.2
  refine v_i2l (v := lN r1) dX9_go_58 (nI_l (by omega)) ?_
  exact v_lret hE dX9_go_59 (lN r1, ma0, gS, gK, gR, p1, d1) (Rl_oG (by decide) c55.1) rfl rfl
set_option maxRecDepth 100000 in
set_option maxHeartbeats 1000000 in
theorem kX9_go_3 {D : va_G} {cI cJ cT : ClassId} (l : Launch) {m mt mw mb ml mq mz ms mr mi mk mj mn : Nat} {th pc0 dw0 lt0 ic0 ma0 en0 : Int32} {fd sg ln fr e : Nat} {tr : Bool} {tp : Nat → Int32} {b : Nat → Nat} {at0 rd0 dr0 : Int32} {y : Nat} {gW gS gL : Nat → Int64} {W : Nat → Nat} {mm : Nat} {gB gQ gZ gK gR : Nat → Int32} {x y1 z : Nat} (hB : MB tr fd ln sg tp b e) (hfe : fr ≤ e) (hx : x ≤ 1000) (hy1 : y1 ≤ z) (hz : z < 2 ^ 31) : Fn (S := Int64 × Int32 × (Nat → Int64) × (Nat → Int32) × (Nat → Int32) × Nat × Bool) (gG D cI cJ cT) l yX9_go (.code yX9_go cX9_go 6 (some .long)) (rmD 5) [.ref m, .int (nI 3), .int (nI x), .int (nI y1), .int (nI z), .int (nI fr)] [(m, .inr (9, [.int th, .int (nI fd), .int pc0, .int dw0, .int lt0, .ref mt, .ref mw, .ref mb, .ref ml, .ref mq, .ref mz, .ref ms, .ref mr, .int ic0, .ref mi, .int (dI tr), .int (nI sg), .int (nI ln), .int at0, .int rd0, .int dr0, .int ma0, .ref mk, .int en0, .ref mj, .ref mn])), (mt, .inl (cI, 16384, .inl tp)), (mw, .inl (cJ, 512, .inr (.inl gW))), (ms, .inl (cJ, 64, .inr (.inl gS))), (mb, .inl (cI, 8, .inl gB)), (ml, .inl (cJ, 512, .inr (.inl gL))), (mq, .inl (cI, 512, .inl gQ)), (mz, .inl (cI, 8, .inl gZ)), (mk, .inl (cI, 256, .inl gK)), (mr, .inl (cI, 512, .inl gR))] (fun u => Rg (sAns b e 3 x y1 z W mm fr) e fr false (mG (nI 3) u.1 u.2.1 u.2.2.2.1) u.2.2.2.2.2.1 u.2.2.2.2.2.2) (fun u => some (.long u.1)) (fun u => [(m, .inr (9, [.int th, .int (nI fd), .int pc0, .int dw0, .int lt0, .ref mt, .ref mw, .ref mb, .ref ml, .ref mq, .ref mz, .ref ms, .ref mr, .int ic0, .ref mi, .int (dI tr), .int (nI sg), .int (nI ln), .int (nI u.2.2.2.2.2.1), .int (nI (u.2.2.2.2.2.1 - fr)), .int (dI u.2.2.2.2.2.2), .int u.2.1, .ref mk, .int en0, .ref mj, .ref mn])), (mt, .inl (cI, 16384, .inl tp)), (mw, .inl (cJ, 512, .inr (.inl gW))), (ms, .inl (cJ, 64, .inr (.inl u.2.2.1))), (mb, .inl (cI, 8, .inl gB)), (ml, .inl (cJ, 512, .inr (.inl gL))), (mq, .inl (cI, 512, .inl gQ)), (mz, .inl (cI, 8, .inl gZ)), (mk, .inl (cI, 256, .inl u.2.2.2.1)), (mr, .inl (cI, 512, .inl u.2.2.2.2.1))]) := by
  refine Fn.intro (by decide) (Nat.le_of_ble_eq_true rfl) ?_
  intro X hX hE hin
  subst hX
  show V (gG D cI cJ cT) X _ cX9_go 6 RX9 _ 0 0 [(0, .ref m), (1, .int (nI 3)), (2, .int (nI x)), (3, .int (nI y1)), (4, .int (nI z)), (5, .int (nI fr))] 0 []
  refine v_aload_n 0 dX9_go_0 rfl rfl ?_
  refine v_iload 5 dX9_go_1 rfl ?_
  refine v_put (ws' := [(m, .inr (9, [.int th, .int (nI fd), .int pc0, .int dw0, .int lt0, .ref mt, .ref mw, .ref mb, .ref ml, .ref mq, .ref mz, .ref ms, .ref mr, .int ic0, .ref mi, .int (dI tr), .int (nI sg), .int (nI ln), .int (nI fr), .int rd0, .int dr0, .int ma0, .ref mk, .int en0, .ref mj, .ref mn])), (mt, .inl (cI, 16384, .inl tp)), (mw, .inl (cJ, 512, .inr (.inl gW))), (ms, .inl (cJ, 64, .inr (.inl gS))), (mb, .inl (cI, 8, .inl gB)), (ml, .inl (cJ, 512, .inr (.inl gL))), (mq, .inl (cI, 512, .inl gQ)), (mz, .inl (cI, 8, .inl gZ)), (mk, .inl (cI, 256, .inl gK)), (mr, .inl (cI, 512, .inl gR))]) fw_SampleDeskModel_81 0 rfl (rfl) (rfl) (Nat.le_of_ble_eq_true rfl) dX9_go_3 rfl ?_
  refine v_aload_n 0 dX9_go_6 rfl rfl ?_
  refine v_iconst (v := nI (fr - fr)) dX9_go_7 (by rw [Nat.sub_self]; decide) ?_
  refine v_put (ws' := [(m, .inr (9, [.int th, .int (nI fd), .int pc0, .int dw0, .int lt0, .ref mt, .ref mw, .ref mb, .ref ml, .ref mq, .ref mz, .ref ms, .ref mr, .int ic0, .ref mi, .int (dI tr), .int (nI sg), .int (nI ln), .int (nI fr), .int (nI (fr - fr)), .int dr0, .int ma0, .ref mk, .int en0, .ref mj, .ref mn])), (mt, .inl (cI, 16384, .inl tp)), (mw, .inl (cJ, 512, .inr (.inl gW))), (ms, .inl (cJ, 64, .inr (.inl gS))), (mb, .inl (cI, 8, .inl gB)), (ml, .inl (cJ, 512, .inr (.inl gL))), (mq, .inl (cI, 512, .inl gQ)), (mz, .inl (cI, 8, .inl gZ)), (mk, .inl (cI, 256, .inl gK)), (mr, .inl (cI, 512, .inl gR))]) fw_SampleDeskModel_93 0 rfl (rfl) (rfl) (Nat.le_of_ble_eq_true rfl) dX9_go_8 rfl ?_
  refine v_aload_n 0 dX9_go_11 rfl rfl ?_
  refine v_iconst (v := dI false) dX9_go_12 (by decide) ?_
  refine v_put (ws' := [(m, .inr (9, [.int th, .int (nI fd), .int pc0, .int dw0, .int lt0, .ref mt, .ref mw, .ref mb, .ref ml, .ref mq, .ref mz, .ref ms, .ref mr, .int ic0, .ref mi, .int (dI tr), .int (nI sg), .int (nI ln), .int (nI fr), .int (nI (fr - fr)), .int (dI false), .int ma0, .ref mk, .int en0, .ref mj, .ref mn])), (mt, .inl (cI, 16384, .inl tp)), (mw, .inl (cJ, 512, .inr (.inl gW))), (ms, .inl (cJ, 64, .inr (.inl gS))), (mb, .inl (cI, 8, .inl gB)), (ml, .inl (cJ, 512, .inr (.inl gL))), (mq, .inl (cI, 512, .inl gQ)), (mz, .inl (cI, 8, .inl gZ)), (mk, .inl (cI, 256, .inl gK)), (mr, .inl (cI, 512, .inl gR))]) fw_SampleDeskModel_77 0 rfl (rfl) (rfl) (Nat.le_of_ble_eq_true rfl) dX9_go_13 rfl ?_
  refine v_iload_n 1 dX9_go_16 rfl rfl ?_
  refine v_if_ne (tgt := 26) dX9_go_17 (by decide) (fun b17 => ?_) (fun b17 => absurd b17 (by decide))
  refine v_iload_n 1 dX9_go_26 rfl rfl ?_
  refine v_iconst (v := nI 1) dX9_go_27 (by decide) ?_
  refine v_icmp_ne (tgt := 45) dX9_go_28 (by decide) (fun b28 => ?_) (fun b28 => absurd b28 (by decide))
  refine v_iload_n 1 dX9_go_45 rfl rfl ?_
  refine v_iconst (v := nI 2) dX9_go_46 (by decide) ?_
  refine v_icmp_ne (tgt := 60) dX9_go_47 (by decide) (fun b47 => ?_) (fun b47 => absurd b47 (by decide))
  refine v_iload_n 1 dX9_go_60 rfl rfl ?_
  refine v_iconst (v := nI 3) dX9_go_61 (by decide) ?_
  refine v_icmp_ne (tgt := 74) dX9_go_62 (by decide) (fun b62 => absurd b62 (fun q => q rfl)) (fun b62 => ?_)
  refine v_aload_n 0 dX9_go_65 rfl rfl ?_
  refine v_iload_n 2 dX9_go_66 rfl rfl ?_
  refine v_iload_n 3 dX9_go_67 rfl rfl ?_
  refine v_iload 4 dX9_go_68 rfl ?_
  refine v_callV (as := [.int (nI x), .int (nI y1), .int (nI z)]) (rest := []) (ws' := fun u => [(m, .inr (9, [.int th, .int (nI fd), .int pc0, .int dw0, .int lt0, .ref mt, .ref mw, .ref mb, .ref ml, .ref mq, .ref mz, .ref ms, .ref mr, .int ic0, .ref mi, .int (dI tr), .int (nI sg), .int (nI ln), .int (nI u.2.1), .int (nI (u.2.1 - fr)), .int (dI u.2.2), .int ma0, .ref mk, .int en0, .ref mj, .ref mn])), (mt, .inl (cI, 16384, .inl tp)), (mw, .inl (cJ, 512, .inr (.inl gW))), (ms, .inl (cJ, 64, .inr (.inl gS))), (mb, .inl (cI, 8, .inl gB)), (ml, .inl (cJ, 512, .inr (.inl gL))), (mq, .inl (cI, 512, .inl gQ)), (mz, .inl (cI, 8, .inl gZ)), (mk, .inl (cI, 256, .inl gK)), (mr, .inl (cI, 512, .inl gR))]) m_SampleDeskModel_170 (kX9_binomial X.l (m := m) (mt := mt) (mw := mw) (mb := mb) (ml := ml) (mq := mq) (mz := mz) (ms := ms) (mr := mr) (mi := mi) (mk := mk) (mj := mj) (mn := mn) (th := th) (pc0 := pc0) (dw0 := dw0) (lt0 := lt0) (ic0 := ic0) (en0 := en0) (fd := fd) (sg := sg) (ln := ln) (fr := fr) (e := e) (tr := tr) (tp := tp) (b := b) (ma0 := ma0) (p := fr) (dr := false) (nn := x) (num := y1) (den := z) hB (Nat.le_refl _) hfe (fun h => nomatch h) hx hy1 hz) k_code_X9_binomial [0, 1] 0 rfl rfl rfl rfl dX9_go_70 (Nat.le_of_ble_eq_true rfl) ⟨rfl, rfl, by decide, by decide⟩ ⟨Nat.zero_le _, Nat.zero_le _⟩ rfl rfl (fun _ => rfl) (v_mgU rfl (fun _ => rfl)) ?_
  intro u70 c70
  obtain ⟨r1, p1, d1⟩ := u70
  try dsimp only at c70
  show V (gG D cI cJ cT) X (rmD 5) cX9_go 6 RX9 [(m, .inr (9, [.int th, .int (nI fd), .int pc0, .int dw0, .int lt0, .ref mt, .ref mw, .ref mb, .ref ml, .ref mq, .ref mz, .ref ms, .ref mr, .int ic0, .ref mi, .int (dI tr), .int (nI sg), .int (nI ln), .int (nI p1), .int (nI (p1 - fr)), .int (dI d1), .int ma0, .ref mk, .int en0, .ref mj, .ref mn])), (mt, .inl (cI, 16384, .inl tp)), (mw, .inl (cJ, 512, .inr (.inl gW))), (ms, .inl (cJ, 64, .inr (.inl gS))), (mb, .inl (cI, 8, .inl gB)), (ml, .inl (cJ, 512, .inr (.inl gL))), (mq, .inl (cI, 512, .inl gQ)), (mz, .inl (cI, 8, .inl gZ)), (mk, .inl (cI, 256, .inl gK)), (mr, .inl (cI, 512, .inl gR))] 0 0 [(0, .ref m), (1, .int (nI 3)), (2, .int (nI x)), (3, .int (nI y1)), (4, .int (nI z)), (5, .int (nI fr))] 73 [.long (lN r1)]
  exact v_lret hE dX9_go_73 (lN r1, ma0, gS, gK, gR, p1, d1) (Rl_oG (by decide) c70.1) rfl rfl
set_option maxRecDepth 100000 in
set_option maxHeartbeats 1000000 in
theorem kX9_go_4 {D : va_G} {cI cJ cT : ClassId} (l : Launch) {m mt mw mb ml mq mz ms mr mi mk mj mn : Nat} {th pc0 dw0 lt0 ic0 ma0 en0 : Int32} {fd sg ln fr e : Nat} {tr : Bool} {tp : Nat → Int32} {b : Nat → Nat} {at0 rd0 dr0 : Int32} {y : Nat} {gW gS gL : Nat → Int64} {W : Nat → Nat} {mm : Nat} {gB gQ gZ gK gR : Nat → Int32} {x y1 z : Nat} (hB : MB tr fd ln sg tp b e) (hfe : fr ≤ e) (hx : x ≤ y1) (hy1 : y1 < 2 ^ 31) (hz : z ≤ 100000) : Fn (S := Int64 × Int32 × (Nat → Int64) × (Nat → Int32) × (Nat → Int32) × Nat × Bool) (gG D cI cJ cT) l yX9_go (.code yX9_go cX9_go 6 (some .long)) (rmD 5) [.ref m, .int (nI 4), .int (nI x), .int (nI y1), .int (nI z), .int (nI fr)] [(m, .inr (9, [.int th, .int (nI fd), .int pc0, .int dw0, .int lt0, .ref mt, .ref mw, .ref mb, .ref ml, .ref mq, .ref mz, .ref ms, .ref mr, .int ic0, .ref mi, .int (dI tr), .int (nI sg), .int (nI ln), .int at0, .int rd0, .int dr0, .int ma0, .ref mk, .int en0, .ref mj, .ref mn])), (mt, .inl (cI, 16384, .inl tp)), (mw, .inl (cJ, 512, .inr (.inl gW))), (ms, .inl (cJ, 64, .inr (.inl gS))), (mb, .inl (cI, 8, .inl gB)), (ml, .inl (cJ, 512, .inr (.inl gL))), (mq, .inl (cI, 512, .inl gQ)), (mz, .inl (cI, 8, .inl gZ)), (mk, .inl (cI, 256, .inl gK)), (mr, .inl (cI, 512, .inl gR))] (fun u => Rg (sAns b e 4 x y1 z W mm fr) e fr false (mG (nI 4) u.1 u.2.1 u.2.2.2.1) u.2.2.2.2.2.1 u.2.2.2.2.2.2) (fun u => some (.long u.1)) (fun u => [(m, .inr (9, [.int th, .int (nI fd), .int pc0, .int dw0, .int lt0, .ref mt, .ref mw, .ref mb, .ref ml, .ref mq, .ref mz, .ref ms, .ref mr, .int ic0, .ref mi, .int (dI tr), .int (nI sg), .int (nI ln), .int (nI u.2.2.2.2.2.1), .int (nI (u.2.2.2.2.2.1 - fr)), .int (dI u.2.2.2.2.2.2), .int u.2.1, .ref mk, .int en0, .ref mj, .ref mn])), (mt, .inl (cI, 16384, .inl tp)), (mw, .inl (cJ, 512, .inr (.inl gW))), (ms, .inl (cJ, 64, .inr (.inl u.2.2.1))), (mb, .inl (cI, 8, .inl gB)), (ml, .inl (cJ, 512, .inr (.inl gL))), (mq, .inl (cI, 512, .inl gQ)), (mz, .inl (cI, 8, .inl gZ)), (mk, .inl (cI, 256, .inl u.2.2.2.1)), (mr, .inl (cI, 512, .inl u.2.2.2.2.1))]) := by
  refine Fn.intro (by decide) (Nat.le_of_ble_eq_true rfl) ?_
  intro X hX hE hin
  subst hX
  show V (gG D cI cJ cT) X _ cX9_go 6 RX9 _ 0 0 [(0, .ref m), (1, .int (nI 4)), (2, .int (nI x)), (3, .int (nI y1)), (4, .int (nI z)), (5, .int (nI fr))] 0 []
  refine v_aload_n 0 dX9_go_0 rfl rfl ?_
  refine v_iload 5 dX9_go_1 rfl ?_
  refine v_put (ws' := [(m, .inr (9, [.int th, .int (nI fd), .int pc0, .int dw0, .int lt0, .ref mt, .ref mw, .ref mb, .ref ml, .ref mq, .ref mz, .ref ms, .ref mr, .int ic0, .ref mi, .int (dI tr), .int (nI sg), .int (nI ln), .int (nI fr), .int rd0, .int dr0, .int ma0, .ref mk, .int en0, .ref mj, .ref mn])), (mt, .inl (cI, 16384, .inl tp)), (mw, .inl (cJ, 512, .inr (.inl gW))), (ms, .inl (cJ, 64, .inr (.inl gS))), (mb, .inl (cI, 8, .inl gB)), (ml, .inl (cJ, 512, .inr (.inl gL))), (mq, .inl (cI, 512, .inl gQ)), (mz, .inl (cI, 8, .inl gZ)), (mk, .inl (cI, 256, .inl gK)), (mr, .inl (cI, 512, .inl gR))]) fw_SampleDeskModel_81 0 rfl (rfl) (rfl) (Nat.le_of_ble_eq_true rfl) dX9_go_3 rfl ?_
  refine v_aload_n 0 dX9_go_6 rfl rfl ?_
  refine v_iconst (v := nI (fr - fr)) dX9_go_7 (by rw [Nat.sub_self]; decide) ?_
  refine v_put (ws' := [(m, .inr (9, [.int th, .int (nI fd), .int pc0, .int dw0, .int lt0, .ref mt, .ref mw, .ref mb, .ref ml, .ref mq, .ref mz, .ref ms, .ref mr, .int ic0, .ref mi, .int (dI tr), .int (nI sg), .int (nI ln), .int (nI fr), .int (nI (fr - fr)), .int dr0, .int ma0, .ref mk, .int en0, .ref mj, .ref mn])), (mt, .inl (cI, 16384, .inl tp)), (mw, .inl (cJ, 512, .inr (.inl gW))), (ms, .inl (cJ, 64, .inr (.inl gS))), (mb, .inl (cI, 8, .inl gB)), (ml, .inl (cJ, 512, .inr (.inl gL))), (mq, .inl (cI, 512, .inl gQ)), (mz, .inl (cI, 8, .inl gZ)), (mk, .inl (cI, 256, .inl gK)), (mr, .inl (cI, 512, .inl gR))]) fw_SampleDeskModel_93 0 rfl (rfl) (rfl) (Nat.le_of_ble_eq_true rfl) dX9_go_8 rfl ?_
  refine v_aload_n 0 dX9_go_11 rfl rfl ?_
  refine v_iconst (v := dI false) dX9_go_12 (by decide) ?_
  refine v_put (ws' := [(m, .inr (9, [.int th, .int (nI fd), .int pc0, .int dw0, .int lt0, .ref mt, .ref mw, .ref mb, .ref ml, .ref mq, .ref mz, .ref ms, .ref mr, .int ic0, .ref mi, .int (dI tr), .int (nI sg), .int (nI ln), .int (nI fr), .int (nI (fr - fr)), .int (dI false), .int ma0, .ref mk, .int en0, .ref mj, .ref mn])), (mt, .inl (cI, 16384, .inl tp)), (mw, .inl (cJ, 512, .inr (.inl gW))), (ms, .inl (cJ, 64, .inr (.inl gS))), (mb, .inl (cI, 8, .inl gB)), (ml, .inl (cJ, 512, .inr (.inl gL))), (mq, .inl (cI, 512, .inl gQ)), (mz, .inl (cI, 8, .inl gZ)), (mk, .inl (cI, 256, .inl gK)), (mr, .inl (cI, 512, .inl gR))]) fw_SampleDeskModel_77 0 rfl (rfl) (rfl) (Nat.le_of_ble_eq_true rfl) dX9_go_13 rfl ?_
  refine v_iload_n 1 dX9_go_16 rfl rfl ?_
  refine v_if_ne (tgt := 26) dX9_go_17 (by decide) (fun b17 => ?_) (fun b17 => absurd b17 (by decide))
  refine v_iload_n 1 dX9_go_26 rfl rfl ?_
  refine v_iconst (v := nI 1) dX9_go_27 (by decide) ?_
  refine v_icmp_ne (tgt := 45) dX9_go_28 (by decide) (fun b28 => ?_) (fun b28 => absurd b28 (by decide))
  refine v_iload_n 1 dX9_go_45 rfl rfl ?_
  refine v_iconst (v := nI 2) dX9_go_46 (by decide) ?_
  refine v_icmp_ne (tgt := 60) dX9_go_47 (by decide) (fun b47 => ?_) (fun b47 => absurd b47 (by decide))
  refine v_iload_n 1 dX9_go_60 rfl rfl ?_
  refine v_iconst (v := nI 3) dX9_go_61 (by decide) ?_
  refine v_icmp_ne (tgt := 74) dX9_go_62 (by decide) (fun b62 => ?_) (fun b62 => absurd b62 (by decide))
  refine v_iload_n 1 dX9_go_74 rfl rfl ?_
  refine v_iconst (v := nI 4) dX9_go_75 (by decide) ?_
  refine v_icmp_ne (tgt := 88) dX9_go_76 (by decide) (fun b76 => absurd b76 (fun q => q rfl)) (fun b76 => ?_)
  refine v_aload_n 0 dX9_go_79 rfl rfl ?_
  refine v_iload_n 2 dX9_go_80 rfl rfl ?_
  refine v_iload_n 3 dX9_go_81 rfl rfl ?_
  refine v_iload 4 dX9_go_82 rfl ?_
  refine v_callV (as := [.int (nI x), .int (nI y1), .int (nI z)]) (rest := []) (ws' := fun u => [(m, .inr (9, [.int th, .int (nI fd), .int pc0, .int dw0, .int lt0, .ref mt, .ref mw, .ref mb, .ref ml, .ref mq, .ref mz, .ref ms, .ref mr, .int ic0, .ref mi, .int (dI tr), .int (nI sg), .int (nI ln), .int (nI u.2.1), .int (nI (u.2.1 - fr)), .int (dI u.2.2), .int ma0, .ref mk, .int en0, .ref mj, .ref mn])), (mt, .inl (cI, 16384, .inl tp)), (mw, .inl (cJ, 512, .inr (.inl gW))), (ms, .inl (cJ, 64, .inr (.inl gS))), (mb, .inl (cI, 8, .inl gB)), (ml, .inl (cJ, 512, .inr (.inl gL))), (mq, .inl (cI, 512, .inl gQ)), (mz, .inl (cI, 8, .inl gZ)), (mk, .inl (cI, 256, .inl gK)), (mr, .inl (cI, 512, .inl gR))]) m_SampleDeskModel_174 (kX9_geometric X.l (m := m) (mt := mt) (mw := mw) (mb := mb) (ml := ml) (mq := mq) (mz := mz) (ms := ms) (mr := mr) (mi := mi) (mk := mk) (mj := mj) (mn := mn) (th := th) (pc0 := pc0) (dw0 := dw0) (lt0 := lt0) (ic0 := ic0) (en0 := en0) (fd := fd) (sg := sg) (ln := ln) (fr := fr) (e := e) (tr := tr) (tp := tp) (b := b) (ma0 := ma0) (p := fr) (dr := false) (num := x) (den := y1) (cap := z) hB (Nat.le_refl _) hfe (fun h => nomatch h) hz hx hy1) k_code_X9_geometric [0, 1] 0 rfl rfl rfl rfl dX9_go_84 (Nat.le_of_ble_eq_true rfl) ⟨rfl, rfl, by decide, by decide⟩ ⟨Nat.zero_le _, Nat.zero_le _⟩ rfl rfl (fun _ => rfl) (v_mgU rfl (fun _ => rfl)) ?_
  intro u84 c84
  obtain ⟨r1, p1, d1⟩ := u84
  try dsimp only at c84
  show V (gG D cI cJ cT) X (rmD 5) cX9_go 6 RX9 [(m, .inr (9, [.int th, .int (nI fd), .int pc0, .int dw0, .int lt0, .ref mt, .ref mw, .ref mb, .ref ml, .ref mq, .ref mz, .ref ms, .ref mr, .int ic0, .ref mi, .int (dI tr), .int (nI sg), .int (nI ln), .int (nI p1), .int (nI (p1 - fr)), .int (dI d1), .int ma0, .ref mk, .int en0, .ref mj, .ref mn])), (mt, .inl (cI, 16384, .inl tp)), (mw, .inl (cJ, 512, .inr (.inl gW))), (ms, .inl (cJ, 64, .inr (.inl gS))), (mb, .inl (cI, 8, .inl gB)), (ml, .inl (cJ, 512, .inr (.inl gL))), (mq, .inl (cI, 512, .inl gQ)), (mz, .inl (cI, 8, .inl gZ)), (mk, .inl (cI, 256, .inl gK)), (mr, .inl (cI, 512, .inl gR))] 0 0 [(0, .ref m), (1, .int (nI 4)), (2, .int (nI x)), (3, .int (nI y1)), (4, .int (nI z)), (5, .int (nI fr))] 87 [.long (lN r1)]
  exact v_lret hE dX9_go_87 (lN r1, ma0, gS, gK, gR, p1, d1) (Rl_oG (by decide) c84.1) rfl rfl
set_option maxRecDepth 100000 in
set_option maxHeartbeats 1000000 in
theorem kX9_go_5 {D : va_G} {cI cJ cT : ClassId} (l : Launch) {m mt mw mb ml mq mz ms mr mi mk mj mn : Nat} {th pc0 dw0 lt0 ic0 ma0 en0 : Int32} {fd sg ln fr e : Nat} {tr : Bool} {tp : Nat → Int32} {b : Nat → Nat} {at0 rd0 dr0 : Int32} {y : Nat} {gW gS gL : Nat → Int64} {W : Nat → Nat} {mm : Nat} {gB gQ gZ gK gR : Nat → Int32} {x y1 z : Nat} {c1 : Int32} (hB : MB tr fd ln sg tp b e) (hfe : fr ≤ e) (hx : x < 2 ^ 31) (hy0 : 0 < y1) (hxy : x ≤ 64 * y1) (hy1 : y1 < 2 ^ 31) : Fn (S := Int64 × Int32 × (Nat → Int64) × (Nat → Int32) × (Nat → Int32) × Nat × Bool) (gG D cI cJ cT) l yX9_go (.code yX9_go cX9_go 6 (some .long)) (rmD 5) [.ref m, .int (nI 5), .int (nI x), .int (nI y1), .int c1, .int (nI fr)] [(m, .inr (9, [.int th, .int (nI fd), .int pc0, .int dw0, .int lt0, .ref mt, .ref mw, .ref mb, .ref ml, .ref mq, .ref mz, .ref ms, .ref mr, .int ic0, .ref mi, .int (dI tr), .int (nI sg), .int (nI ln), .int at0, .int rd0, .int dr0, .int ma0, .ref mk, .int en0, .ref mj, .ref mn])), (mt, .inl (cI, 16384, .inl tp)), (mw, .inl (cJ, 512, .inr (.inl gW))), (ms, .inl (cJ, 64, .inr (.inl gS))), (mb, .inl (cI, 8, .inl gB)), (ml, .inl (cJ, 512, .inr (.inl gL))), (mq, .inl (cI, 512, .inl gQ)), (mz, .inl (cI, 8, .inl gZ)), (mk, .inl (cI, 256, .inl gK)), (mr, .inl (cI, 512, .inl gR))] (fun u => Rg (sAns b e 5 x y1 z W mm fr) e fr false (mG (nI 5) u.1 u.2.1 u.2.2.2.1) u.2.2.2.2.2.1 u.2.2.2.2.2.2) (fun u => some (.long u.1)) (fun u => [(m, .inr (9, [.int th, .int (nI fd), .int pc0, .int dw0, .int lt0, .ref mt, .ref mw, .ref mb, .ref ml, .ref mq, .ref mz, .ref ms, .ref mr, .int ic0, .ref mi, .int (dI tr), .int (nI sg), .int (nI ln), .int (nI u.2.2.2.2.2.1), .int (nI (u.2.2.2.2.2.1 - fr)), .int (dI u.2.2.2.2.2.2), .int u.2.1, .ref mk, .int en0, .ref mj, .ref mn])), (mt, .inl (cI, 16384, .inl tp)), (mw, .inl (cJ, 512, .inr (.inl gW))), (ms, .inl (cJ, 64, .inr (.inl u.2.2.1))), (mb, .inl (cI, 8, .inl gB)), (ml, .inl (cJ, 512, .inr (.inl gL))), (mq, .inl (cI, 512, .inl gQ)), (mz, .inl (cI, 8, .inl gZ)), (mk, .inl (cI, 256, .inl u.2.2.2.1)), (mr, .inl (cI, 512, .inl u.2.2.2.2.1))]) := by
  refine Fn.intro (by decide) (Nat.le_of_ble_eq_true rfl) ?_
  intro X hX hE hin
  subst hX
  show V (gG D cI cJ cT) X _ cX9_go 6 RX9 _ 0 0 [(0, .ref m), (1, .int (nI 5)), (2, .int (nI x)), (3, .int (nI y1)), (4, .int c1), (5, .int (nI fr))] 0 []
  refine v_aload_n 0 dX9_go_0 rfl rfl ?_
  refine v_iload 5 dX9_go_1 rfl ?_
  refine v_put (ws' := [(m, .inr (9, [.int th, .int (nI fd), .int pc0, .int dw0, .int lt0, .ref mt, .ref mw, .ref mb, .ref ml, .ref mq, .ref mz, .ref ms, .ref mr, .int ic0, .ref mi, .int (dI tr), .int (nI sg), .int (nI ln), .int (nI fr), .int rd0, .int dr0, .int ma0, .ref mk, .int en0, .ref mj, .ref mn])), (mt, .inl (cI, 16384, .inl tp)), (mw, .inl (cJ, 512, .inr (.inl gW))), (ms, .inl (cJ, 64, .inr (.inl gS))), (mb, .inl (cI, 8, .inl gB)), (ml, .inl (cJ, 512, .inr (.inl gL))), (mq, .inl (cI, 512, .inl gQ)), (mz, .inl (cI, 8, .inl gZ)), (mk, .inl (cI, 256, .inl gK)), (mr, .inl (cI, 512, .inl gR))]) fw_SampleDeskModel_81 0 rfl (rfl) (rfl) (Nat.le_of_ble_eq_true rfl) dX9_go_3 rfl ?_
  refine v_aload_n 0 dX9_go_6 rfl rfl ?_
  refine v_iconst (v := nI (fr - fr)) dX9_go_7 (by rw [Nat.sub_self]; decide) ?_
  refine v_put (ws' := [(m, .inr (9, [.int th, .int (nI fd), .int pc0, .int dw0, .int lt0, .ref mt, .ref mw, .ref mb, .ref ml, .ref mq, .ref mz, .ref ms, .ref mr, .int ic0, .ref mi, .int (dI tr), .int (nI sg), .int (nI ln), .int (nI fr), .int (nI (fr - fr)), .int dr0, .int ma0, .ref mk, .int en0, .ref mj, .ref mn])), (mt, .inl (cI, 16384, .inl tp)), (mw, .inl (cJ, 512, .inr (.inl gW))), (ms, .inl (cJ, 64, .inr (.inl gS))), (mb, .inl (cI, 8, .inl gB)), (ml, .inl (cJ, 512, .inr (.inl gL))), (mq, .inl (cI, 512, .inl gQ)), (mz, .inl (cI, 8, .inl gZ)), (mk, .inl (cI, 256, .inl gK)), (mr, .inl (cI, 512, .inl gR))]) fw_SampleDeskModel_93 0 rfl (rfl) (rfl) (Nat.le_of_ble_eq_true rfl) dX9_go_8 rfl ?_
  refine v_aload_n 0 dX9_go_11 rfl rfl ?_
  refine v_iconst (v := dI false) dX9_go_12 (by decide) ?_
  refine v_put (ws' := [(m, .inr (9, [.int th, .int (nI fd), .int pc0, .int dw0, .int lt0, .ref mt, .ref mw, .ref mb, .ref ml, .ref mq, .ref mz, .ref ms, .ref mr, .int ic0, .ref mi, .int (dI tr), .int (nI sg), .int (nI ln), .int (nI fr), .int (nI (fr - fr)), .int (dI false), .int ma0, .ref mk, .int en0, .ref mj, .ref mn])), (mt, .inl (cI, 16384, .inl tp)), (mw, .inl (cJ, 512, .inr (.inl gW))), (ms, .inl (cJ, 64, .inr (.inl gS))), (mb, .inl (cI, 8, .inl gB)), (ml, .inl (cJ, 512, .inr (.inl gL))), (mq, .inl (cI, 512, .inl gQ)), (mz, .inl (cI, 8, .inl gZ)), (mk, .inl (cI, 256, .inl gK)), (mr, .inl (cI, 512, .inl gR))]) fw_SampleDeskModel_77 0 rfl (rfl) (rfl) (Nat.le_of_ble_eq_true rfl) dX9_go_13 rfl ?_
  refine v_iload_n 1 dX9_go_16 rfl rfl ?_
  refine v_if_ne (tgt := 26) dX9_go_17 (by decide) (fun b17 => ?_) (fun b17 => absurd b17 (by decide))
  refine v_iload_n 1 dX9_go_26 rfl rfl ?_
  refine v_iconst (v := nI 1) dX9_go_27 (by decide) ?_
  refine v_icmp_ne (tgt := 45) dX9_go_28 (by decide) (fun b28 => ?_) (fun b28 => absurd b28 (by decide))
  refine v_iload_n 1 dX9_go_45 rfl rfl ?_
  refine v_iconst (v := nI 2) dX9_go_46 (by decide) ?_
  refine v_icmp_ne (tgt := 60) dX9_go_47 (by decide) (fun b47 => ?_) (fun b47 => absurd b47 (by decide))
  refine v_iload_n 1 dX9_go_60 rfl rfl ?_
  refine v_iconst (v := nI 3) dX9_go_61 (by decide) ?_
  refine v_icmp_ne (tgt := 74) dX9_go_62 (by decide) (fun b62 => ?_) (fun b62 => absurd b62 (by decide))
  refine v_iload_n 1 dX9_go_74 rfl rfl ?_
  refine v_iconst (v := nI 4) dX9_go_75 (by decide) ?_
  refine v_icmp_ne (tgt := 88) dX9_go_76 (by decide) (fun b76 => ?_) (fun b76 => absurd b76 (by decide))
  refine v_iload_n 1 dX9_go_88 rfl rfl ?_
  refine v_iconst (v := nI 5) dX9_go_89 (by decide) ?_
  refine v_icmp_ne (tgt := 102) dX9_go_90 (by decide) (fun b90 => absurd b90 (fun q => q rfl)) (fun b90 => ?_)
  refine v_aload_n 0 dX9_go_93 rfl rfl ?_
  refine v_iload_n 2 dX9_go_94 rfl rfl ?_
  refine v_i2l (v := lN x) dX9_go_95 (nI_l (by omega)) ?_
  refine v_iload_n 3 dX9_go_96 rfl rfl ?_
  refine v_i2l (v := lN y1) dX9_go_97 (nI_l (by omega)) ?_
  refine v_callV (as := [.long (lN x), .long (lN y1)]) (rest := []) (ws' := fun u => [(m, .inr (9, [.int th, .int (nI fd), .int pc0, .int dw0, .int lt0, .ref mt, .ref mw, .ref mb, .ref ml, .ref mq, .ref mz, .ref ms, .ref mr, .int ic0, .ref mi, .int (dI tr), .int (nI sg), .int (nI ln), .int (nI u.2.1), .int (nI (u.2.1 - fr)), .int (dI u.2.2), .int ma0, .ref mk, .int en0, .ref mj, .ref mn])), (mt, .inl (cI, 16384, .inl tp)), (mw, .inl (cJ, 512, .inr (.inl gW))), (ms, .inl (cJ, 64, .inr (.inl gS))), (mb, .inl (cI, 8, .inl gB)), (ml, .inl (cJ, 512, .inr (.inl gL))), (mq, .inl (cI, 512, .inl gQ)), (mz, .inl (cI, 8, .inl gZ)), (mk, .inl (cI, 256, .inl gK)), (mr, .inl (cI, 512, .inl gR))]) m_SampleDeskModel_177 (kX9_poisson X.l (m := m) (mt := mt) (mw := mw) (mb := mb) (ml := ml) (mq := mq) (mz := mz) (ms := ms) (mr := mr) (mi := mi) (mk := mk) (mj := mj) (mn := mn) (th := th) (pc0 := pc0) (dw0 := dw0) (lt0 := lt0) (ic0 := ic0) (en0 := en0) (fd := fd) (sg := sg) (ln := ln) (fr := fr) (e := e) (tr := tr) (tp := tp) (b := b) (ma0 := ma0) (p := fr) (dr := false) (num := x) (den := y1) hB (Nat.le_refl _) hfe (fun h => nomatch h) hx hy0 hxy hy1) k_code_X9_poisson [0, 1] 0 rfl rfl rfl rfl dX9_go_98 (Nat.le_of_ble_eq_true rfl) ⟨rfl, rfl, by decide, by decide⟩ ⟨Nat.zero_le _, Nat.zero_le _⟩ rfl rfl (fun _ => rfl) (v_mgU rfl (fun _ => rfl)) ?_
  intro u98 c98
  obtain ⟨r1, p1, d1⟩ := u98
  try dsimp only at c98
  show V (gG D cI cJ cT) X (rmD 5) cX9_go 6 RX9 [(m, .inr (9, [.int th, .int (nI fd), .int pc0, .int dw0, .int lt0, .ref mt, .ref mw, .ref mb, .ref ml, .ref mq, .ref mz, .ref ms, .ref mr, .int ic0, .ref mi, .int (dI tr), .int (nI sg), .int (nI ln), .int (nI p1), .int (nI (p1 - fr)), .int (dI d1), .int ma0, .ref mk, .int en0, .ref mj, .ref mn])), (mt, .inl (cI, 16384, .inl tp)), (mw, .inl (cJ, 512, .inr (.inl gW))), (ms, .inl (cJ, 64, .inr (.inl gS))), (mb, .inl (cI, 8, .inl gB)), (ml, .inl (cJ, 512, .inr (.inl gL))), (mq, .inl (cI, 512, .inl gQ)), (mz, .inl (cI, 8, .inl gZ)), (mk, .inl (cI, 256, .inl gK)), (mr, .inl (cI, 512, .inl gR))] 0 0 [(0, .ref m), (1, .int (nI 5)), (2, .int (nI x)), (3, .int (nI y1)), (4, .int c1), (5, .int (nI fr))] 101 [.long (lN r1)]
  exact v_lret hE dX9_go_101 (lN r1, ma0, gS, gK, gR, p1, d1) (Rl_oG (by decide) c98) rfl rfl
set_option maxRecDepth 100000 in
set_option maxHeartbeats 1000000 in
theorem kX9_go_6 {D : va_G} {cI cJ cT : ClassId} (l : Launch) {m mt mw mb ml mq mz ms mr mi mk mj mn : Nat} {th pc0 dw0 lt0 ic0 ma0 en0 : Int32} {fd sg ln fr e : Nat} {tr : Bool} {tp : Nat → Int32} {b : Nat → Nat} {at0 rd0 dr0 : Int32} {y : Nat} {gW gS gL : Nat → Int64} {W : Nat → Nat} {mm : Nat} {gB gQ gZ gK gR : Nat → Int32} {x y1 z : Nat} (hB : MB tr fd ln sg tp b e) (hfe : fr ≤ e) (hx : x ≤ 100000) (hy1 : y1 ≤ 100000) (hz : z ≤ x + y1) : Fn (S := Int64 × Int32 × (Nat → Int64) × (Nat → Int32) × (Nat → Int32) × Nat × Bool) (gG D cI cJ cT) l yX9_go (.code yX9_go cX9_go 6 (some .long)) (rmD 5) [.ref m, .int (nI 6), .int (nI x), .int (nI y1), .int (nI z), .int (nI fr)] [(m, .inr (9, [.int th, .int (nI fd), .int pc0, .int dw0, .int lt0, .ref mt, .ref mw, .ref mb, .ref ml, .ref mq, .ref mz, .ref ms, .ref mr, .int ic0, .ref mi, .int (dI tr), .int (nI sg), .int (nI ln), .int at0, .int rd0, .int dr0, .int ma0, .ref mk, .int en0, .ref mj, .ref mn])), (mt, .inl (cI, 16384, .inl tp)), (mw, .inl (cJ, 512, .inr (.inl gW))), (ms, .inl (cJ, 64, .inr (.inl gS))), (mb, .inl (cI, 8, .inl gB)), (ml, .inl (cJ, 512, .inr (.inl gL))), (mq, .inl (cI, 512, .inl gQ)), (mz, .inl (cI, 8, .inl gZ)), (mk, .inl (cI, 256, .inl gK)), (mr, .inl (cI, 512, .inl gR))] (fun u => Rg (sAns b e 6 x y1 z W mm fr) e fr false (mG (nI 6) u.1 u.2.1 u.2.2.2.1) u.2.2.2.2.2.1 u.2.2.2.2.2.2) (fun u => some (.long u.1)) (fun u => [(m, .inr (9, [.int th, .int (nI fd), .int pc0, .int dw0, .int lt0, .ref mt, .ref mw, .ref mb, .ref ml, .ref mq, .ref mz, .ref ms, .ref mr, .int ic0, .ref mi, .int (dI tr), .int (nI sg), .int (nI ln), .int (nI u.2.2.2.2.2.1), .int (nI (u.2.2.2.2.2.1 - fr)), .int (dI u.2.2.2.2.2.2), .int u.2.1, .ref mk, .int en0, .ref mj, .ref mn])), (mt, .inl (cI, 16384, .inl tp)), (mw, .inl (cJ, 512, .inr (.inl gW))), (ms, .inl (cJ, 64, .inr (.inl u.2.2.1))), (mb, .inl (cI, 8, .inl gB)), (ml, .inl (cJ, 512, .inr (.inl gL))), (mq, .inl (cI, 512, .inl gQ)), (mz, .inl (cI, 8, .inl gZ)), (mk, .inl (cI, 256, .inl u.2.2.2.1)), (mr, .inl (cI, 512, .inl u.2.2.2.2.1))]) := by
  refine Fn.intro (by decide) (Nat.le_of_ble_eq_true rfl) ?_
  intro X hX hE hin
  subst hX
  show V (gG D cI cJ cT) X _ cX9_go 6 RX9 _ 0 0 [(0, .ref m), (1, .int (nI 6)), (2, .int (nI x)), (3, .int (nI y1)), (4, .int (nI z)), (5, .int (nI fr))] 0 []
  refine v_aload_n 0 dX9_go_0 rfl rfl ?_
  refine v_iload 5 dX9_go_1 rfl ?_
  refine v_put (ws' := [(m, .inr (9, [.int th, .int (nI fd), .int pc0, .int dw0, .int lt0, .ref mt, .ref mw, .ref mb, .ref ml, .ref mq, .ref mz, .ref ms, .ref mr, .int ic0, .ref mi, .int (dI tr), .int (nI sg), .int (nI ln), .int (nI fr), .int rd0, .int dr0, .int ma0, .ref mk, .int en0, .ref mj, .ref mn])), (mt, .inl (cI, 16384, .inl tp)), (mw, .inl (cJ, 512, .inr (.inl gW))), (ms, .inl (cJ, 64, .inr (.inl gS))), (mb, .inl (cI, 8, .inl gB)), (ml, .inl (cJ, 512, .inr (.inl gL))), (mq, .inl (cI, 512, .inl gQ)), (mz, .inl (cI, 8, .inl gZ)), (mk, .inl (cI, 256, .inl gK)), (mr, .inl (cI, 512, .inl gR))]) fw_SampleDeskModel_81 0 rfl (rfl) (rfl) (Nat.le_of_ble_eq_true rfl) dX9_go_3 rfl ?_
  refine v_aload_n 0 dX9_go_6 rfl rfl ?_
  refine v_iconst (v := nI (fr - fr)) dX9_go_7 (by rw [Nat.sub_self]; decide) ?_
  refine v_put (ws' := [(m, .inr (9, [.int th, .int (nI fd), .int pc0, .int dw0, .int lt0, .ref mt, .ref mw, .ref mb, .ref ml, .ref mq, .ref mz, .ref ms, .ref mr, .int ic0, .ref mi, .int (dI tr), .int (nI sg), .int (nI ln), .int (nI fr), .int (nI (fr - fr)), .int dr0, .int ma0, .ref mk, .int en0, .ref mj, .ref mn])), (mt, .inl (cI, 16384, .inl tp)), (mw, .inl (cJ, 512, .inr (.inl gW))), (ms, .inl (cJ, 64, .inr (.inl gS))), (mb, .inl (cI, 8, .inl gB)), (ml, .inl (cJ, 512, .inr (.inl gL))), (mq, .inl (cI, 512, .inl gQ)), (mz, .inl (cI, 8, .inl gZ)), (mk, .inl (cI, 256, .inl gK)), (mr, .inl (cI, 512, .inl gR))]) fw_SampleDeskModel_93 0 rfl (rfl) (rfl) (Nat.le_of_ble_eq_true rfl) dX9_go_8 rfl ?_
  refine v_aload_n 0 dX9_go_11 rfl rfl ?_
  refine v_iconst (v := dI false) dX9_go_12 (by decide) ?_
  refine v_put (ws' := [(m, .inr (9, [.int th, .int (nI fd), .int pc0, .int dw0, .int lt0, .ref mt, .ref mw, .ref mb, .ref ml, .ref mq, .ref mz, .ref ms, .ref mr, .int ic0, .ref mi, .int (dI tr), .int (nI sg), .int (nI ln), .int (nI fr), .int (nI (fr - fr)), .int (dI false), .int ma0, .ref mk, .int en0, .ref mj, .ref mn])), (mt, .inl (cI, 16384, .inl tp)), (mw, .inl (cJ, 512, .inr (.inl gW))), (ms, .inl (cJ, 64, .inr (.inl gS))), (mb, .inl (cI, 8, .inl gB)), (ml, .inl (cJ, 512, .inr (.inl gL))), (mq, .inl (cI, 512, .inl gQ)), (mz, .inl (cI, 8, .inl gZ)), (mk, .inl (cI, 256, .inl gK)), (mr, .inl (cI, 512, .inl gR))]) fw_SampleDeskModel_77 0 rfl (rfl) (rfl) (Nat.le_of_ble_eq_true rfl) dX9_go_13 rfl ?_
  refine v_iload_n 1 dX9_go_16 rfl rfl ?_
  refine v_if_ne (tgt := 26) dX9_go_17 (by decide) (fun b17 => ?_) (fun b17 => absurd b17 (by decide))
  refine v_iload_n 1 dX9_go_26 rfl rfl ?_
  refine v_iconst (v := nI 1) dX9_go_27 (by decide) ?_
  refine v_icmp_ne (tgt := 45) dX9_go_28 (by decide) (fun b28 => ?_) (fun b28 => absurd b28 (by decide))
  refine v_iload_n 1 dX9_go_45 rfl rfl ?_
  refine v_iconst (v := nI 2) dX9_go_46 (by decide) ?_
  refine v_icmp_ne (tgt := 60) dX9_go_47 (by decide) (fun b47 => ?_) (fun b47 => absurd b47 (by decide))
  refine v_iload_n 1 dX9_go_60 rfl rfl ?_
  refine v_iconst (v := nI 3) dX9_go_61 (by decide) ?_
  refine v_icmp_ne (tgt := 74) dX9_go_62 (by decide) (fun b62 => ?_) (fun b62 => absurd b62 (by decide))
  refine v_iload_n 1 dX9_go_74 rfl rfl ?_
  refine v_iconst (v := nI 4) dX9_go_75 (by decide) ?_
  refine v_icmp_ne (tgt := 88) dX9_go_76 (by decide) (fun b76 => ?_) (fun b76 => absurd b76 (by decide))
  refine v_iload_n 1 dX9_go_88 rfl rfl ?_
  refine v_iconst (v := nI 5) dX9_go_89 (by decide) ?_
  refine v_icmp_ne (tgt := 102) dX9_go_90 (by decide) (fun b90 => ?_) (fun b90 => absurd b90 (by decide))
  refine v_iload_n 1 dX9_go_102 rfl rfl ?_
  refine v_bipush (v := nI 6) dX9_go_103 (by decide) ?_
  refine v_icmp_ne (tgt := 117) dX9_go_105 (by decide) (fun b105 => absurd b105 (fun q => q rfl)) (fun b105 => ?_)
  refine v_aload_n 0 dX9_go_108 rfl rfl ?_
  refine v_iload_n 2 dX9_go_109 rfl rfl ?_
  refine v_iload_n 3 dX9_go_110 rfl rfl ?_
  refine v_iload 4 dX9_go_111 rfl ?_
  refine v_callV (as := [.int (nI x), .int (nI y1), .int (nI z)]) (rest := []) (ws' := fun u => [(m, .inr (9, [.int th, .int (nI fd), .int pc0, .int dw0, .int lt0, .ref mt, .ref mw, .ref mb, .ref ml, .ref mq, .ref mz, .ref ms, .ref mr, .int ic0, .ref mi, .int (dI tr), .int (nI sg), .int (nI ln), .int (nI u.2.1), .int (nI (u.2.1 - fr)), .int (dI u.2.2), .int ma0, .ref mk, .int en0, .ref mj, .ref mn])), (mt, .inl (cI, 16384, .inl tp)), (mw, .inl (cJ, 512, .inr (.inl gW))), (ms, .inl (cJ, 64, .inr (.inl gS))), (mb, .inl (cI, 8, .inl gB)), (ml, .inl (cJ, 512, .inr (.inl gL))), (mq, .inl (cI, 512, .inl gQ)), (mz, .inl (cI, 8, .inl gZ)), (mk, .inl (cI, 256, .inl gK)), (mr, .inl (cI, 512, .inl gR))]) m_SampleDeskModel_180 (kX9_hyper X.l (m := m) (mt := mt) (mw := mw) (mb := mb) (ml := ml) (mq := mq) (mz := mz) (ms := ms) (mr := mr) (mi := mi) (mk := mk) (mj := mj) (mn := mn) (th := th) (pc0 := pc0) (dw0 := dw0) (lt0 := lt0) (ic0 := ic0) (en0 := en0) (fd := fd) (sg := sg) (ln := ln) (fr := fr) (e := e) (tr := tr) (tp := tp) (b := b) (ma0 := ma0) (p := fr) (dr := false) (ga := x) (gb := y1) (kk := z) hB (Nat.le_refl _) hfe (fun h => nomatch h) hx hy1 hz) k_code_X9_hyper [0, 1] 0 rfl rfl rfl rfl dX9_go_113 (Nat.le_of_ble_eq_true rfl) ⟨rfl, rfl, by decide, by decide⟩ ⟨Nat.zero_le _, Nat.zero_le _⟩ rfl rfl (fun _ => rfl) (v_mgU rfl (fun _ => rfl)) ?_
  intro u113 c113
  obtain ⟨r1, p1, d1⟩ := u113
  try dsimp only at c113
  show V (gG D cI cJ cT) X (rmD 5) cX9_go 6 RX9 [(m, .inr (9, [.int th, .int (nI fd), .int pc0, .int dw0, .int lt0, .ref mt, .ref mw, .ref mb, .ref ml, .ref mq, .ref mz, .ref ms, .ref mr, .int ic0, .ref mi, .int (dI tr), .int (nI sg), .int (nI ln), .int (nI p1), .int (nI (p1 - fr)), .int (dI d1), .int ma0, .ref mk, .int en0, .ref mj, .ref mn])), (mt, .inl (cI, 16384, .inl tp)), (mw, .inl (cJ, 512, .inr (.inl gW))), (ms, .inl (cJ, 64, .inr (.inl gS))), (mb, .inl (cI, 8, .inl gB)), (ml, .inl (cJ, 512, .inr (.inl gL))), (mq, .inl (cI, 512, .inl gQ)), (mz, .inl (cI, 8, .inl gZ)), (mk, .inl (cI, 256, .inl gK)), (mr, .inl (cI, 512, .inl gR))] 0 0 [(0, .ref m), (1, .int (nI 6)), (2, .int (nI x)), (3, .int (nI y1)), (4, .int (nI z)), (5, .int (nI fr))] 116 [.long (lN r1)]
  exact v_lret hE dX9_go_116 (lN r1, ma0, gS, gK, gR, p1, d1) (Rl_oG (by decide) c113.1) rfl rfl
set_option maxRecDepth 100000 in
set_option maxHeartbeats 1000000 in
theorem kX9_go_7 {D : va_G} {cI cJ cT : ClassId} (l : Launch) {m mt mw mb ml mq mz ms mr mi mk mj mn : Nat} {th pc0 dw0 lt0 ic0 ma0 en0 : Int32} {fd sg ln fr e : Nat} {tr : Bool} {tp : Nat → Int32} {b : Nat → Nat} {at0 rd0 dr0 : Int32} {y : Nat} {gW gS gL : Nat → Int64} {W : Nat → Nat} {mm : Nat} {gB gQ gZ gK gR : Nat → Int32} {x y1 z : Nat} {c1 : Int32} (hB : MB tr fd ln sg tp b e) (hfe : fr ≤ e) (hx : x ≤ 1000) (hx1 : 1 ≤ x) (hy1 : y1 ≤ 10) (hy0 : 1 ≤ y1) : Fn (S := Int64 × Int32 × (Nat → Int64) × (Nat → Int32) × (Nat → Int32) × Nat × Bool) (gG D cI cJ cT) l yX9_go (.code yX9_go cX9_go 6 (some .long)) (rmD 5) [.ref m, .int (nI 7), .int (nI x), .int (nI y1), .int c1, .int (nI fr)] [(m, .inr (9, [.int th, .int (nI fd), .int pc0, .int dw0, .int lt0, .ref mt, .ref mw, .ref mb, .ref ml, .ref mq, .ref mz, .ref ms, .ref mr, .int ic0, .ref mi, .int (dI tr), .int (nI sg), .int (nI ln), .int at0, .int rd0, .int dr0, .int ma0, .ref mk, .int en0, .ref mj, .ref mn])), (mt, .inl (cI, 16384, .inl tp)), (mw, .inl (cJ, 512, .inr (.inl gW))), (ms, .inl (cJ, 64, .inr (.inl gS))), (mb, .inl (cI, 8, .inl gB)), (ml, .inl (cJ, 512, .inr (.inl gL))), (mq, .inl (cI, 512, .inl gQ)), (mz, .inl (cI, 8, .inl gZ)), (mk, .inl (cI, 256, .inl gK)), (mr, .inl (cI, 512, .inl gR))] (fun u => Rg (sAns b e 7 x y1 z W mm fr) e fr false (mG (nI 7) u.1 u.2.1 u.2.2.2.1) u.2.2.2.2.2.1 u.2.2.2.2.2.2) (fun u => some (.long u.1)) (fun u => [(m, .inr (9, [.int th, .int (nI fd), .int pc0, .int dw0, .int lt0, .ref mt, .ref mw, .ref mb, .ref ml, .ref mq, .ref mz, .ref ms, .ref mr, .int ic0, .ref mi, .int (dI tr), .int (nI sg), .int (nI ln), .int (nI u.2.2.2.2.2.1), .int (nI (u.2.2.2.2.2.1 - fr)), .int (dI u.2.2.2.2.2.2), .int u.2.1, .ref mk, .int en0, .ref mj, .ref mn])), (mt, .inl (cI, 16384, .inl tp)), (mw, .inl (cJ, 512, .inr (.inl gW))), (ms, .inl (cJ, 64, .inr (.inl u.2.2.1))), (mb, .inl (cI, 8, .inl gB)), (ml, .inl (cJ, 512, .inr (.inl gL))), (mq, .inl (cI, 512, .inl gQ)), (mz, .inl (cI, 8, .inl gZ)), (mk, .inl (cI, 256, .inl u.2.2.2.1)), (mr, .inl (cI, 512, .inl u.2.2.2.2.1))]) := by
  refine Fn.intro (by decide) (Nat.le_of_ble_eq_true rfl) ?_
  intro X hX hE hin
  subst hX
  show V (gG D cI cJ cT) X _ cX9_go 6 RX9 _ 0 0 [(0, .ref m), (1, .int (nI 7)), (2, .int (nI x)), (3, .int (nI y1)), (4, .int c1), (5, .int (nI fr))] 0 []
  refine v_aload_n 0 dX9_go_0 rfl rfl ?_
  refine v_iload 5 dX9_go_1 rfl ?_
  refine v_put (ws' := [(m, .inr (9, [.int th, .int (nI fd), .int pc0, .int dw0, .int lt0, .ref mt, .ref mw, .ref mb, .ref ml, .ref mq, .ref mz, .ref ms, .ref mr, .int ic0, .ref mi, .int (dI tr), .int (nI sg), .int (nI ln), .int (nI fr), .int rd0, .int dr0, .int ma0, .ref mk, .int en0, .ref mj, .ref mn])), (mt, .inl (cI, 16384, .inl tp)), (mw, .inl (cJ, 512, .inr (.inl gW))), (ms, .inl (cJ, 64, .inr (.inl gS))), (mb, .inl (cI, 8, .inl gB)), (ml, .inl (cJ, 512, .inr (.inl gL))), (mq, .inl (cI, 512, .inl gQ)), (mz, .inl (cI, 8, .inl gZ)), (mk, .inl (cI, 256, .inl gK)), (mr, .inl (cI, 512, .inl gR))]) fw_SampleDeskModel_81 0 rfl (rfl) (rfl) (Nat.le_of_ble_eq_true rfl) dX9_go_3 rfl ?_
  refine v_aload_n 0 dX9_go_6 rfl rfl ?_
  refine v_iconst (v := nI (fr - fr)) dX9_go_7 (by rw [Nat.sub_self]; decide) ?_
  refine v_put (ws' := [(m, .inr (9, [.int th, .int (nI fd), .int pc0, .int dw0, .int lt0, .ref mt, .ref mw, .ref mb, .ref ml, .ref mq, .ref mz, .ref ms, .ref mr, .int ic0, .ref mi, .int (dI tr), .int (nI sg), .int (nI ln), .int (nI fr), .int (nI (fr - fr)), .int dr0, .int ma0, .ref mk, .int en0, .ref mj, .ref mn])), (mt, .inl (cI, 16384, .inl tp)), (mw, .inl (cJ, 512, .inr (.inl gW))), (ms, .inl (cJ, 64, .inr (.inl gS))), (mb, .inl (cI, 8, .inl gB)), (ml, .inl (cJ, 512, .inr (.inl gL))), (mq, .inl (cI, 512, .inl gQ)), (mz, .inl (cI, 8, .inl gZ)), (mk, .inl (cI, 256, .inl gK)), (mr, .inl (cI, 512, .inl gR))]) fw_SampleDeskModel_93 0 rfl (rfl) (rfl) (Nat.le_of_ble_eq_true rfl) dX9_go_8 rfl ?_
  refine v_aload_n 0 dX9_go_11 rfl rfl ?_
  refine v_iconst (v := dI false) dX9_go_12 (by decide) ?_
  refine v_put (ws' := [(m, .inr (9, [.int th, .int (nI fd), .int pc0, .int dw0, .int lt0, .ref mt, .ref mw, .ref mb, .ref ml, .ref mq, .ref mz, .ref ms, .ref mr, .int ic0, .ref mi, .int (dI tr), .int (nI sg), .int (nI ln), .int (nI fr), .int (nI (fr - fr)), .int (dI false), .int ma0, .ref mk, .int en0, .ref mj, .ref mn])), (mt, .inl (cI, 16384, .inl tp)), (mw, .inl (cJ, 512, .inr (.inl gW))), (ms, .inl (cJ, 64, .inr (.inl gS))), (mb, .inl (cI, 8, .inl gB)), (ml, .inl (cJ, 512, .inr (.inl gL))), (mq, .inl (cI, 512, .inl gQ)), (mz, .inl (cI, 8, .inl gZ)), (mk, .inl (cI, 256, .inl gK)), (mr, .inl (cI, 512, .inl gR))]) fw_SampleDeskModel_77 0 rfl (rfl) (rfl) (Nat.le_of_ble_eq_true rfl) dX9_go_13 rfl ?_
  refine v_iload_n 1 dX9_go_16 rfl rfl ?_
  refine v_if_ne (tgt := 26) dX9_go_17 (by decide) (fun b17 => ?_) (fun b17 => absurd b17 (by decide))
  refine v_iload_n 1 dX9_go_26 rfl rfl ?_
  refine v_iconst (v := nI 1) dX9_go_27 (by decide) ?_
  refine v_icmp_ne (tgt := 45) dX9_go_28 (by decide) (fun b28 => ?_) (fun b28 => absurd b28 (by decide))
  refine v_iload_n 1 dX9_go_45 rfl rfl ?_
  refine v_iconst (v := nI 2) dX9_go_46 (by decide) ?_
  refine v_icmp_ne (tgt := 60) dX9_go_47 (by decide) (fun b47 => ?_) (fun b47 => absurd b47 (by decide))
  refine v_iload_n 1 dX9_go_60 rfl rfl ?_
  refine v_iconst (v := nI 3) dX9_go_61 (by decide) ?_
  refine v_icmp_ne (tgt := 74) dX9_go_62 (by decide) (fun b62 => ?_) (fun b62 => absurd b62 (by decide))
  refine v_iload_n 1 dX9_go_74 rfl rfl ?_
  refine v_iconst (v := nI 4) dX9_go_75 (by decide) ?_
  refine v_icmp_ne (tgt := 88) dX9_go_76 (by decide) (fun b76 => ?_) (fun b76 => absurd b76 (by decide))
  refine v_iload_n 1 dX9_go_88 rfl rfl ?_
  refine v_iconst (v := nI 5) dX9_go_89 (by decide) ?_
  refine v_icmp_ne (tgt := 102) dX9_go_90 (by decide) (fun b90 => ?_) (fun b90 => absurd b90 (by decide))
  refine v_iload_n 1 dX9_go_102 rfl rfl ?_
  refine v_bipush (v := nI 6) dX9_go_103 (by decide) ?_
  refine v_icmp_ne (tgt := 117) dX9_go_105 (by decide) (fun b105 => ?_) (fun b105 => absurd b105 (by decide))
  refine v_iload_n 1 dX9_go_117 rfl rfl ?_
  refine v_bipush (v := nI 7) dX9_go_118 (by decide) ?_
  refine v_icmp_ne (tgt := 132) dX9_go_120 (by decide) (fun b120 => absurd b120 (fun q => q rfl)) (fun b120 => ?_)
  refine v_aload_n 0 dX9_go_123 rfl rfl ?_
  refine v_iload_n 2 dX9_go_124 rfl rfl ?_
  refine v_i2l (v := lN x) dX9_go_125 (nI_l (by omega)) ?_
  refine v_iload_n 3 dX9_go_126 rfl rfl ?_
  refine v_i2l (v := lN y1) dX9_go_127 (nI_l (by omega)) ?_
  refine v_callV (as := [.long (lN x), .long (lN y1)]) (rest := []) (ws' := fun u => [(m, .inr (9, [.int th, .int (nI fd), .int pc0, .int dw0, .int lt0, .ref mt, .ref mw, .ref mb, .ref ml, .ref mq, .ref mz, .ref ms, .ref mr, .int ic0, .ref mi, .int (dI tr), .int (nI sg), .int (nI ln), .int (nI u.2.1), .int (nI (u.2.1 - fr)), .int (dI u.2.2), .int ma0, .ref mk, .int en0, .ref mj, .ref mn])), (mt, .inl (cI, 16384, .inl tp)), (mw, .inl (cJ, 512, .inr (.inl gW))), (ms, .inl (cJ, 64, .inr (.inl gS))), (mb, .inl (cI, 8, .inl gB)), (ml, .inl (cJ, 512, .inr (.inl gL))), (mq, .inl (cI, 512, .inl gQ)), (mz, .inl (cI, 8, .inl gZ)), (mk, .inl (cI, 256, .inl gK)), (mr, .inl (cI, 512, .inl gR))]) m_SampleDeskModel_183 (kX9_bell X.l (m := m) (mt := mt) (mw := mw) (mb := mb) (ml := ml) (mq := mq) (mz := mz) (ms := ms) (mr := mr) (mi := mi) (mk := mk) (mj := mj) (mn := mn) (th := th) (pc0 := pc0) (dw0 := dw0) (lt0 := lt0) (ic0 := ic0) (en0 := en0) (fd := fd) (sg := sg) (ln := ln) (fr := fr) (e := e) (tr := tr) (tp := tp) (b := b) (ma0 := ma0) (p := fr) (dr := false) (num := x) (den := y1) hB (Nat.le_refl _) hfe (fun h => nomatch h) hx hx1 hy1 hy0) k_code_X9_bell [0, 1] 0 rfl rfl rfl rfl dX9_go_128 (Nat.le_of_ble_eq_true rfl) ⟨rfl, rfl, by decide, by decide⟩ ⟨Nat.zero_le _, Nat.zero_le _⟩ rfl rfl (fun _ => rfl) (v_mgU rfl (fun _ => rfl)) ?_
  intro u128 c128
  obtain ⟨r1, p1, d1⟩ := u128
  try dsimp only at c128
  show V (gG D cI cJ cT) X (rmD 5) cX9_go 6 RX9 [(m, .inr (9, [.int th, .int (nI fd), .int pc0, .int dw0, .int lt0, .ref mt, .ref mw, .ref mb, .ref ml, .ref mq, .ref mz, .ref ms, .ref mr, .int ic0, .ref mi, .int (dI tr), .int (nI sg), .int (nI ln), .int (nI p1), .int (nI (p1 - fr)), .int (dI d1), .int ma0, .ref mk, .int en0, .ref mj, .ref mn])), (mt, .inl (cI, 16384, .inl tp)), (mw, .inl (cJ, 512, .inr (.inl gW))), (ms, .inl (cJ, 64, .inr (.inl gS))), (mb, .inl (cI, 8, .inl gB)), (ml, .inl (cJ, 512, .inr (.inl gL))), (mq, .inl (cI, 512, .inl gQ)), (mz, .inl (cI, 8, .inl gZ)), (mk, .inl (cI, 256, .inl gK)), (mr, .inl (cI, 512, .inl gR))] 0 0 [(0, .ref m), (1, .int (nI 7)), (2, .int (nI x)), (3, .int (nI y1)), (4, .int c1), (5, .int (nI fr))] 131 [.long (blI r1)]
  exact v_lret hE dX9_go_131 (blI r1, ma0, gS, gK, gR, p1, d1) (Rl_oG (by decide) c128) rfl rfl
set_option maxRecDepth 100000 in
set_option maxHeartbeats 1000000 in
theorem kX9_go_8 {D : va_G} {cI cJ cT : ClassId} (l : Launch) {m mt mw mb ml mq mz ms mr mi mk mj mn : Nat} {th pc0 dw0 lt0 ic0 ma0 en0 : Int32} {fd sg ln fr e : Nat} {tr : Bool} {tp : Nat → Int32} {b : Nat → Nat} {at0 rd0 dr0 : Int32} {y : Nat} {gW gS gL : Nat → Int64} {W : Nat → Nat} {mm : Nat} {gB gQ gZ gK gR : Nat → Int32} {x y1 z : Nat} {c1 : Int32} (hB : MB tr fd ln sg tp b e) (hfe : fr ≤ e) (hx : x < 2 ^ 31) (hy0 : 0 < y1) (hy1 : y1 < 2 ^ 31) : Fn (S := Int64 × Int32 × (Nat → Int64) × (Nat → Int32) × (Nat → Int32) × Nat × Bool) (gG D cI cJ cT) l yX9_go (.code yX9_go cX9_go 6 (some .long)) (rmD 5) [.ref m, .int (nI 8), .int (nI x), .int (nI y1), .int c1, .int (nI fr)] [(m, .inr (9, [.int th, .int (nI fd), .int pc0, .int dw0, .int lt0, .ref mt, .ref mw, .ref mb, .ref ml, .ref mq, .ref mz, .ref ms, .ref mr, .int ic0, .ref mi, .int (dI tr), .int (nI sg), .int (nI ln), .int at0, .int rd0, .int dr0, .int ma0, .ref mk, .int en0, .ref mj, .ref mn])), (mt, .inl (cI, 16384, .inl tp)), (mw, .inl (cJ, 512, .inr (.inl gW))), (ms, .inl (cJ, 64, .inr (.inl gS))), (mb, .inl (cI, 8, .inl gB)), (ml, .inl (cJ, 512, .inr (.inl gL))), (mq, .inl (cI, 512, .inl gQ)), (mz, .inl (cI, 8, .inl gZ)), (mk, .inl (cI, 256, .inl gK)), (mr, .inl (cI, 512, .inl gR))] (fun u => Rg (sAns b e 8 x y1 z W mm fr) e fr false (mG (nI 8) u.1 u.2.1 u.2.2.2.1) u.2.2.2.2.2.1 u.2.2.2.2.2.2) (fun u => some (.long u.1)) (fun u => [(m, .inr (9, [.int th, .int (nI fd), .int pc0, .int dw0, .int lt0, .ref mt, .ref mw, .ref mb, .ref ml, .ref mq, .ref mz, .ref ms, .ref mr, .int ic0, .ref mi, .int (dI tr), .int (nI sg), .int (nI ln), .int (nI u.2.2.2.2.2.1), .int (nI (u.2.2.2.2.2.1 - fr)), .int (dI u.2.2.2.2.2.2), .int u.2.1, .ref mk, .int en0, .ref mj, .ref mn])), (mt, .inl (cI, 16384, .inl tp)), (mw, .inl (cJ, 512, .inr (.inl gW))), (ms, .inl (cJ, 64, .inr (.inl u.2.2.1))), (mb, .inl (cI, 8, .inl gB)), (ml, .inl (cJ, 512, .inr (.inl gL))), (mq, .inl (cI, 512, .inl gQ)), (mz, .inl (cI, 8, .inl gZ)), (mk, .inl (cI, 256, .inl u.2.2.2.1)), (mr, .inl (cI, 512, .inl u.2.2.2.2.1))]) := by
  refine Fn.intro (by decide) (Nat.le_of_ble_eq_true rfl) ?_
  intro X hX hE hin
  subst hX
  show V (gG D cI cJ cT) X _ cX9_go 6 RX9 _ 0 0 [(0, .ref m), (1, .int (nI 8)), (2, .int (nI x)), (3, .int (nI y1)), (4, .int c1), (5, .int (nI fr))] 0 []
  refine v_aload_n 0 dX9_go_0 rfl rfl ?_
  refine v_iload 5 dX9_go_1 rfl ?_
  refine v_put (ws' := [(m, .inr (9, [.int th, .int (nI fd), .int pc0, .int dw0, .int lt0, .ref mt, .ref mw, .ref mb, .ref ml, .ref mq, .ref mz, .ref ms, .ref mr, .int ic0, .ref mi, .int (dI tr), .int (nI sg), .int (nI ln), .int (nI fr), .int rd0, .int dr0, .int ma0, .ref mk, .int en0, .ref mj, .ref mn])), (mt, .inl (cI, 16384, .inl tp)), (mw, .inl (cJ, 512, .inr (.inl gW))), (ms, .inl (cJ, 64, .inr (.inl gS))), (mb, .inl (cI, 8, .inl gB)), (ml, .inl (cJ, 512, .inr (.inl gL))), (mq, .inl (cI, 512, .inl gQ)), (mz, .inl (cI, 8, .inl gZ)), (mk, .inl (cI, 256, .inl gK)), (mr, .inl (cI, 512, .inl gR))]) fw_SampleDeskModel_81 0 rfl (rfl) (rfl) (Nat.le_of_ble_eq_true rfl) dX9_go_3 rfl ?_
  refine v_aload_n 0 dX9_go_6 rfl rfl ?_
  refine v_iconst (v := nI (fr - fr)) dX9_go_7 (by rw [Nat.sub_self]; decide) ?_
  refine v_put (ws' := [(m, .inr (9, [.int th, .int (nI fd), .int pc0, .int dw0, .int lt0, .ref mt, .ref mw, .ref mb, .ref ml, .ref mq, .ref mz, .ref ms, .ref mr, .int ic0, .ref mi, .int (dI tr), .int (nI sg), .int (nI ln), .int (nI fr), .int (nI (fr - fr)), .int dr0, .int ma0, .ref mk, .int en0, .ref mj, .ref mn])), (mt, .inl (cI, 16384, .inl tp)), (mw, .inl (cJ, 512, .inr (.inl gW))), (ms, .inl (cJ, 64, .inr (.inl gS))), (mb, .inl (cI, 8, .inl gB)), (ml, .inl (cJ, 512, .inr (.inl gL))), (mq, .inl (cI, 512, .inl gQ)), (mz, .inl (cI, 8, .inl gZ)), (mk, .inl (cI, 256, .inl gK)), (mr, .inl (cI, 512, .inl gR))]) fw_SampleDeskModel_93 0 rfl (rfl) (rfl) (Nat.le_of_ble_eq_true rfl) dX9_go_8 rfl ?_
  refine v_aload_n 0 dX9_go_11 rfl rfl ?_
  refine v_iconst (v := dI false) dX9_go_12 (by decide) ?_
  refine v_put (ws' := [(m, .inr (9, [.int th, .int (nI fd), .int pc0, .int dw0, .int lt0, .ref mt, .ref mw, .ref mb, .ref ml, .ref mq, .ref mz, .ref ms, .ref mr, .int ic0, .ref mi, .int (dI tr), .int (nI sg), .int (nI ln), .int (nI fr), .int (nI (fr - fr)), .int (dI false), .int ma0, .ref mk, .int en0, .ref mj, .ref mn])), (mt, .inl (cI, 16384, .inl tp)), (mw, .inl (cJ, 512, .inr (.inl gW))), (ms, .inl (cJ, 64, .inr (.inl gS))), (mb, .inl (cI, 8, .inl gB)), (ml, .inl (cJ, 512, .inr (.inl gL))), (mq, .inl (cI, 512, .inl gQ)), (mz, .inl (cI, 8, .inl gZ)), (mk, .inl (cI, 256, .inl gK)), (mr, .inl (cI, 512, .inl gR))]) fw_SampleDeskModel_77 0 rfl (rfl) (rfl) (Nat.le_of_ble_eq_true rfl) dX9_go_13 rfl ?_
  refine v_iload_n 1 dX9_go_16 rfl rfl ?_
  refine v_if_ne (tgt := 26) dX9_go_17 (by decide) (fun b17 => ?_) (fun b17 => absurd b17 (by decide))
  refine v_iload_n 1 dX9_go_26 rfl rfl ?_
  refine v_iconst (v := nI 1) dX9_go_27 (by decide) ?_
  refine v_icmp_ne (tgt := 45) dX9_go_28 (by decide) (fun b28 => ?_) (fun b28 => absurd b28 (by decide))
  refine v_iload_n 1 dX9_go_45 rfl rfl ?_
  refine v_iconst (v := nI 2) dX9_go_46 (by decide) ?_
  refine v_icmp_ne (tgt := 60) dX9_go_47 (by decide) (fun b47 => ?_) (fun b47 => absurd b47 (by decide))
  refine v_iload_n 1 dX9_go_60 rfl rfl ?_
  refine v_iconst (v := nI 3) dX9_go_61 (by decide) ?_
  refine v_icmp_ne (tgt := 74) dX9_go_62 (by decide) (fun b62 => ?_) (fun b62 => absurd b62 (by decide))
  refine v_iload_n 1 dX9_go_74 rfl rfl ?_
  refine v_iconst (v := nI 4) dX9_go_75 (by decide) ?_
  refine v_icmp_ne (tgt := 88) dX9_go_76 (by decide) (fun b76 => ?_) (fun b76 => absurd b76 (by decide))
  refine v_iload_n 1 dX9_go_88 rfl rfl ?_
  refine v_iconst (v := nI 5) dX9_go_89 (by decide) ?_
  refine v_icmp_ne (tgt := 102) dX9_go_90 (by decide) (fun b90 => ?_) (fun b90 => absurd b90 (by decide))
  refine v_iload_n 1 dX9_go_102 rfl rfl ?_
  refine v_bipush (v := nI 6) dX9_go_103 (by decide) ?_
  refine v_icmp_ne (tgt := 117) dX9_go_105 (by decide) (fun b105 => ?_) (fun b105 => absurd b105 (by decide))
  refine v_iload_n 1 dX9_go_117 rfl rfl ?_
  refine v_bipush (v := nI 7) dX9_go_118 (by decide) ?_
  refine v_icmp_ne (tgt := 132) dX9_go_120 (by decide) (fun b120 => ?_) (fun b120 => absurd b120 (by decide))
  refine v_iload_n 1 dX9_go_132 rfl rfl ?_
  refine v_bipush (v := nI 8) dX9_go_133 (by decide) ?_
  refine v_icmp_ne (tgt := 148) dX9_go_135 (by decide) (fun b135 => absurd b135 (fun q => q rfl)) (fun b135 => ?_)
  refine v_aload_n 0 dX9_go_138 rfl rfl ?_
  refine v_iload_n 2 dX9_go_139 rfl rfl ?_
  refine v_i2l (v := lN x) dX9_go_140 (nI_l (by omega)) ?_
  refine v_iload_n 3 dX9_go_141 rfl rfl ?_
  refine v_i2l (v := lN y1) dX9_go_142 (nI_l (by omega)) ?_
  refine v_callV (as := [.long (lN x), .long (lN y1)]) (rest := []) (ws' := fun u => [(m, .inr (9, [.int th, .int (nI fd), .int pc0, .int dw0, .int lt0, .ref mt, .ref mw, .ref mb, .ref ml, .ref mq, .ref mz, .ref ms, .ref mr, .int ic0, .ref mi, .int (dI tr), .int (nI sg), .int (nI ln), .int (nI u.2.1), .int (nI (u.2.1 - fr)), .int (dI u.2.2), .int ma0, .ref mk, .int en0, .ref mj, .ref mn])), (mt, .inl (cI, 16384, .inl tp)), (mw, .inl (cJ, 512, .inr (.inl gW))), (ms, .inl (cJ, 64, .inr (.inl gS))), (mb, .inl (cI, 8, .inl gB)), (ml, .inl (cJ, 512, .inr (.inl gL))), (mq, .inl (cI, 512, .inl gQ)), (mz, .inl (cI, 8, .inl gZ)), (mk, .inl (cI, 256, .inl gK)), (mr, .inl (cI, 512, .inl gR))]) m_SampleDeskModel_120 (kX9_exponential X.l (m := m) (mt := mt) (mw := mw) (mb := mb) (ml := ml) (mq := mq) (mz := mz) (ms := ms) (mr := mr) (mi := mi) (mk := mk) (mj := mj) (mn := mn) (th := th) (pc0 := pc0) (dw0 := dw0) (lt0 := lt0) (ic0 := ic0) (en0 := en0) (fd := fd) (sg := sg) (ln := ln) (fr := fr) (e := e) (tr := tr) (tp := tp) (b := b) (ma0 := ma0) (p := fr) (dr := false) (num := x) (den := y1) hB (Nat.le_refl _) hfe (fun h => nomatch h) hy0 (by omega) (by omega)) k_code_X9_exponential [0, 1] 0 rfl rfl rfl rfl dX9_go_143 (Nat.le_of_ble_eq_true rfl) ⟨rfl, rfl, by decide, by decide⟩ ⟨Nat.zero_le _, Nat.zero_le _⟩ rfl rfl (fun _ => rfl) (v_mgU rfl (fun _ => rfl)) ?_
  intro u143 c143
  obtain ⟨r1, p1, d1⟩ := u143
  try dsimp only at c143
  show V (gG D cI cJ cT) X (rmD 5) cX9_go 6 RX9 [(m, .inr (9, [.int th, .int (nI fd), .int pc0, .int dw0, .int lt0, .ref mt, .ref mw, .ref mb, .ref ml, .ref mq, .ref mz, .ref ms, .ref mr, .int ic0, .ref mi, .int (dI tr), .int (nI sg), .int (nI ln), .int (nI p1), .int (nI (p1 - fr)), .int (dI d1), .int ma0, .ref mk, .int en0, .ref mj, .ref mn])), (mt, .inl (cI, 16384, .inl tp)), (mw, .inl (cJ, 512, .inr (.inl gW))), (ms, .inl (cJ, 64, .inr (.inl gS))), (mb, .inl (cI, 8, .inl gB)), (ml, .inl (cJ, 512, .inr (.inl gL))), (mq, .inl (cI, 512, .inl gQ)), (mz, .inl (cI, 8, .inl gZ)), (mk, .inl (cI, 256, .inl gK)), (mr, .inl (cI, 512, .inl gR))] 0 0 [(0, .ref m), (1, .int (nI 8)), (2, .int (nI x)), (3, .int (nI y1)), (4, .int c1), (5, .int (nI fr))] 146 [.int (nI r1)]
  have hr1 : r1 ≤ 1 := c143.2
  refine v_i2l (v := lN r1) dX9_go_146 (nI_l (by omega)) ?_
  exact v_lret hE dX9_go_147 (lN r1, ma0, gS, gK, gR, p1, d1) (Rl_oG (by decide) c143.1) rfl rfl
set_option maxRecDepth 100000 in
set_option maxHeartbeats 1000000 in
theorem kX9_go_9 {D : va_G} {cI cJ cT : ClassId} (l : Launch) {m mt mw mb ml mq mz ms mr mi mk mj mn : Nat} {th pc0 dw0 lt0 ic0 ma0 en0 : Int32} {fd sg ln fr e : Nat} {tr : Bool} {tp : Nat → Int32} {b : Nat → Nat} {at0 rd0 dr0 : Int32} {y : Nat} {gW gS gL : Nat → Int64} {W : Nat → Nat} {mm : Nat} {gB gQ gZ gK gR : Nat → Int32} {x y1 z : Nat} {b1 c1 : Int32} (hB : MB tr fd ln sg tp b e) (hfe : fr ≤ e) (hx : x ≤ 256) : Fn (S := Int64 × Int32 × (Nat → Int64) × (Nat → Int32) × (Nat → Int32) × Nat × Bool) (gG D cI cJ cT) l yX9_go (.code yX9_go cX9_go 6 (some .long)) (rmD 5) [.ref m, .int (nI 9), .int (nI x), .int b1, .int c1, .int (nI fr)] [(m, .inr (9, [.int th, .int (nI fd), .int pc0, .int dw0, .int lt0, .ref mt, .ref mw, .ref mb, .ref ml, .ref mq, .ref mz, .ref ms, .ref mr, .int ic0, .ref mi, .int (dI tr), .int (nI sg), .int (nI ln), .int at0, .int rd0, .int dr0, .int ma0, .ref mk, .int en0, .ref mj, .ref mn])), (mt, .inl (cI, 16384, .inl tp)), (mw, .inl (cJ, 512, .inr (.inl gW))), (ms, .inl (cJ, 64, .inr (.inl gS))), (mb, .inl (cI, 8, .inl gB)), (ml, .inl (cJ, 512, .inr (.inl gL))), (mq, .inl (cI, 512, .inl gQ)), (mz, .inl (cI, 8, .inl gZ)), (mk, .inl (cI, 256, .inl gK)), (mr, .inl (cI, 512, .inl gR))] (fun u => Rg (sAns b e 9 x y1 z W mm fr) e fr false (mG (nI 9) u.1 u.2.1 u.2.2.2.1) u.2.2.2.2.2.1 u.2.2.2.2.2.2) (fun u => some (.long u.1)) (fun u => [(m, .inr (9, [.int th, .int (nI fd), .int pc0, .int dw0, .int lt0, .ref mt, .ref mw, .ref mb, .ref ml, .ref mq, .ref mz, .ref ms, .ref mr, .int ic0, .ref mi, .int (dI tr), .int (nI sg), .int (nI ln), .int (nI u.2.2.2.2.2.1), .int (nI (u.2.2.2.2.2.1 - fr)), .int (dI u.2.2.2.2.2.2), .int u.2.1, .ref mk, .int en0, .ref mj, .ref mn])), (mt, .inl (cI, 16384, .inl tp)), (mw, .inl (cJ, 512, .inr (.inl gW))), (ms, .inl (cJ, 64, .inr (.inl u.2.2.1))), (mb, .inl (cI, 8, .inl gB)), (ml, .inl (cJ, 512, .inr (.inl gL))), (mq, .inl (cI, 512, .inl gQ)), (mz, .inl (cI, 8, .inl gZ)), (mk, .inl (cI, 256, .inl u.2.2.2.1)), (mr, .inl (cI, 512, .inl u.2.2.2.2.1))]) := by
  refine Fn.intro (by decide) (Nat.le_of_ble_eq_true rfl) ?_
  intro X hX hE hin
  subst hX
  show V (gG D cI cJ cT) X _ cX9_go 6 RX9 _ 0 0 [(0, .ref m), (1, .int (nI 9)), (2, .int (nI x)), (3, .int b1), (4, .int c1), (5, .int (nI fr))] 0 []
  refine v_aload_n 0 dX9_go_0 rfl rfl ?_
  refine v_iload 5 dX9_go_1 rfl ?_
  refine v_put (ws' := [(m, .inr (9, [.int th, .int (nI fd), .int pc0, .int dw0, .int lt0, .ref mt, .ref mw, .ref mb, .ref ml, .ref mq, .ref mz, .ref ms, .ref mr, .int ic0, .ref mi, .int (dI tr), .int (nI sg), .int (nI ln), .int (nI fr), .int rd0, .int dr0, .int ma0, .ref mk, .int en0, .ref mj, .ref mn])), (mt, .inl (cI, 16384, .inl tp)), (mw, .inl (cJ, 512, .inr (.inl gW))), (ms, .inl (cJ, 64, .inr (.inl gS))), (mb, .inl (cI, 8, .inl gB)), (ml, .inl (cJ, 512, .inr (.inl gL))), (mq, .inl (cI, 512, .inl gQ)), (mz, .inl (cI, 8, .inl gZ)), (mk, .inl (cI, 256, .inl gK)), (mr, .inl (cI, 512, .inl gR))]) fw_SampleDeskModel_81 0 rfl (rfl) (rfl) (Nat.le_of_ble_eq_true rfl) dX9_go_3 rfl ?_
  refine v_aload_n 0 dX9_go_6 rfl rfl ?_
  refine v_iconst (v := nI (fr - fr)) dX9_go_7 (by rw [Nat.sub_self]; decide) ?_
  refine v_put (ws' := [(m, .inr (9, [.int th, .int (nI fd), .int pc0, .int dw0, .int lt0, .ref mt, .ref mw, .ref mb, .ref ml, .ref mq, .ref mz, .ref ms, .ref mr, .int ic0, .ref mi, .int (dI tr), .int (nI sg), .int (nI ln), .int (nI fr), .int (nI (fr - fr)), .int dr0, .int ma0, .ref mk, .int en0, .ref mj, .ref mn])), (mt, .inl (cI, 16384, .inl tp)), (mw, .inl (cJ, 512, .inr (.inl gW))), (ms, .inl (cJ, 64, .inr (.inl gS))), (mb, .inl (cI, 8, .inl gB)), (ml, .inl (cJ, 512, .inr (.inl gL))), (mq, .inl (cI, 512, .inl gQ)), (mz, .inl (cI, 8, .inl gZ)), (mk, .inl (cI, 256, .inl gK)), (mr, .inl (cI, 512, .inl gR))]) fw_SampleDeskModel_93 0 rfl (rfl) (rfl) (Nat.le_of_ble_eq_true rfl) dX9_go_8 rfl ?_
  refine v_aload_n 0 dX9_go_11 rfl rfl ?_
  refine v_iconst (v := dI false) dX9_go_12 (by decide) ?_
  refine v_put (ws' := [(m, .inr (9, [.int th, .int (nI fd), .int pc0, .int dw0, .int lt0, .ref mt, .ref mw, .ref mb, .ref ml, .ref mq, .ref mz, .ref ms, .ref mr, .int ic0, .ref mi, .int (dI tr), .int (nI sg), .int (nI ln), .int (nI fr), .int (nI (fr - fr)), .int (dI false), .int ma0, .ref mk, .int en0, .ref mj, .ref mn])), (mt, .inl (cI, 16384, .inl tp)), (mw, .inl (cJ, 512, .inr (.inl gW))), (ms, .inl (cJ, 64, .inr (.inl gS))), (mb, .inl (cI, 8, .inl gB)), (ml, .inl (cJ, 512, .inr (.inl gL))), (mq, .inl (cI, 512, .inl gQ)), (mz, .inl (cI, 8, .inl gZ)), (mk, .inl (cI, 256, .inl gK)), (mr, .inl (cI, 512, .inl gR))]) fw_SampleDeskModel_77 0 rfl (rfl) (rfl) (Nat.le_of_ble_eq_true rfl) dX9_go_13 rfl ?_
  refine v_iload_n 1 dX9_go_16 rfl rfl ?_
  refine v_if_ne (tgt := 26) dX9_go_17 (by decide) (fun b17 => ?_) (fun b17 => absurd b17 (by decide))
  refine v_iload_n 1 dX9_go_26 rfl rfl ?_
  refine v_iconst (v := nI 1) dX9_go_27 (by decide) ?_
  refine v_icmp_ne (tgt := 45) dX9_go_28 (by decide) (fun b28 => ?_) (fun b28 => absurd b28 (by decide))
  refine v_iload_n 1 dX9_go_45 rfl rfl ?_
  refine v_iconst (v := nI 2) dX9_go_46 (by decide) ?_
  refine v_icmp_ne (tgt := 60) dX9_go_47 (by decide) (fun b47 => ?_) (fun b47 => absurd b47 (by decide))
  refine v_iload_n 1 dX9_go_60 rfl rfl ?_
  refine v_iconst (v := nI 3) dX9_go_61 (by decide) ?_
  refine v_icmp_ne (tgt := 74) dX9_go_62 (by decide) (fun b62 => ?_) (fun b62 => absurd b62 (by decide))
  refine v_iload_n 1 dX9_go_74 rfl rfl ?_
  refine v_iconst (v := nI 4) dX9_go_75 (by decide) ?_
  refine v_icmp_ne (tgt := 88) dX9_go_76 (by decide) (fun b76 => ?_) (fun b76 => absurd b76 (by decide))
  refine v_iload_n 1 dX9_go_88 rfl rfl ?_
  refine v_iconst (v := nI 5) dX9_go_89 (by decide) ?_
  refine v_icmp_ne (tgt := 102) dX9_go_90 (by decide) (fun b90 => ?_) (fun b90 => absurd b90 (by decide))
  refine v_iload_n 1 dX9_go_102 rfl rfl ?_
  refine v_bipush (v := nI 6) dX9_go_103 (by decide) ?_
  refine v_icmp_ne (tgt := 117) dX9_go_105 (by decide) (fun b105 => ?_) (fun b105 => absurd b105 (by decide))
  refine v_iload_n 1 dX9_go_117 rfl rfl ?_
  refine v_bipush (v := nI 7) dX9_go_118 (by decide) ?_
  refine v_icmp_ne (tgt := 132) dX9_go_120 (by decide) (fun b120 => ?_) (fun b120 => absurd b120 (by decide))
  refine v_iload_n 1 dX9_go_132 rfl rfl ?_
  refine v_bipush (v := nI 8) dX9_go_133 (by decide) ?_
  refine v_icmp_ne (tgt := 148) dX9_go_135 (by decide) (fun b135 => ?_) (fun b135 => absurd b135 (by decide))
  refine v_aload_n 0 dX9_go_148 rfl rfl ?_
  refine v_iload_n 1 dX9_go_149 rfl rfl ?_
  refine v_iload_n 2 dX9_go_150 rfl rfl ?_
  refine v_iload_n 3 dX9_go_151 rfl rfl ?_
  refine v_callV (as := [.int (nI 9), .int (nI x), .int b1]) (rest := []) (ws' := fun u => [(m, .inr (9, [.int th, .int (nI fd), .int pc0, .int dw0, .int lt0, .ref mt, .ref mw, .ref mb, .ref ml, .ref mq, .ref mz, .ref ms, .ref mr, .int ic0, .ref mi, .int (dI tr), .int (nI sg), .int (nI ln), .int (nI u.2.2.2.1), .int (nI (u.2.2.2.1 - fr)), .int (dI u.2.2.2.2), .int u.1, .ref mk, .int en0, .ref mj, .ref mn])), (mt, .inl (cI, 16384, .inl tp)), (mw, .inl (cJ, 512, .inr (.inl gW))), (ms, .inl (cJ, 64, .inr (.inl gS))), (mb, .inl (cI, 8, .inl gB)), (ml, .inl (cJ, 512, .inr (.inl gL))), (mq, .inl (cI, 512, .inl gQ)), (mz, .inl (cI, 8, .inl gZ)), (mk, .inl (cI, 256, .inl u.2.1)), (mr, .inl (cI, 512, .inl u.2.2.1))]) m_SampleDeskModel_186 (kX9_makeItems_9 X.l (m := m) (mt := mt) (mw := mw) (mb := mb) (ml := ml) (mq := mq) (mz := mz) (ms := ms) (mr := mr) (mi := mi) (mk := mk) (mj := mj) (mn := mn) (th := th) (pc0 := pc0) (dw0 := dw0) (lt0 := lt0) (ic0 := ic0) (en0 := en0) (fd := fd) (sg := sg) (ln := ln) (fr := fr) (e := e) (tr := tr) (tp := tp) (b := b) (ma0 := ma0) (p := fr) (dr := false) (x := x) (y := y1) (b1 := b1) (gK := gK) (gR := gR) (z := z) (mm := mm) (W := W) hB (Nat.le_refl _) hfe (fun h => nomatch h) hx) k_code_X9_makeItems [0, 1, 8, 9] 0 rfl rfl rfl rfl dX9_go_152 (Nat.le_of_ble_eq_true rfl) ⟨rfl, rfl, by decide, by decide⟩ ⟨Nat.zero_le _, Nat.zero_le _⟩ rfl rfl (fun _ => rfl) (v_mgU rfl (fun _ => rfl)) ?_
  intro u152 c152
  obtain ⟨m1, g1, g2, p1, d1⟩ := u152
  try dsimp only at c152
  show V (gG D cI cJ cT) X (rmD 5) cX9_go 6 RX9 [(m, .inr (9, [.int th, .int (nI fd), .int pc0, .int dw0, .int lt0, .ref mt, .ref mw, .ref mb, .ref ml, .ref mq, .ref mz, .ref ms, .ref mr, .int ic0, .ref mi, .int (dI tr), .int (nI sg), .int (nI ln), .int (nI p1), .int (nI (p1 - fr)), .int (dI d1), .int m1, .ref mk, .int en0, .ref mj, .ref mn])), (mt, .inl (cI, 16384, .inl tp)), (mw, .inl (cJ, 512, .inr (.inl gW))), (ms, .inl (cJ, 64, .inr (.inl gS))), (mb, .inl (cI, 8, .inl gB)), (ml, .inl (cJ, 512, .inr (.inl gL))), (mq, .inl (cI, 512, .inl gQ)), (mz, .inl (cI, 8, .inl gZ)), (mk, .inl (cI, 256, .inl g1)), (mr, .inl (cI, 512, .inl g2))] 0 0 [(0, .ref m), (1, .int (nI 9)), (2, .int (nI x)), (3, .int b1), (4, .int c1), (5, .int (nI fr))] 155 [.long m1.toInt64]
  exact v_lret hE dX9_go_155 (m1.toInt64, m1, gS, g1, g2, p1, d1) (Rg_bG c152) rfl rfl
set_option maxRecDepth 100000 in
set_option maxHeartbeats 1000000 in
theorem kX9_go_10 {D : va_G} {cI cJ cT : ClassId} (l : Launch) {m mt mw mb ml mq mz ms mr mi mk mj mn : Nat} {th pc0 dw0 lt0 ic0 ma0 en0 : Int32} {fd sg ln fr e : Nat} {tr : Bool} {tp : Nat → Int32} {b : Nat → Nat} {at0 rd0 dr0 : Int32} {y : Nat} {gW gS gL : Nat → Int64} {W : Nat → Nat} {mm : Nat} {gB gQ gZ gK gR : Nat → Int32} {x y1 z : Nat} {c1 : Int32} (hB : MB tr fd ln sg tp b e) (hfe : fr ≤ e) (hx : x ≤ 256) (hy1 : y1 ≤ x) : Fn (S := Int64 × Int32 × (Nat → Int64) × (Nat → Int32) × (Nat → Int32) × Nat × Bool) (gG D cI cJ cT) l yX9_go (.code yX9_go cX9_go 6 (some .long)) (rmD 5) [.ref m, .int (nI 10), .int (nI x), .int (nI y1), .int c1, .int (nI fr)] [(m, .inr (9, [.int th, .int (nI fd), .int pc0, .int dw0, .int lt0, .ref mt, .ref mw, .ref mb, .ref ml, .ref mq, .ref mz, .ref ms, .ref mr, .int ic0, .ref mi, .int (dI tr), .int (nI sg), .int (nI ln), .int at0, .int rd0, .int dr0, .int ma0, .ref mk, .int en0, .ref mj, .ref mn])), (mt, .inl (cI, 16384, .inl tp)), (mw, .inl (cJ, 512, .inr (.inl gW))), (ms, .inl (cJ, 64, .inr (.inl gS))), (mb, .inl (cI, 8, .inl gB)), (ml, .inl (cJ, 512, .inr (.inl gL))), (mq, .inl (cI, 512, .inl gQ)), (mz, .inl (cI, 8, .inl gZ)), (mk, .inl (cI, 256, .inl gK)), (mr, .inl (cI, 512, .inl gR))] (fun u => Rg (sAns b e 10 x y1 z W mm fr) e fr false (mG (nI 10) u.1 u.2.1 u.2.2.2.1) u.2.2.2.2.2.1 u.2.2.2.2.2.2) (fun u => some (.long u.1)) (fun u => [(m, .inr (9, [.int th, .int (nI fd), .int pc0, .int dw0, .int lt0, .ref mt, .ref mw, .ref mb, .ref ml, .ref mq, .ref mz, .ref ms, .ref mr, .int ic0, .ref mi, .int (dI tr), .int (nI sg), .int (nI ln), .int (nI u.2.2.2.2.2.1), .int (nI (u.2.2.2.2.2.1 - fr)), .int (dI u.2.2.2.2.2.2), .int u.2.1, .ref mk, .int en0, .ref mj, .ref mn])), (mt, .inl (cI, 16384, .inl tp)), (mw, .inl (cJ, 512, .inr (.inl gW))), (ms, .inl (cJ, 64, .inr (.inl u.2.2.1))), (mb, .inl (cI, 8, .inl gB)), (ml, .inl (cJ, 512, .inr (.inl gL))), (mq, .inl (cI, 512, .inl gQ)), (mz, .inl (cI, 8, .inl gZ)), (mk, .inl (cI, 256, .inl u.2.2.2.1)), (mr, .inl (cI, 512, .inl u.2.2.2.2.1))]) := by
  refine Fn.intro (by decide) (Nat.le_of_ble_eq_true rfl) ?_
  intro X hX hE hin
  subst hX
  show V (gG D cI cJ cT) X _ cX9_go 6 RX9 _ 0 0 [(0, .ref m), (1, .int (nI 10)), (2, .int (nI x)), (3, .int (nI y1)), (4, .int c1), (5, .int (nI fr))] 0 []
  refine v_aload_n 0 dX9_go_0 rfl rfl ?_
  refine v_iload 5 dX9_go_1 rfl ?_
  refine v_put (ws' := [(m, .inr (9, [.int th, .int (nI fd), .int pc0, .int dw0, .int lt0, .ref mt, .ref mw, .ref mb, .ref ml, .ref mq, .ref mz, .ref ms, .ref mr, .int ic0, .ref mi, .int (dI tr), .int (nI sg), .int (nI ln), .int (nI fr), .int rd0, .int dr0, .int ma0, .ref mk, .int en0, .ref mj, .ref mn])), (mt, .inl (cI, 16384, .inl tp)), (mw, .inl (cJ, 512, .inr (.inl gW))), (ms, .inl (cJ, 64, .inr (.inl gS))), (mb, .inl (cI, 8, .inl gB)), (ml, .inl (cJ, 512, .inr (.inl gL))), (mq, .inl (cI, 512, .inl gQ)), (mz, .inl (cI, 8, .inl gZ)), (mk, .inl (cI, 256, .inl gK)), (mr, .inl (cI, 512, .inl gR))]) fw_SampleDeskModel_81 0 rfl (rfl) (rfl) (Nat.le_of_ble_eq_true rfl) dX9_go_3 rfl ?_
  refine v_aload_n 0 dX9_go_6 rfl rfl ?_
  refine v_iconst (v := nI (fr - fr)) dX9_go_7 (by rw [Nat.sub_self]; decide) ?_
  refine v_put (ws' := [(m, .inr (9, [.int th, .int (nI fd), .int pc0, .int dw0, .int lt0, .ref mt, .ref mw, .ref mb, .ref ml, .ref mq, .ref mz, .ref ms, .ref mr, .int ic0, .ref mi, .int (dI tr), .int (nI sg), .int (nI ln), .int (nI fr), .int (nI (fr - fr)), .int dr0, .int ma0, .ref mk, .int en0, .ref mj, .ref mn])), (mt, .inl (cI, 16384, .inl tp)), (mw, .inl (cJ, 512, .inr (.inl gW))), (ms, .inl (cJ, 64, .inr (.inl gS))), (mb, .inl (cI, 8, .inl gB)), (ml, .inl (cJ, 512, .inr (.inl gL))), (mq, .inl (cI, 512, .inl gQ)), (mz, .inl (cI, 8, .inl gZ)), (mk, .inl (cI, 256, .inl gK)), (mr, .inl (cI, 512, .inl gR))]) fw_SampleDeskModel_93 0 rfl (rfl) (rfl) (Nat.le_of_ble_eq_true rfl) dX9_go_8 rfl ?_
  refine v_aload_n 0 dX9_go_11 rfl rfl ?_
  refine v_iconst (v := dI false) dX9_go_12 (by decide) ?_
  refine v_put (ws' := [(m, .inr (9, [.int th, .int (nI fd), .int pc0, .int dw0, .int lt0, .ref mt, .ref mw, .ref mb, .ref ml, .ref mq, .ref mz, .ref ms, .ref mr, .int ic0, .ref mi, .int (dI tr), .int (nI sg), .int (nI ln), .int (nI fr), .int (nI (fr - fr)), .int (dI false), .int ma0, .ref mk, .int en0, .ref mj, .ref mn])), (mt, .inl (cI, 16384, .inl tp)), (mw, .inl (cJ, 512, .inr (.inl gW))), (ms, .inl (cJ, 64, .inr (.inl gS))), (mb, .inl (cI, 8, .inl gB)), (ml, .inl (cJ, 512, .inr (.inl gL))), (mq, .inl (cI, 512, .inl gQ)), (mz, .inl (cI, 8, .inl gZ)), (mk, .inl (cI, 256, .inl gK)), (mr, .inl (cI, 512, .inl gR))]) fw_SampleDeskModel_77 0 rfl (rfl) (rfl) (Nat.le_of_ble_eq_true rfl) dX9_go_13 rfl ?_
  refine v_iload_n 1 dX9_go_16 rfl rfl ?_
  refine v_if_ne (tgt := 26) dX9_go_17 (by decide) (fun b17 => ?_) (fun b17 => absurd b17 (by decide))
  refine v_iload_n 1 dX9_go_26 rfl rfl ?_
  refine v_iconst (v := nI 1) dX9_go_27 (by decide) ?_
  refine v_icmp_ne (tgt := 45) dX9_go_28 (by decide) (fun b28 => ?_) (fun b28 => absurd b28 (by decide))
  refine v_iload_n 1 dX9_go_45 rfl rfl ?_
  refine v_iconst (v := nI 2) dX9_go_46 (by decide) ?_
  refine v_icmp_ne (tgt := 60) dX9_go_47 (by decide) (fun b47 => ?_) (fun b47 => absurd b47 (by decide))
  refine v_iload_n 1 dX9_go_60 rfl rfl ?_
  refine v_iconst (v := nI 3) dX9_go_61 (by decide) ?_
  refine v_icmp_ne (tgt := 74) dX9_go_62 (by decide) (fun b62 => ?_) (fun b62 => absurd b62 (by decide))
  refine v_iload_n 1 dX9_go_74 rfl rfl ?_
  refine v_iconst (v := nI 4) dX9_go_75 (by decide) ?_
  refine v_icmp_ne (tgt := 88) dX9_go_76 (by decide) (fun b76 => ?_) (fun b76 => absurd b76 (by decide))
  refine v_iload_n 1 dX9_go_88 rfl rfl ?_
  refine v_iconst (v := nI 5) dX9_go_89 (by decide) ?_
  refine v_icmp_ne (tgt := 102) dX9_go_90 (by decide) (fun b90 => ?_) (fun b90 => absurd b90 (by decide))
  refine v_iload_n 1 dX9_go_102 rfl rfl ?_
  refine v_bipush (v := nI 6) dX9_go_103 (by decide) ?_
  refine v_icmp_ne (tgt := 117) dX9_go_105 (by decide) (fun b105 => ?_) (fun b105 => absurd b105 (by decide))
  refine v_iload_n 1 dX9_go_117 rfl rfl ?_
  refine v_bipush (v := nI 7) dX9_go_118 (by decide) ?_
  refine v_icmp_ne (tgt := 132) dX9_go_120 (by decide) (fun b120 => ?_) (fun b120 => absurd b120 (by decide))
  refine v_iload_n 1 dX9_go_132 rfl rfl ?_
  refine v_bipush (v := nI 8) dX9_go_133 (by decide) ?_
  refine v_icmp_ne (tgt := 148) dX9_go_135 (by decide) (fun b135 => ?_) (fun b135 => absurd b135 (by decide))
  refine v_aload_n 0 dX9_go_148 rfl rfl ?_
  refine v_iload_n 1 dX9_go_149 rfl rfl ?_
  refine v_iload_n 2 dX9_go_150 rfl rfl ?_
  refine v_iload_n 3 dX9_go_151 rfl rfl ?_
  refine v_callV (as := [.int (nI 10), .int (nI x), .int (nI y1)]) (rest := []) (ws' := fun u => [(m, .inr (9, [.int th, .int (nI fd), .int pc0, .int dw0, .int lt0, .ref mt, .ref mw, .ref mb, .ref ml, .ref mq, .ref mz, .ref ms, .ref mr, .int ic0, .ref mi, .int (dI tr), .int (nI sg), .int (nI ln), .int (nI u.2.2.2.1), .int (nI (u.2.2.2.1 - fr)), .int (dI u.2.2.2.2), .int u.1, .ref mk, .int en0, .ref mj, .ref mn])), (mt, .inl (cI, 16384, .inl tp)), (mw, .inl (cJ, 512, .inr (.inl gW))), (ms, .inl (cJ, 64, .inr (.inl gS))), (mb, .inl (cI, 8, .inl gB)), (ml, .inl (cJ, 512, .inr (.inl gL))), (mq, .inl (cI, 512, .inl gQ)), (mz, .inl (cI, 8, .inl gZ)), (mk, .inl (cI, 256, .inl u.2.1)), (mr, .inl (cI, 512, .inl u.2.2.1))]) m_SampleDeskModel_186 (kX9_makeItems_10 X.l (m := m) (mt := mt) (mw := mw) (mb := mb) (ml := ml) (mq := mq) (mz := mz) (ms := ms) (mr := mr) (mi := mi) (mk := mk) (mj := mj) (mn := mn) (th := th) (pc0 := pc0) (dw0 := dw0) (lt0 := lt0) (ic0 := ic0) (en0 := en0) (fd := fd) (sg := sg) (ln := ln) (fr := fr) (e := e) (tr := tr) (tp := tp) (b := b) (ma0 := ma0) (p := fr) (dr := false) (x := x) (y := y1) (gK := gK) (gR := gR) (z := z) (mm := mm) (W := W) hB (Nat.le_refl _) hfe (fun h => nomatch h) hx hy1) k_code_X9_makeItems [0, 1, 8, 9] 0 rfl rfl rfl rfl dX9_go_152 (Nat.le_of_ble_eq_true rfl) ⟨rfl, rfl, by decide, by decide⟩ ⟨Nat.zero_le _, Nat.zero_le _⟩ rfl rfl (fun _ => rfl) (v_mgU rfl (fun _ => rfl)) ?_
  intro u152 c152
  obtain ⟨m1, g1, g2, p1, d1⟩ := u152
  try dsimp only at c152
  show V (gG D cI cJ cT) X (rmD 5) cX9_go 6 RX9 [(m, .inr (9, [.int th, .int (nI fd), .int pc0, .int dw0, .int lt0, .ref mt, .ref mw, .ref mb, .ref ml, .ref mq, .ref mz, .ref ms, .ref mr, .int ic0, .ref mi, .int (dI tr), .int (nI sg), .int (nI ln), .int (nI p1), .int (nI (p1 - fr)), .int (dI d1), .int m1, .ref mk, .int en0, .ref mj, .ref mn])), (mt, .inl (cI, 16384, .inl tp)), (mw, .inl (cJ, 512, .inr (.inl gW))), (ms, .inl (cJ, 64, .inr (.inl gS))), (mb, .inl (cI, 8, .inl gB)), (ml, .inl (cJ, 512, .inr (.inl gL))), (mq, .inl (cI, 512, .inl gQ)), (mz, .inl (cI, 8, .inl gZ)), (mk, .inl (cI, 256, .inl g1)), (mr, .inl (cI, 512, .inl g2))] 0 0 [(0, .ref m), (1, .int (nI 10)), (2, .int (nI x)), (3, .int (nI y1)), (4, .int c1), (5, .int (nI fr))] 155 [.long m1.toInt64]
  exact v_lret hE dX9_go_155 (m1.toInt64, m1, gS, g1, g2, p1, d1) (Rg_bG c152) rfl rfl
set_option maxRecDepth 100000 in
set_option maxHeartbeats 1000000 in
theorem kX9_go_11 {D : va_G} {cI cJ cT : ClassId} (l : Launch) {m mt mw mb ml mq mz ms mr mi mk mj mn : Nat} {th pc0 dw0 lt0 ic0 ma0 en0 : Int32} {fd sg ln fr e : Nat} {tr : Bool} {tp : Nat → Int32} {b : Nat → Nat} {at0 rd0 dr0 : Int32} {y : Nat} {gW gS gL : Nat → Int64} {W : Nat → Nat} {mm : Nat} {gB gQ gZ gK gR : Nat → Int32} {x y1 z : Nat} {b1 c1 : Int32} (hB : MB tr fd ln sg tp b e) (hfe : fr ≤ e) (hx : x ≤ 128) : Fn (S := Int64 × Int32 × (Nat → Int64) × (Nat → Int32) × (Nat → Int32) × Nat × Bool) (gG D cI cJ cT) l yX9_go (.code yX9_go cX9_go 6 (some .long)) (rmD 5) [.ref m, .int (nI 11), .int (nI x), .int b1, .int c1, .int (nI fr)] [(m, .inr (9, [.int th, .int (nI fd), .int pc0, .int dw0, .int lt0, .ref mt, .ref mw, .ref mb, .ref ml, .ref mq, .ref mz, .ref ms, .ref mr, .int ic0, .ref mi, .int (dI tr), .int (nI sg), .int (nI ln), .int at0, .int rd0, .int dr0, .int ma0, .ref mk, .int en0, .ref mj, .ref mn])), (mt, .inl (cI, 16384, .inl tp)), (mw, .inl (cJ, 512, .inr (.inl gW))), (ms, .inl (cJ, 64, .inr (.inl gS))), (mb, .inl (cI, 8, .inl gB)), (ml, .inl (cJ, 512, .inr (.inl gL))), (mq, .inl (cI, 512, .inl gQ)), (mz, .inl (cI, 8, .inl gZ)), (mk, .inl (cI, 256, .inl gK)), (mr, .inl (cI, 512, .inl gR))] (fun u => Rg (sAns b e 11 x y1 z W mm fr) e fr false (mG (nI 11) u.1 u.2.1 u.2.2.2.1) u.2.2.2.2.2.1 u.2.2.2.2.2.2) (fun u => some (.long u.1)) (fun u => [(m, .inr (9, [.int th, .int (nI fd), .int pc0, .int dw0, .int lt0, .ref mt, .ref mw, .ref mb, .ref ml, .ref mq, .ref mz, .ref ms, .ref mr, .int ic0, .ref mi, .int (dI tr), .int (nI sg), .int (nI ln), .int (nI u.2.2.2.2.2.1), .int (nI (u.2.2.2.2.2.1 - fr)), .int (dI u.2.2.2.2.2.2), .int u.2.1, .ref mk, .int en0, .ref mj, .ref mn])), (mt, .inl (cI, 16384, .inl tp)), (mw, .inl (cJ, 512, .inr (.inl gW))), (ms, .inl (cJ, 64, .inr (.inl u.2.2.1))), (mb, .inl (cI, 8, .inl gB)), (ml, .inl (cJ, 512, .inr (.inl gL))), (mq, .inl (cI, 512, .inl gQ)), (mz, .inl (cI, 8, .inl gZ)), (mk, .inl (cI, 256, .inl u.2.2.2.1)), (mr, .inl (cI, 512, .inl u.2.2.2.2.1))]) := by
  refine Fn.intro (by decide) (Nat.le_of_ble_eq_true rfl) ?_
  intro X hX hE hin
  subst hX
  show V (gG D cI cJ cT) X _ cX9_go 6 RX9 _ 0 0 [(0, .ref m), (1, .int (nI 11)), (2, .int (nI x)), (3, .int b1), (4, .int c1), (5, .int (nI fr))] 0 []
  refine v_aload_n 0 dX9_go_0 rfl rfl ?_
  refine v_iload 5 dX9_go_1 rfl ?_
  refine v_put (ws' := [(m, .inr (9, [.int th, .int (nI fd), .int pc0, .int dw0, .int lt0, .ref mt, .ref mw, .ref mb, .ref ml, .ref mq, .ref mz, .ref ms, .ref mr, .int ic0, .ref mi, .int (dI tr), .int (nI sg), .int (nI ln), .int (nI fr), .int rd0, .int dr0, .int ma0, .ref mk, .int en0, .ref mj, .ref mn])), (mt, .inl (cI, 16384, .inl tp)), (mw, .inl (cJ, 512, .inr (.inl gW))), (ms, .inl (cJ, 64, .inr (.inl gS))), (mb, .inl (cI, 8, .inl gB)), (ml, .inl (cJ, 512, .inr (.inl gL))), (mq, .inl (cI, 512, .inl gQ)), (mz, .inl (cI, 8, .inl gZ)), (mk, .inl (cI, 256, .inl gK)), (mr, .inl (cI, 512, .inl gR))]) fw_SampleDeskModel_81 0 rfl (rfl) (rfl) (Nat.le_of_ble_eq_true rfl) dX9_go_3 rfl ?_
  refine v_aload_n 0 dX9_go_6 rfl rfl ?_
  refine v_iconst (v := nI (fr - fr)) dX9_go_7 (by rw [Nat.sub_self]; decide) ?_
  refine v_put (ws' := [(m, .inr (9, [.int th, .int (nI fd), .int pc0, .int dw0, .int lt0, .ref mt, .ref mw, .ref mb, .ref ml, .ref mq, .ref mz, .ref ms, .ref mr, .int ic0, .ref mi, .int (dI tr), .int (nI sg), .int (nI ln), .int (nI fr), .int (nI (fr - fr)), .int dr0, .int ma0, .ref mk, .int en0, .ref mj, .ref mn])), (mt, .inl (cI, 16384, .inl tp)), (mw, .inl (cJ, 512, .inr (.inl gW))), (ms, .inl (cJ, 64, .inr (.inl gS))), (mb, .inl (cI, 8, .inl gB)), (ml, .inl (cJ, 512, .inr (.inl gL))), (mq, .inl (cI, 512, .inl gQ)), (mz, .inl (cI, 8, .inl gZ)), (mk, .inl (cI, 256, .inl gK)), (mr, .inl (cI, 512, .inl gR))]) fw_SampleDeskModel_93 0 rfl (rfl) (rfl) (Nat.le_of_ble_eq_true rfl) dX9_go_8 rfl ?_
  refine v_aload_n 0 dX9_go_11 rfl rfl ?_
  refine v_iconst (v := dI false) dX9_go_12 (by decide) ?_
  refine v_put (ws' := [(m, .inr (9, [.int th, .int (nI fd), .int pc0, .int dw0, .int lt0, .ref mt, .ref mw, .ref mb, .ref ml, .ref mq, .ref mz, .ref ms, .ref mr, .int ic0, .ref mi, .int (dI tr), .int (nI sg), .int (nI ln), .int (nI fr), .int (nI (fr - fr)), .int (dI false), .int ma0, .ref mk, .int en0, .ref mj, .ref mn])), (mt, .inl (cI, 16384, .inl tp)), (mw, .inl (cJ, 512, .inr (.inl gW))), (ms, .inl (cJ, 64, .inr (.inl gS))), (mb, .inl (cI, 8, .inl gB)), (ml, .inl (cJ, 512, .inr (.inl gL))), (mq, .inl (cI, 512, .inl gQ)), (mz, .inl (cI, 8, .inl gZ)), (mk, .inl (cI, 256, .inl gK)), (mr, .inl (cI, 512, .inl gR))]) fw_SampleDeskModel_77 0 rfl (rfl) (rfl) (Nat.le_of_ble_eq_true rfl) dX9_go_13 rfl ?_
  refine v_iload_n 1 dX9_go_16 rfl rfl ?_
  refine v_if_ne (tgt := 26) dX9_go_17 (by decide) (fun b17 => ?_) (fun b17 => absurd b17 (by decide))
  refine v_iload_n 1 dX9_go_26 rfl rfl ?_
  refine v_iconst (v := nI 1) dX9_go_27 (by decide) ?_
  refine v_icmp_ne (tgt := 45) dX9_go_28 (by decide) (fun b28 => ?_) (fun b28 => absurd b28 (by decide))
  refine v_iload_n 1 dX9_go_45 rfl rfl ?_
  refine v_iconst (v := nI 2) dX9_go_46 (by decide) ?_
  refine v_icmp_ne (tgt := 60) dX9_go_47 (by decide) (fun b47 => ?_) (fun b47 => absurd b47 (by decide))
  refine v_iload_n 1 dX9_go_60 rfl rfl ?_
  refine v_iconst (v := nI 3) dX9_go_61 (by decide) ?_
  refine v_icmp_ne (tgt := 74) dX9_go_62 (by decide) (fun b62 => ?_) (fun b62 => absurd b62 (by decide))
  refine v_iload_n 1 dX9_go_74 rfl rfl ?_
  refine v_iconst (v := nI 4) dX9_go_75 (by decide) ?_
  refine v_icmp_ne (tgt := 88) dX9_go_76 (by decide) (fun b76 => ?_) (fun b76 => absurd b76 (by decide))
  refine v_iload_n 1 dX9_go_88 rfl rfl ?_
  refine v_iconst (v := nI 5) dX9_go_89 (by decide) ?_
  refine v_icmp_ne (tgt := 102) dX9_go_90 (by decide) (fun b90 => ?_) (fun b90 => absurd b90 (by decide))
  refine v_iload_n 1 dX9_go_102 rfl rfl ?_
  refine v_bipush (v := nI 6) dX9_go_103 (by decide) ?_
  refine v_icmp_ne (tgt := 117) dX9_go_105 (by decide) (fun b105 => ?_) (fun b105 => absurd b105 (by decide))
  refine v_iload_n 1 dX9_go_117 rfl rfl ?_
  refine v_bipush (v := nI 7) dX9_go_118 (by decide) ?_
  refine v_icmp_ne (tgt := 132) dX9_go_120 (by decide) (fun b120 => ?_) (fun b120 => absurd b120 (by decide))
  refine v_iload_n 1 dX9_go_132 rfl rfl ?_
  refine v_bipush (v := nI 8) dX9_go_133 (by decide) ?_
  refine v_icmp_ne (tgt := 148) dX9_go_135 (by decide) (fun b135 => ?_) (fun b135 => absurd b135 (by decide))
  refine v_aload_n 0 dX9_go_148 rfl rfl ?_
  refine v_iload_n 1 dX9_go_149 rfl rfl ?_
  refine v_iload_n 2 dX9_go_150 rfl rfl ?_
  refine v_iload_n 3 dX9_go_151 rfl rfl ?_
  refine v_callV (as := [.int (nI 11), .int (nI x), .int b1]) (rest := []) (ws' := fun u => [(m, .inr (9, [.int th, .int (nI fd), .int pc0, .int dw0, .int lt0, .ref mt, .ref mw, .ref mb, .ref ml, .ref mq, .ref mz, .ref ms, .ref mr, .int ic0, .ref mi, .int (dI tr), .int (nI sg), .int (nI ln), .int (nI u.2.2.2.1), .int (nI (u.2.2.2.1 - fr)), .int (dI u.2.2.2.2), .int u.1, .ref mk, .int en0, .ref mj, .ref mn])), (mt, .inl (cI, 16384, .inl tp)), (mw, .inl (cJ, 512, .inr (.inl gW))), (ms, .inl (cJ, 64, .inr (.inl gS))), (mb, .inl (cI, 8, .inl gB)), (ml, .inl (cJ, 512, .inr (.inl gL))), (mq, .inl (cI, 512, .inl gQ)), (mz, .inl (cI, 8, .inl gZ)), (mk, .inl (cI, 256, .inl u.2.1)), (mr, .inl (cI, 512, .inl u.2.2.1))]) m_SampleDeskModel_186 (kX9_makeItems_11 X.l (m := m) (mt := mt) (mw := mw) (mb := mb) (ml := ml) (mq := mq) (mz := mz) (ms := ms) (mr := mr) (mi := mi) (mk := mk) (mj := mj) (mn := mn) (th := th) (pc0 := pc0) (dw0 := dw0) (lt0 := lt0) (ic0 := ic0) (en0 := en0) (fd := fd) (sg := sg) (ln := ln) (fr := fr) (e := e) (tr := tr) (tp := tp) (b := b) (ma0 := ma0) (p := fr) (dr := false) (x := x) (y := y1) (b1 := b1) (gK := gK) (gR := gR) (z := z) (mm := mm) (W := W) hB (Nat.le_refl _) hfe (fun h => nomatch h) hx) k_code_X9_makeItems [0, 1, 8, 9] 0 rfl rfl rfl rfl dX9_go_152 (Nat.le_of_ble_eq_true rfl) ⟨rfl, rfl, by decide, by decide⟩ ⟨Nat.zero_le _, Nat.zero_le _⟩ rfl rfl (fun _ => rfl) (v_mgU rfl (fun _ => rfl)) ?_
  intro u152 c152
  obtain ⟨m1, g1, g2, p1, d1⟩ := u152
  try dsimp only at c152
  show V (gG D cI cJ cT) X (rmD 5) cX9_go 6 RX9 [(m, .inr (9, [.int th, .int (nI fd), .int pc0, .int dw0, .int lt0, .ref mt, .ref mw, .ref mb, .ref ml, .ref mq, .ref mz, .ref ms, .ref mr, .int ic0, .ref mi, .int (dI tr), .int (nI sg), .int (nI ln), .int (nI p1), .int (nI (p1 - fr)), .int (dI d1), .int m1, .ref mk, .int en0, .ref mj, .ref mn])), (mt, .inl (cI, 16384, .inl tp)), (mw, .inl (cJ, 512, .inr (.inl gW))), (ms, .inl (cJ, 64, .inr (.inl gS))), (mb, .inl (cI, 8, .inl gB)), (ml, .inl (cJ, 512, .inr (.inl gL))), (mq, .inl (cI, 512, .inl gQ)), (mz, .inl (cI, 8, .inl gZ)), (mk, .inl (cI, 256, .inl g1)), (mr, .inl (cI, 512, .inl g2))] 0 0 [(0, .ref m), (1, .int (nI 11)), (2, .int (nI x)), (3, .int b1), (4, .int c1), (5, .int (nI fr))] 155 [.long m1.toInt64]
  exact v_lret hE dX9_go_155 (m1.toInt64, m1, gS, g1, g2, p1, d1) (Rg_bG c152) rfl rfl
set_option maxRecDepth 100000 in
set_option maxHeartbeats 1000000 in
theorem kX9_go_12 {D : va_G} {cI cJ cT : ClassId} (l : Launch) {m mt mw mb ml mq mz ms mr mi mk mj mn : Nat} {th pc0 dw0 lt0 ic0 ma0 en0 : Int32} {fd sg ln fr e : Nat} {tr : Bool} {tp : Nat → Int32} {b : Nat → Nat} {at0 rd0 dr0 : Int32} {y : Nat} {gW gS gL : Nat → Int64} {W : Nat → Nat} {mm : Nat} {gB gQ gZ gK gR : Nat → Int32} {x y1 z : Nat} {b1 c1 : Int32} (hB : MB tr fd ln sg tp b e) (hfe : fr ≤ e) (hx : x ≤ 128) : Fn (S := Int64 × Int32 × (Nat → Int64) × (Nat → Int32) × (Nat → Int32) × Nat × Bool) (gG D cI cJ cT) l yX9_go (.code yX9_go cX9_go 6 (some .long)) (rmD 5) [.ref m, .int (nI 12), .int (nI x), .int b1, .int c1, .int (nI fr)] [(m, .inr (9, [.int th, .int (nI fd), .int pc0, .int dw0, .int lt0, .ref mt, .ref mw, .ref mb, .ref ml, .ref mq, .ref mz, .ref ms, .ref mr, .int ic0, .ref mi, .int (dI tr), .int (nI sg), .int (nI ln), .int at0, .int rd0, .int dr0, .int ma0, .ref mk, .int en0, .ref mj, .ref mn])), (mt, .inl (cI, 16384, .inl tp)), (mw, .inl (cJ, 512, .inr (.inl gW))), (ms, .inl (cJ, 64, .inr (.inl gS))), (mb, .inl (cI, 8, .inl gB)), (ml, .inl (cJ, 512, .inr (.inl gL))), (mq, .inl (cI, 512, .inl gQ)), (mz, .inl (cI, 8, .inl gZ)), (mk, .inl (cI, 256, .inl gK)), (mr, .inl (cI, 512, .inl gR))] (fun u => Rg (sAns b e 12 x y1 z W mm fr) e fr false (mG (nI 12) u.1 u.2.1 u.2.2.2.1) u.2.2.2.2.2.1 u.2.2.2.2.2.2) (fun u => some (.long u.1)) (fun u => [(m, .inr (9, [.int th, .int (nI fd), .int pc0, .int dw0, .int lt0, .ref mt, .ref mw, .ref mb, .ref ml, .ref mq, .ref mz, .ref ms, .ref mr, .int ic0, .ref mi, .int (dI tr), .int (nI sg), .int (nI ln), .int (nI u.2.2.2.2.2.1), .int (nI (u.2.2.2.2.2.1 - fr)), .int (dI u.2.2.2.2.2.2), .int u.2.1, .ref mk, .int en0, .ref mj, .ref mn])), (mt, .inl (cI, 16384, .inl tp)), (mw, .inl (cJ, 512, .inr (.inl gW))), (ms, .inl (cJ, 64, .inr (.inl u.2.2.1))), (mb, .inl (cI, 8, .inl gB)), (ml, .inl (cJ, 512, .inr (.inl gL))), (mq, .inl (cI, 512, .inl gQ)), (mz, .inl (cI, 8, .inl gZ)), (mk, .inl (cI, 256, .inl u.2.2.2.1)), (mr, .inl (cI, 512, .inl u.2.2.2.2.1))]) := by
  refine Fn.intro (by decide) (Nat.le_of_ble_eq_true rfl) ?_
  intro X hX hE hin
  subst hX
  show V (gG D cI cJ cT) X _ cX9_go 6 RX9 _ 0 0 [(0, .ref m), (1, .int (nI 12)), (2, .int (nI x)), (3, .int b1), (4, .int c1), (5, .int (nI fr))] 0 []
  refine v_aload_n 0 dX9_go_0 rfl rfl ?_
  refine v_iload 5 dX9_go_1 rfl ?_
  refine v_put (ws' := [(m, .inr (9, [.int th, .int (nI fd), .int pc0, .int dw0, .int lt0, .ref mt, .ref mw, .ref mb, .ref ml, .ref mq, .ref mz, .ref ms, .ref mr, .int ic0, .ref mi, .int (dI tr), .int (nI sg), .int (nI ln), .int (nI fr), .int rd0, .int dr0, .int ma0, .ref mk, .int en0, .ref mj, .ref mn])), (mt, .inl (cI, 16384, .inl tp)), (mw, .inl (cJ, 512, .inr (.inl gW))), (ms, .inl (cJ, 64, .inr (.inl gS))), (mb, .inl (cI, 8, .inl gB)), (ml, .inl (cJ, 512, .inr (.inl gL))), (mq, .inl (cI, 512, .inl gQ)), (mz, .inl (cI, 8, .inl gZ)), (mk, .inl (cI, 256, .inl gK)), (mr, .inl (cI, 512, .inl gR))]) fw_SampleDeskModel_81 0 rfl (rfl) (rfl) (Nat.le_of_ble_eq_true rfl) dX9_go_3 rfl ?_
  refine v_aload_n 0 dX9_go_6 rfl rfl ?_
  refine v_iconst (v := nI (fr - fr)) dX9_go_7 (by rw [Nat.sub_self]; decide) ?_
  refine v_put (ws' := [(m, .inr (9, [.int th, .int (nI fd), .int pc0, .int dw0, .int lt0, .ref mt, .ref mw, .ref mb, .ref ml, .ref mq, .ref mz, .ref ms, .ref mr, .int ic0, .ref mi, .int (dI tr), .int (nI sg), .int (nI ln), .int (nI fr), .int (nI (fr - fr)), .int dr0, .int ma0, .ref mk, .int en0, .ref mj, .ref mn])), (mt, .inl (cI, 16384, .inl tp)), (mw, .inl (cJ, 512, .inr (.inl gW))), (ms, .inl (cJ, 64, .inr (.inl gS))), (mb, .inl (cI, 8, .inl gB)), (ml, .inl (cJ, 512, .inr (.inl gL))), (mq, .inl (cI, 512, .inl gQ)), (mz, .inl (cI, 8, .inl gZ)), (mk, .inl (cI, 256, .inl gK)), (mr, .inl (cI, 512, .inl gR))]) fw_SampleDeskModel_93 0 rfl (rfl) (rfl) (Nat.le_of_ble_eq_true rfl) dX9_go_8 rfl ?_
  refine v_aload_n 0 dX9_go_11 rfl rfl ?_
  refine v_iconst (v := dI false) dX9_go_12 (by decide) ?_
  refine v_put (ws' := [(m, .inr (9, [.int th, .int (nI fd), .int pc0, .int dw0, .int lt0, .ref mt, .ref mw, .ref mb, .ref ml, .ref mq, .ref mz, .ref ms, .ref mr, .int ic0, .ref mi, .int (dI tr), .int (nI sg), .int (nI ln), .int (nI fr), .int (nI (fr - fr)), .int (dI false), .int ma0, .ref mk, .int en0, .ref mj, .ref mn])), (mt, .inl (cI, 16384, .inl tp)), (mw, .inl (cJ, 512, .inr (.inl gW))), (ms, .inl (cJ, 64, .inr (.inl gS))), (mb, .inl (cI, 8, .inl gB)), (ml, .inl (cJ, 512, .inr (.inl gL))), (mq, .inl (cI, 512, .inl gQ)), (mz, .inl (cI, 8, .inl gZ)), (mk, .inl (cI, 256, .inl gK)), (mr, .inl (cI, 512, .inl gR))]) fw_SampleDeskModel_77 0 rfl (rfl) (rfl) (Nat.le_of_ble_eq_true rfl) dX9_go_13 rfl ?_
  refine v_iload_n 1 dX9_go_16 rfl rfl ?_
  refine v_if_ne (tgt := 26) dX9_go_17 (by decide) (fun b17 => ?_) (fun b17 => absurd b17 (by decide))
  refine v_iload_n 1 dX9_go_26 rfl rfl ?_
  refine v_iconst (v := nI 1) dX9_go_27 (by decide) ?_
  refine v_icmp_ne (tgt := 45) dX9_go_28 (by decide) (fun b28 => ?_) (fun b28 => absurd b28 (by decide))
  refine v_iload_n 1 dX9_go_45 rfl rfl ?_
  refine v_iconst (v := nI 2) dX9_go_46 (by decide) ?_
  refine v_icmp_ne (tgt := 60) dX9_go_47 (by decide) (fun b47 => ?_) (fun b47 => absurd b47 (by decide))
  refine v_iload_n 1 dX9_go_60 rfl rfl ?_
  refine v_iconst (v := nI 3) dX9_go_61 (by decide) ?_
  refine v_icmp_ne (tgt := 74) dX9_go_62 (by decide) (fun b62 => ?_) (fun b62 => absurd b62 (by decide))
  refine v_iload_n 1 dX9_go_74 rfl rfl ?_
  refine v_iconst (v := nI 4) dX9_go_75 (by decide) ?_
  refine v_icmp_ne (tgt := 88) dX9_go_76 (by decide) (fun b76 => ?_) (fun b76 => absurd b76 (by decide))
  refine v_iload_n 1 dX9_go_88 rfl rfl ?_
  refine v_iconst (v := nI 5) dX9_go_89 (by decide) ?_
  refine v_icmp_ne (tgt := 102) dX9_go_90 (by decide) (fun b90 => ?_) (fun b90 => absurd b90 (by decide))
  refine v_iload_n 1 dX9_go_102 rfl rfl ?_
  refine v_bipush (v := nI 6) dX9_go_103 (by decide) ?_
  refine v_icmp_ne (tgt := 117) dX9_go_105 (by decide) (fun b105 => ?_) (fun b105 => absurd b105 (by decide))
  refine v_iload_n 1 dX9_go_117 rfl rfl ?_
  refine v_bipush (v := nI 7) dX9_go_118 (by decide) ?_
  refine v_icmp_ne (tgt := 132) dX9_go_120 (by decide) (fun b120 => ?_) (fun b120 => absurd b120 (by decide))
  refine v_iload_n 1 dX9_go_132 rfl rfl ?_
  refine v_bipush (v := nI 8) dX9_go_133 (by decide) ?_
  refine v_icmp_ne (tgt := 148) dX9_go_135 (by decide) (fun b135 => ?_) (fun b135 => absurd b135 (by decide))
  refine v_aload_n 0 dX9_go_148 rfl rfl ?_
  refine v_iload_n 1 dX9_go_149 rfl rfl ?_
  refine v_iload_n 2 dX9_go_150 rfl rfl ?_
  refine v_iload_n 3 dX9_go_151 rfl rfl ?_
  refine v_callV (as := [.int (nI 12), .int (nI x), .int b1]) (rest := []) (ws' := fun u => [(m, .inr (9, [.int th, .int (nI fd), .int pc0, .int dw0, .int lt0, .ref mt, .ref mw, .ref mb, .ref ml, .ref mq, .ref mz, .ref ms, .ref mr, .int ic0, .ref mi, .int (dI tr), .int (nI sg), .int (nI ln), .int (nI u.2.2.2.1), .int (nI (u.2.2.2.1 - fr)), .int (dI u.2.2.2.2), .int u.1, .ref mk, .int en0, .ref mj, .ref mn])), (mt, .inl (cI, 16384, .inl tp)), (mw, .inl (cJ, 512, .inr (.inl gW))), (ms, .inl (cJ, 64, .inr (.inl gS))), (mb, .inl (cI, 8, .inl gB)), (ml, .inl (cJ, 512, .inr (.inl gL))), (mq, .inl (cI, 512, .inl gQ)), (mz, .inl (cI, 8, .inl gZ)), (mk, .inl (cI, 256, .inl u.2.1)), (mr, .inl (cI, 512, .inl u.2.2.1))]) m_SampleDeskModel_186 (kX9_makeItems_12 X.l (m := m) (mt := mt) (mw := mw) (mb := mb) (ml := ml) (mq := mq) (mz := mz) (ms := ms) (mr := mr) (mi := mi) (mk := mk) (mj := mj) (mn := mn) (th := th) (pc0 := pc0) (dw0 := dw0) (lt0 := lt0) (ic0 := ic0) (en0 := en0) (fd := fd) (sg := sg) (ln := ln) (fr := fr) (e := e) (tr := tr) (tp := tp) (b := b) (ma0 := ma0) (p := fr) (dr := false) (x := x) (y := y1) (b1 := b1) (gK := gK) (gR := gR) (z := z) (mm := mm) (W := W) hB (Nat.le_refl _) hfe (fun h => nomatch h) hx) k_code_X9_makeItems [0, 1, 8, 9] 0 rfl rfl rfl rfl dX9_go_152 (Nat.le_of_ble_eq_true rfl) ⟨rfl, rfl, by decide, by decide⟩ ⟨Nat.zero_le _, Nat.zero_le _⟩ rfl rfl (fun _ => rfl) (v_mgU rfl (fun _ => rfl)) ?_
  intro u152 c152
  obtain ⟨m1, g1, g2, p1, d1⟩ := u152
  try dsimp only at c152
  show V (gG D cI cJ cT) X (rmD 5) cX9_go 6 RX9 [(m, .inr (9, [.int th, .int (nI fd), .int pc0, .int dw0, .int lt0, .ref mt, .ref mw, .ref mb, .ref ml, .ref mq, .ref mz, .ref ms, .ref mr, .int ic0, .ref mi, .int (dI tr), .int (nI sg), .int (nI ln), .int (nI p1), .int (nI (p1 - fr)), .int (dI d1), .int m1, .ref mk, .int en0, .ref mj, .ref mn])), (mt, .inl (cI, 16384, .inl tp)), (mw, .inl (cJ, 512, .inr (.inl gW))), (ms, .inl (cJ, 64, .inr (.inl gS))), (mb, .inl (cI, 8, .inl gB)), (ml, .inl (cJ, 512, .inr (.inl gL))), (mq, .inl (cI, 512, .inl gQ)), (mz, .inl (cI, 8, .inl gZ)), (mk, .inl (cI, 256, .inl g1)), (mr, .inl (cI, 512, .inl g2))] 0 0 [(0, .ref m), (1, .int (nI 12)), (2, .int (nI x)), (3, .int b1), (4, .int c1), (5, .int (nI fr))] 155 [.long m1.toInt64]
  exact v_lret hE dX9_go_155 (m1.toInt64, m1, gS, g1, g2, p1, d1) (Rg_bG c152) rfl rfl
set_option maxRecDepth 100000 in
set_option maxHeartbeats 1000000 in
theorem kX9_go_13 {D : va_G} {cI cJ cT : ClassId} (l : Launch) {m mt mw mb ml mq mz ms mr mi mk mj mn : Nat} {th pc0 dw0 lt0 ic0 ma0 en0 : Int32} {fd sg ln fr e : Nat} {tr : Bool} {tp : Nat → Int32} {b : Nat → Nat} {at0 rd0 dr0 : Int32} {y : Nat} {gW gS gL : Nat → Int64} {W : Nat → Nat} {mm : Nat} {gB gQ gZ gK gR : Nat → Int32} {x y1 z : Nat} {c1 : Int32} (hB : MB tr fd ln sg tp b e) (hfe : fr ≤ e) (hx : x ≤ 256) (hy0 : 0 < y1) (hy1 : y1 < 2 ^ 31) : Fn (S := Int64 × Int32 × (Nat → Int64) × (Nat → Int32) × (Nat → Int32) × Nat × Bool) (gG D cI cJ cT) l yX9_go (.code yX9_go cX9_go 6 (some .long)) (rmD 5) [.ref m, .int (nI 13), .int (nI x), .int (nI y1), .int c1, .int (nI fr)] [(m, .inr (9, [.int th, .int (nI fd), .int pc0, .int dw0, .int lt0, .ref mt, .ref mw, .ref mb, .ref ml, .ref mq, .ref mz, .ref ms, .ref mr, .int ic0, .ref mi, .int (dI tr), .int (nI sg), .int (nI ln), .int at0, .int rd0, .int dr0, .int ma0, .ref mk, .int en0, .ref mj, .ref mn])), (mt, .inl (cI, 16384, .inl tp)), (mw, .inl (cJ, 512, .inr (.inl gW))), (ms, .inl (cJ, 64, .inr (.inl gS))), (mb, .inl (cI, 8, .inl gB)), (ml, .inl (cJ, 512, .inr (.inl gL))), (mq, .inl (cI, 512, .inl gQ)), (mz, .inl (cI, 8, .inl gZ)), (mk, .inl (cI, 256, .inl gK)), (mr, .inl (cI, 512, .inl gR))] (fun u => Rg (sAns b e 13 x y1 z W mm fr) e fr false (mG (nI 13) u.1 u.2.1 u.2.2.2.1) u.2.2.2.2.2.1 u.2.2.2.2.2.2) (fun u => some (.long u.1)) (fun u => [(m, .inr (9, [.int th, .int (nI fd), .int pc0, .int dw0, .int lt0, .ref mt, .ref mw, .ref mb, .ref ml, .ref mq, .ref mz, .ref ms, .ref mr, .int ic0, .ref mi, .int (dI tr), .int (nI sg), .int (nI ln), .int (nI u.2.2.2.2.2.1), .int (nI (u.2.2.2.2.2.1 - fr)), .int (dI u.2.2.2.2.2.2), .int u.2.1, .ref mk, .int en0, .ref mj, .ref mn])), (mt, .inl (cI, 16384, .inl tp)), (mw, .inl (cJ, 512, .inr (.inl gW))), (ms, .inl (cJ, 64, .inr (.inl u.2.2.1))), (mb, .inl (cI, 8, .inl gB)), (ml, .inl (cJ, 512, .inr (.inl gL))), (mq, .inl (cI, 512, .inl gQ)), (mz, .inl (cI, 8, .inl gZ)), (mk, .inl (cI, 256, .inl u.2.2.2.1)), (mr, .inl (cI, 512, .inl u.2.2.2.2.1))]) := by
  refine Fn.intro (by decide) (Nat.le_of_ble_eq_true rfl) ?_
  intro X hX hE hin
  subst hX
  show V (gG D cI cJ cT) X _ cX9_go 6 RX9 _ 0 0 [(0, .ref m), (1, .int (nI 13)), (2, .int (nI x)), (3, .int (nI y1)), (4, .int c1), (5, .int (nI fr))] 0 []
  refine v_aload_n 0 dX9_go_0 rfl rfl ?_
  refine v_iload 5 dX9_go_1 rfl ?_
  refine v_put (ws' := [(m, .inr (9, [.int th, .int (nI fd), .int pc0, .int dw0, .int lt0, .ref mt, .ref mw, .ref mb, .ref ml, .ref mq, .ref mz, .ref ms, .ref mr, .int ic0, .ref mi, .int (dI tr), .int (nI sg), .int (nI ln), .int (nI fr), .int rd0, .int dr0, .int ma0, .ref mk, .int en0, .ref mj, .ref mn])), (mt, .inl (cI, 16384, .inl tp)), (mw, .inl (cJ, 512, .inr (.inl gW))), (ms, .inl (cJ, 64, .inr (.inl gS))), (mb, .inl (cI, 8, .inl gB)), (ml, .inl (cJ, 512, .inr (.inl gL))), (mq, .inl (cI, 512, .inl gQ)), (mz, .inl (cI, 8, .inl gZ)), (mk, .inl (cI, 256, .inl gK)), (mr, .inl (cI, 512, .inl gR))]) fw_SampleDeskModel_81 0 rfl (rfl) (rfl) (Nat.le_of_ble_eq_true rfl) dX9_go_3 rfl ?_
  refine v_aload_n 0 dX9_go_6 rfl rfl ?_
  refine v_iconst (v := nI (fr - fr)) dX9_go_7 (by rw [Nat.sub_self]; decide) ?_
  refine v_put (ws' := [(m, .inr (9, [.int th, .int (nI fd), .int pc0, .int dw0, .int lt0, .ref mt, .ref mw, .ref mb, .ref ml, .ref mq, .ref mz, .ref ms, .ref mr, .int ic0, .ref mi, .int (dI tr), .int (nI sg), .int (nI ln), .int (nI fr), .int (nI (fr - fr)), .int dr0, .int ma0, .ref mk, .int en0, .ref mj, .ref mn])), (mt, .inl (cI, 16384, .inl tp)), (mw, .inl (cJ, 512, .inr (.inl gW))), (ms, .inl (cJ, 64, .inr (.inl gS))), (mb, .inl (cI, 8, .inl gB)), (ml, .inl (cJ, 512, .inr (.inl gL))), (mq, .inl (cI, 512, .inl gQ)), (mz, .inl (cI, 8, .inl gZ)), (mk, .inl (cI, 256, .inl gK)), (mr, .inl (cI, 512, .inl gR))]) fw_SampleDeskModel_93 0 rfl (rfl) (rfl) (Nat.le_of_ble_eq_true rfl) dX9_go_8 rfl ?_
  refine v_aload_n 0 dX9_go_11 rfl rfl ?_
  refine v_iconst (v := dI false) dX9_go_12 (by decide) ?_
  refine v_put (ws' := [(m, .inr (9, [.int th, .int (nI fd), .int pc0, .int dw0, .int lt0, .ref mt, .ref mw, .ref mb, .ref ml, .ref mq, .ref mz, .ref ms, .ref mr, .int ic0, .ref mi, .int (dI tr), .int (nI sg), .int (nI ln), .int (nI fr), .int (nI (fr - fr)), .int (dI false), .int ma0, .ref mk, .int en0, .ref mj, .ref mn])), (mt, .inl (cI, 16384, .inl tp)), (mw, .inl (cJ, 512, .inr (.inl gW))), (ms, .inl (cJ, 64, .inr (.inl gS))), (mb, .inl (cI, 8, .inl gB)), (ml, .inl (cJ, 512, .inr (.inl gL))), (mq, .inl (cI, 512, .inl gQ)), (mz, .inl (cI, 8, .inl gZ)), (mk, .inl (cI, 256, .inl gK)), (mr, .inl (cI, 512, .inl gR))]) fw_SampleDeskModel_77 0 rfl (rfl) (rfl) (Nat.le_of_ble_eq_true rfl) dX9_go_13 rfl ?_
  refine v_iload_n 1 dX9_go_16 rfl rfl ?_
  refine v_if_ne (tgt := 26) dX9_go_17 (by decide) (fun b17 => ?_) (fun b17 => absurd b17 (by decide))
  refine v_iload_n 1 dX9_go_26 rfl rfl ?_
  refine v_iconst (v := nI 1) dX9_go_27 (by decide) ?_
  refine v_icmp_ne (tgt := 45) dX9_go_28 (by decide) (fun b28 => ?_) (fun b28 => absurd b28 (by decide))
  refine v_iload_n 1 dX9_go_45 rfl rfl ?_
  refine v_iconst (v := nI 2) dX9_go_46 (by decide) ?_
  refine v_icmp_ne (tgt := 60) dX9_go_47 (by decide) (fun b47 => ?_) (fun b47 => absurd b47 (by decide))
  refine v_iload_n 1 dX9_go_60 rfl rfl ?_
  refine v_iconst (v := nI 3) dX9_go_61 (by decide) ?_
  refine v_icmp_ne (tgt := 74) dX9_go_62 (by decide) (fun b62 => ?_) (fun b62 => absurd b62 (by decide))
  refine v_iload_n 1 dX9_go_74 rfl rfl ?_
  refine v_iconst (v := nI 4) dX9_go_75 (by decide) ?_
  refine v_icmp_ne (tgt := 88) dX9_go_76 (by decide) (fun b76 => ?_) (fun b76 => absurd b76 (by decide))
  refine v_iload_n 1 dX9_go_88 rfl rfl ?_
  refine v_iconst (v := nI 5) dX9_go_89 (by decide) ?_
  refine v_icmp_ne (tgt := 102) dX9_go_90 (by decide) (fun b90 => ?_) (fun b90 => absurd b90 (by decide))
  refine v_iload_n 1 dX9_go_102 rfl rfl ?_
  refine v_bipush (v := nI 6) dX9_go_103 (by decide) ?_
  refine v_icmp_ne (tgt := 117) dX9_go_105 (by decide) (fun b105 => ?_) (fun b105 => absurd b105 (by decide))
  refine v_iload_n 1 dX9_go_117 rfl rfl ?_
  refine v_bipush (v := nI 7) dX9_go_118 (by decide) ?_
  refine v_icmp_ne (tgt := 132) dX9_go_120 (by decide) (fun b120 => ?_) (fun b120 => absurd b120 (by decide))
  refine v_iload_n 1 dX9_go_132 rfl rfl ?_
  refine v_bipush (v := nI 8) dX9_go_133 (by decide) ?_
  refine v_icmp_ne (tgt := 148) dX9_go_135 (by decide) (fun b135 => ?_) (fun b135 => absurd b135 (by decide))
  refine v_aload_n 0 dX9_go_148 rfl rfl ?_
  refine v_iload_n 1 dX9_go_149 rfl rfl ?_
  refine v_iload_n 2 dX9_go_150 rfl rfl ?_
  refine v_iload_n 3 dX9_go_151 rfl rfl ?_
  refine v_callV (as := [.int (nI 13), .int (nI x), .int (nI y1)]) (rest := []) (ws' := fun u => [(m, .inr (9, [.int th, .int (nI fd), .int pc0, .int dw0, .int lt0, .ref mt, .ref mw, .ref mb, .ref ml, .ref mq, .ref mz, .ref ms, .ref mr, .int ic0, .ref mi, .int (dI tr), .int (nI sg), .int (nI ln), .int (nI u.2.2.2.1), .int (nI (u.2.2.2.1 - fr)), .int (dI u.2.2.2.2), .int u.1, .ref mk, .int en0, .ref mj, .ref mn])), (mt, .inl (cI, 16384, .inl tp)), (mw, .inl (cJ, 512, .inr (.inl gW))), (ms, .inl (cJ, 64, .inr (.inl gS))), (mb, .inl (cI, 8, .inl gB)), (ml, .inl (cJ, 512, .inr (.inl gL))), (mq, .inl (cI, 512, .inl gQ)), (mz, .inl (cI, 8, .inl gZ)), (mk, .inl (cI, 256, .inl u.2.1)), (mr, .inl (cI, 512, .inl u.2.2.1))]) m_SampleDeskModel_186 (kX9_makeItems_13 X.l (m := m) (mt := mt) (mw := mw) (mb := mb) (ml := ml) (mq := mq) (mz := mz) (ms := ms) (mr := mr) (mi := mi) (mk := mk) (mj := mj) (mn := mn) (th := th) (pc0 := pc0) (dw0 := dw0) (lt0 := lt0) (ic0 := ic0) (en0 := en0) (fd := fd) (sg := sg) (ln := ln) (fr := fr) (e := e) (tr := tr) (tp := tp) (b := b) (ma0 := ma0) (p := fr) (dr := false) (x := x) (y := y1) (gK := gK) (gR := gR) (z := z) (mm := mm) (W := W) hB (Nat.le_refl _) hfe (fun h => nomatch h) hx hy0 hy1) k_code_X9_makeItems [0, 1, 8, 9] 0 rfl rfl rfl rfl dX9_go_152 (Nat.le_of_ble_eq_true rfl) ⟨rfl, rfl, by decide, by decide⟩ ⟨Nat.zero_le _, Nat.zero_le _⟩ rfl rfl (fun _ => rfl) (v_mgU rfl (fun _ => rfl)) ?_
  intro u152 c152
  obtain ⟨m1, g1, g2, p1, d1⟩ := u152
  try dsimp only at c152
  show V (gG D cI cJ cT) X (rmD 5) cX9_go 6 RX9 [(m, .inr (9, [.int th, .int (nI fd), .int pc0, .int dw0, .int lt0, .ref mt, .ref mw, .ref mb, .ref ml, .ref mq, .ref mz, .ref ms, .ref mr, .int ic0, .ref mi, .int (dI tr), .int (nI sg), .int (nI ln), .int (nI p1), .int (nI (p1 - fr)), .int (dI d1), .int m1, .ref mk, .int en0, .ref mj, .ref mn])), (mt, .inl (cI, 16384, .inl tp)), (mw, .inl (cJ, 512, .inr (.inl gW))), (ms, .inl (cJ, 64, .inr (.inl gS))), (mb, .inl (cI, 8, .inl gB)), (ml, .inl (cJ, 512, .inr (.inl gL))), (mq, .inl (cI, 512, .inl gQ)), (mz, .inl (cI, 8, .inl gZ)), (mk, .inl (cI, 256, .inl g1)), (mr, .inl (cI, 512, .inl g2))] 0 0 [(0, .ref m), (1, .int (nI 13)), (2, .int (nI x)), (3, .int (nI y1)), (4, .int c1), (5, .int (nI fr))] 155 [.long m1.toInt64]
  exact v_lret hE dX9_go_155 (m1.toInt64, m1, gS, g1, g2, p1, d1) (Rg_bG c152) rfl rfl
set_option maxRecDepth 100000 in
set_option maxHeartbeats 1000000 in
theorem kX9_go {D : va_G} {cI cJ cT : ClassId} (l : Launch) {m mt mw mb ml mq mz ms mr mi mk mj mn : Nat} {th pc0 dw0 lt0 ic0 ma0 en0 : Int32} {fd sg ln fr e : Nat} {tr : Bool} {tp : Nat → Int32} {b : Nat → Nat} {at0 rd0 dr0 : Int32} {y : Nat} {gW gS gL : Nat → Int64} {W : Nat → Nat} {mm : Nat} {gB gQ gZ gK gR : Nat → Int32} {kd a b1 c : Int32} (hB : MB tr fd ln sg tp b e) (hfe : fr ≤ e) (hok : okD kd a b1 c = true) (hW : ∀ x, x < 64 → gW (64 * y + x) = lN (W x)) (hWb : ∀ x, x < 64 → W x < 2 ^ 31) (hy : y < 8) (ht : kd = nI 0 → a = nI y ∧ 0 < sumN W 64 ∧ mm ≤ 1 ∧ gB y = nI (mm + 1) ∧ (mm = 1 → gZ y = nI (topN W 64) ∧ (∀ x, x < topN W 64 → gL (64 * y + x) = lN ((alS W (topN W 64) (sumN W 64)).1 x)) ∧ ∀ x, x < topN W 64 → gQ (64 * y + x) = nI ((alS W (topN W 64) (sumN W 64)).2 x))) : Fn (S := Int64 × Int32 × (Nat → Int64) × (Nat → Int32) × (Nat → Int32) × Nat × Bool) (gG D cI cJ cT) l yX9_go (.code yX9_go cX9_go 6 (some .long)) (rmD 5) [.ref m, .int kd, .int a, .int b1, .int c, .int (nI fr)] [(m, .inr (9, [.int th, .int (nI fd), .int pc0, .int dw0, .int lt0, .ref mt, .ref mw, .ref mb, .ref ml, .ref mq, .ref mz, .ref ms, .ref mr, .int ic0, .ref mi, .int (dI tr), .int (nI sg), .int (nI ln), .int at0, .int rd0, .int dr0, .int ma0, .ref mk, .int en0, .ref mj, .ref mn])), (mt, .inl (cI, 16384, .inl tp)), (mw, .inl (cJ, 512, .inr (.inl gW))), (ms, .inl (cJ, 64, .inr (.inl gS))), (mb, .inl (cI, 8, .inl gB)), (ml, .inl (cJ, 512, .inr (.inl gL))), (mq, .inl (cI, 512, .inl gQ)), (mz, .inl (cI, 8, .inl gZ)), (mk, .inl (cI, 256, .inl gK)), (mr, .inl (cI, 512, .inl gR))] (fun u => Rg (sAnsI b e kd a b1 c W mm fr) e fr false (mG kd u.1 u.2.1 u.2.2.2.1) u.2.2.2.2.2.1 u.2.2.2.2.2.2) (fun u => some (.long u.1)) (fun u => [(m, .inr (9, [.int th, .int (nI fd), .int pc0, .int dw0, .int lt0, .ref mt, .ref mw, .ref mb, .ref ml, .ref mq, .ref mz, .ref ms, .ref mr, .int ic0, .ref mi, .int (dI tr), .int (nI sg), .int (nI ln), .int (nI u.2.2.2.2.2.1), .int (nI (u.2.2.2.2.2.1 - fr)), .int (dI u.2.2.2.2.2.2), .int u.2.1, .ref mk, .int en0, .ref mj, .ref mn])), (mt, .inl (cI, 16384, .inl tp)), (mw, .inl (cJ, 512, .inr (.inl gW))), (ms, .inl (cJ, 64, .inr (.inl u.2.2.1))), (mb, .inl (cI, 8, .inl gB)), (ml, .inl (cJ, 512, .inr (.inl gL))), (mq, .inl (cI, 512, .inl gQ)), (mz, .inl (cI, 8, .inl gZ)), (mk, .inl (cI, 256, .inl u.2.2.2.1)), (mr, .inl (cI, 512, .inl u.2.2.2.2.1))]) := by
  rcases sw14 kd with h | ⟨k, hk0, rfl⟩
  · rw [show okD kd a b1 c = false from if_pos h] at hok; cases hok
  rcases (show k = 0 ∨ k = 1 ∨ k = 2 ∨ k = 3 ∨ k = 4 ∨ k = 5 ∨ k = 6 ∨ k = 7 ∨ k = 8 ∨ k = 9 ∨ k = 10 ∨ k = 11 ∨ k = 12 ∨ k = 13 by omega) with rfl | rfl | rfl | rfl | rfl | rfl | rfl | rfl | rfl | rfl | rfl | rfl | rfl | rfl
  · have hk : okK 0 a b1 c = true := by rw [← okD_k (by decide)]; exact hok
    simp only [okK, Bool.and_eq_true, Bool.not_eq_true', decide_eq_false_iff_not, decide_eq_true_eq] at hk
    obtain ⟨x, hx, rfl⟩ := up_of (M := 7) (by decide) (by decide) hk
    obtain ⟨exy, hs0, hM, hBt, hal⟩ := ht rfl
    have exy2 := (nI_eq (by omega) (by omega)).mp exy
    subst exy2
    unfold sAnsI
    rw [kd_k (by decide)]
    rw [nI_clamp (by omega)]
    exact kX9_go_0 l hB hfe hW hWb hy hs0 hM hBt hal
  · have hk : okK 1 a b1 c = true := by rw [← okD_k (by decide)]; exact hok
    simp only [okK, Bool.and_eq_true, Bool.not_eq_true', decide_eq_false_iff_not, decide_eq_true_eq] at hk
    obtain ⟨x, hx, rfl⟩ := nI_of hk.1.1
    obtain ⟨y1, hy1, rfl⟩ := up_of (M := 511) (by decide) (by decide) hk.1.2
    have hw := hk.2
    unfold wd at hw
    rw [nI_l (by omega), nI_l (by omega), show (2147483648 : Int64) = lN 2147483648 by decide, show (1 : Int64) = lN 1 by decide, lN_mul, lN_add, pk_lLT (by omega) (by decide)] at hw
    unfold sAnsI
    rw [kd_k (by decide)]
    rw [nI_clamp (by omega), nI_clamp (by omega)]
    exact kX9_go_1 (y := y) l hB hfe hx hy1 (by omega)
  · have hk : okK 2 a b1 c = true := by rw [← okD_k (by decide)]; exact hok
    simp only [okK, Bool.and_eq_true, Bool.not_eq_true', decide_eq_false_iff_not, decide_eq_true_eq] at hk
    obtain ⟨x, y1, hx, hy0, hy1, hxy, rfl, rfl⟩ := ra_of (M := 1) (by decide) (by decide) hk
    unfold sAnsI
    rw [kd_k (by decide)]
    rw [nI_clamp (by omega), nI_clamp (by omega)]
    exact kX9_go_2 (y := y) l hB hfe (by omega) hy1
  · have hk : okK 3 a b1 c = true := by rw [← okD_k (by decide)]; exact hok
    simp only [okK, Bool.and_eq_true, Bool.not_eq_true', decide_eq_false_iff_not, decide_eq_true_eq] at hk
    obtain ⟨x, hx, rfl⟩ := up_of (M := 1000) (by decide) (by decide) hk.1
    obtain ⟨y1, z, hy1, hz0, hz, hyz, rfl, rfl⟩ := ra_of (M := 1) (by decide) (by decide) hk.2
    unfold sAnsI
    rw [kd_k (by decide)]
    rw [nI_clamp (by omega), nI_clamp (by omega), nI_clamp (by omega)]
    exact kX9_go_3 (y := y) l hB hfe hx (by omega) hz
  · have hk : okK 4 a b1 c = true := by rw [← okD_k (by decide)]; exact hok
    simp only [okK, Bool.and_eq_true, Bool.not_eq_true', decide_eq_false_iff_not, decide_eq_true_eq] at hk
    obtain ⟨x, y1, hx, hy0, hy1, hxy, rfl, rfl⟩ := ra_of (M := 1) (by decide) (by decide) hk.1
    obtain ⟨z, hz, rfl⟩ := up_of (M := 100000) (by decide) (by decide) hk.2
    unfold sAnsI
    rw [kd_k (by decide)]
    rw [nI_clamp (by omega), nI_clamp (by omega), nI_clamp (by omega)]
    exact kX9_go_4 (y := y) l hB hfe (by omega) hy1 hz
  · have hk : okK 5 a b1 c = true := by rw [← okD_k (by decide)]; exact hok
    simp only [okK, Bool.and_eq_true, Bool.not_eq_true', decide_eq_false_iff_not, decide_eq_true_eq] at hk
    obtain ⟨x, y1, hx, hy0, hy1, hxy, rfl, rfl⟩ := ra_of (M := 64) (by decide) (by decide) hk
    unfold sAnsI
    rw [kd_k (by decide)]
    rw [nI_clamp (by omega), nI_clamp (by omega)]
    exact kX9_go_5 (y := y) l hB hfe hx hy0 hxy hy1
  · have hk : okK 6 a b1 c = true := by rw [← okD_k (by decide)]; exact hok
    simp only [okK, Bool.and_eq_true, Bool.not_eq_true', decide_eq_false_iff_not, decide_eq_true_eq] at hk
    obtain ⟨x, hx, rfl⟩ := up_of (M := 100000) (by decide) (by decide) hk.1.1
    obtain ⟨y1, hy1, rfl⟩ := up_of (M := 100000) (by decide) (by decide) hk.1.2
    obtain ⟨z, hz, rfl⟩ := up_of (M := x + y1) (nI_add x y1) (by omega) hk.2
    unfold sAnsI
    rw [kd_k (by decide)]
    rw [nI_clamp (by omega), nI_clamp (by omega), nI_clamp (by omega)]
    exact kX9_go_6 (y := y) l hB hfe hx hy1 hz
  · have hk : okK 7 a b1 c = true := by rw [← okD_k (by decide)]; exact hok
    simp only [okK, Bool.and_eq_true, Bool.not_eq_true', decide_eq_false_iff_not, decide_eq_true_eq] at hk
    obtain ⟨x, hx, rfl⟩ := up_of (M := 1000) (by decide) (by decide) hk.1.1.2
    obtain ⟨x2, hx1, hx3, e1⟩ := ge1_of hk.1.1.1
    have e2 := (nI_eq (by omega) hx3).mp e1
    obtain ⟨y1, hy1, rfl⟩ := up_of (M := 10) (by decide) (by decide) hk.2
    obtain ⟨y2, hy2, hy3, e3⟩ := ge1_of hk.1.2
    have e4 := (nI_eq (by omega) hy3).mp e3
    unfold sAnsI
    rw [kd_k (by decide)]
    rw [nI_clamp (by omega), nI_clamp (by omega)]
    exact kX9_go_7 (y := y) l hB hfe hx (by omega) hy1 (by omega)
  · have hk : okK 8 a b1 c = true := by rw [← okD_k (by decide)]; exact hok
    simp only [okK, Bool.and_eq_true, Bool.not_eq_true', decide_eq_false_iff_not, decide_eq_true_eq] at hk
    obtain ⟨x, y1, hx, hy0, hy1, hxy, rfl, rfl⟩ := ra_of (M := 1000) (by decide) (by decide) hk
    unfold sAnsI
    rw [kd_k (by decide)]
    rw [nI_clamp (by omega), nI_clamp (by omega)]
    exact kX9_go_8 (y := y) l hB hfe hx hy0 hy1
  · have hk : okK 9 a b1 c = true := by rw [← okD_k (by decide)]; exact hok
    simp only [okK, Bool.and_eq_true, Bool.not_eq_true', decide_eq_false_iff_not, decide_eq_true_eq] at hk
    obtain ⟨x, hx, rfl⟩ := up_of (M := 256) (by decide) (by decide) hk
    unfold sAnsI
    rw [kd_k (by decide)]
    rw [nI_clamp (by omega)]
    exact kX9_go_9 (y := y) l hB hfe hx
  · have hk : okK 10 a b1 c = true := by rw [← okD_k (by decide)]; exact hok
    simp only [okK, Bool.and_eq_true, Bool.not_eq_true', decide_eq_false_iff_not, decide_eq_true_eq] at hk
    obtain ⟨x, hx, rfl⟩ := up_of (M := 256) (by decide) (by decide) hk.1
    obtain ⟨y1, hy1, rfl⟩ := up_of (M := x) rfl (by omega) hk.2
    unfold sAnsI
    rw [kd_k (by decide)]
    rw [nI_clamp (by omega), nI_clamp (by omega)]
    exact kX9_go_10 (y := y) l hB hfe hx hy1
  · have hk : okK 11 a b1 c = true := by rw [← okD_k (by decide)]; exact hok
    simp only [okK, Bool.and_eq_true, Bool.not_eq_true', decide_eq_false_iff_not, decide_eq_true_eq] at hk
    obtain ⟨x, hx, rfl⟩ := up_of (M := 128) (by decide) (by decide) hk
    unfold sAnsI
    rw [kd_k (by decide)]
    rw [nI_clamp (by omega)]
    exact kX9_go_11 (y := y) l hB hfe hx
  · have hk : okK 12 a b1 c = true := by rw [← okD_k (by decide)]; exact hok
    simp only [okK, Bool.and_eq_true, Bool.not_eq_true', decide_eq_false_iff_not, decide_eq_true_eq] at hk
    obtain ⟨x, hx, rfl⟩ := up_of (M := 128) (by decide) (by decide) hk
    unfold sAnsI
    rw [kd_k (by decide)]
    rw [nI_clamp (by omega)]
    exact kX9_go_12 (y := y) l hB hfe hx
  · have hk : okK 13 a b1 c = true := by rw [← okD_k (by decide)]; exact hok
    simp only [okK, Bool.and_eq_true, Bool.not_eq_true', decide_eq_false_iff_not, decide_eq_true_eq] at hk
    obtain ⟨x, hx, rfl⟩ := up_of (M := 256) (by decide) (by decide) hk.1.1
    obtain ⟨y1, hy0, hy1, rfl⟩ := ge1_of hk.1.2
    unfold sAnsI
    rw [kd_k (by decide)]
    rw [nI_clamp (by omega), nI_clamp (by omega)]
    exact kX9_go_13 (y := y) l hB hfe hx hy0 hy1
