set_option maxRecDepth 100000 in
set_option maxHeartbeats 4000000 in
theorem kX9_sum_loop {D : va_G} {cI cJ cT : ClassId} {X : vX} {m mt mw mb ml mq mz ms mr mi mk mj mn : Nat} {th fd0 pc0 dw0 lt0 ic0 tr0 sg0 ln0 at0 rd0 dr0 ma0 en0 : Int32} {y : Nat} {gW : Nat → Int64} {W : Nat → Nat} (hW : ∀ x, x < 64 → gW (64 * y + x) = lN (W x)) (hWb : ∀ x, x < 64 → W x < 2 ^ 31) (hy : y < 8) {W0 : va_W} {post : Unit → Prop} (hq : ∀ u, True → post u) (hE : vE (gG D cI cJ cT) X (some .long) W0 post (fun u => some (.long (lN (sumN W 64)))) (fun u => [(m, .inr (9, [.int th, .int fd0, .int pc0, .int dw0, .int lt0, .ref mt, .ref mw, .ref mb, .ref ml, .ref mq, .ref mz, .ref ms, .ref mr, .int ic0, .ref mi, .int tr0, .int sg0, .int ln0, .int at0, .int rd0, .int dr0, .int ma0, .ref mk, .int en0, .ref mj, .ref mn])), (mw, .inl (cJ, 512, .inr (.inl gW)))])) :
    ∀ (k : Nat) (i : Nat), i ≤ 64 → 64 - i < k → V (gG D cI cJ cT) X (rmD 0) cX9_sum 5 RX9 [(m, .inr (9, [.int th, .int fd0, .int pc0, .int dw0, .int lt0, .ref mt, .ref mw, .ref mb, .ref ml, .ref mq, .ref mz, .ref ms, .ref mr, .int ic0, .ref mi, .int tr0, .int sg0, .int ln0, .int at0, .int rd0, .int dr0, .int ma0, .ref mk, .int en0, .ref mj, .ref mn])), (mw, .inl (cJ, 512, .inr (.inl gW)))] 0 0 [(0, .ref m), (1, .int (nI y)), (2, .long (lN (sumN W i))), (4, .int (nI i))] 5 [] := by
  intro k
  induction k with
  | zero => intro i hi hk; omega
  | succ k ih =>
    intro i hi hk
    refine v_iload 3 dX9_sum_5 rfl ?_
    refine v_bipush (v := nI 64) dX9_sum_7 (by decide) ?_
    refine v_icmp_ge (tgt := 33) dX9_sum_9 (by decide) (fun b9 => ?_) (fun b9 => ?_)
    · have b9 : 64 ≤ i := (nI_leI (by decide) (by omega)).mp b9
      have hi64 : i = 64 := by omega
      subst hi64
      refine v_lload_n 2 dX9_sum_33 rfl rfl ?_
      exact v_lret hE dX9_sum_34 () (hq _ trivial) rfl rfl
    · have b9 : ¬ (64 ≤ i) := fun q => b9 ((nI_leI (by decide) (by omega)).mpr q)
      refine v_lload_n 2 dX9_sum_12 rfl rfl ?_
      refine v_aload_n 0 dX9_sum_13 rfl rfl ?_
      refine v_get f_SampleDeskModel_13 0 rfl rfl dX9_sum_14 ?_
      refine v_bipush (v := nI 64) dX9_sum_17 (by decide) ?_
      refine v_iload_n 1 dX9_sum_19 rfl rfl ?_
      refine v_imul dX9_sum_20 ?_
      refine v_topi (y := nI (64 * y)) (pk_mul _ _) ?_
      refine v_iload 3 dX9_sum_21 rfl ?_
      refine v_iadd dX9_sum_23 ?_
      refine v_topi (y := nI (64 * y + i)) (nI_add _ _) ?_
      refine v_lald 1 1 rfl rfl (by omega) (by omega) dX9_sum_24 ?_
      refine v_topl (y := lN (W i)) (hW i (by omega)) ?_
      refine v_ladd dX9_sum_25 ?_
      refine v_topl (y := lN (sumN W (i + 1))) (lN_add _ _) ?_
      refine v_lstore_n (lv' := [(2, .long (lN (sumN W (i + 1)))), (0, .ref m), (1, .int (nI y)), (4, .int (nI i))]) dX9_sum_26 rfl (by decide) rfl ?_
      refine v_iinc (lv' := [(4, .int (nI (i + 1))), (2, .long (lN (sumN W (i + 1)))), (0, .ref m), (1, .int (nI y))]) (v := nI (i + 1)) 3 dX9_sum_27 rfl (nI_1 i) (by decide) rfl ?_
      refine v_goto (tgt := 5) dX9_sum_30 (by decide) ?_
      refine v_lv [2, 3, 1, 0] rfl ?_
      exact ih (i + 1) (by omega) (by omega)
set_option maxRecDepth 100000 in
set_option maxHeartbeats 4000000 in
theorem kX9_sum {D : va_G} {cI cJ cT : ClassId} (l : Launch) {m mt mw mb ml mq mz ms mr mi mk mj mn : Nat} {th fd0 pc0 dw0 lt0 ic0 tr0 sg0 ln0 at0 rd0 dr0 ma0 en0 : Int32} {y : Nat} {gW : Nat → Int64} {W : Nat → Nat} (hW : ∀ x, x < 64 → gW (64 * y + x) = lN (W x)) (hWb : ∀ x, x < 64 → W x < 2 ^ 31) (hy : y < 8) : Fn (S := Unit) (gG D cI cJ cT) l yX9_sum (.code yX9_sum cX9_sum 5 (some .long)) (rmD 0) [.ref m, .int (nI y)] [(m, .inr (9, [.int th, .int fd0, .int pc0, .int dw0, .int lt0, .ref mt, .ref mw, .ref mb, .ref ml, .ref mq, .ref mz, .ref ms, .ref mr, .int ic0, .ref mi, .int tr0, .int sg0, .int ln0, .int at0, .int rd0, .int dr0, .int ma0, .ref mk, .int en0, .ref mj, .ref mn])), (mw, .inl (cJ, 512, .inr (.inl gW)))] (fun _ => True) (fun u => some (.long (lN (sumN W 64)))) (fun u => [(m, .inr (9, [.int th, .int fd0, .int pc0, .int dw0, .int lt0, .ref mt, .ref mw, .ref mb, .ref ml, .ref mq, .ref mz, .ref ms, .ref mr, .int ic0, .ref mi, .int tr0, .int sg0, .int ln0, .int at0, .int rd0, .int dr0, .int ma0, .ref mk, .int en0, .ref mj, .ref mn])), (mw, .inl (cJ, 512, .inr (.inl gW)))]) := by
  refine Fn.intro (by decide) (Nat.le_of_ble_eq_true rfl) ?_
  intro X hX hE hin
  subst hX
  show V (gG D cI cJ cT) X _ cX9_sum 5 RX9 _ 0 0 [(0, .ref m), (1, .int (nI y))] 0 []
  refine v_lconst (v := lN 0) dX9_sum_0 (by decide) ?_
  refine v_lstore_n (lv' := [(2, .long (lN 0)), (0, .ref m), (1, .int (nI y))]) dX9_sum_1 rfl (by decide) rfl ?_
  refine v_iconst (v := nI 0) dX9_sum_2 (by decide) ?_
  refine v_istore (lv' := [(4, .int (nI 0)), (2, .long (lN 0)), (0, .ref m), (1, .int (nI y))]) dX9_sum_3 (by decide) rfl ?_
  refine v_lv [2, 3, 1, 0] rfl ?_
  exact kX9_sum_loop hW hWb hy (fun u _ => trivial) hE 65 0 (by omega) (by omega)
set_option maxRecDepth 100000 in
set_option maxHeartbeats 4000000 in
theorem kX9_tree_rest {D : va_G} {cI cJ cT : ClassId} {X : vX} {m mt mw mb ml mq mz ms mr mi mk mj mn : Nat} {th pc0 dw0 lt0 ic0 ma0 en0 : Int32} {fd sg ln fr e : Nat} {tr : Bool} {tp : Nat → Int32} {b : Nat → Nat} {tn sm dd p y : Nat} {dr : Bool} {gW : Nat → Int64} {r : Nat → Nat} (htp0 : 0 < tn) (htp : tn ≤ 64) (hsm0 : 0 < sm) (hsm : sm < 2 ^ 40)  :
    ∀ (k : Nat) (i : Nat) (gS : Nat → Int64), 64 - i < k → tn ≤ i ∧ i ≤ 64 → (∀ x, x < tn → gS x = lN (r x)) → (∀ x, tn ≤ x → x < 64 → gS x = lN 0) → (∀ g2, (∀ x, x < tn → g2 x = lN (r x)) → (∀ x, tn ≤ x → x < 64 → g2 x = lN 0) → V (gG D cI cJ cT) X (rmD 1) cX9_fromTree 7 RX9 [(m, .inr (9, [.int th, .int (nI fd), .int pc0, .int dw0, .int lt0, .ref mt, .ref mw, .ref mb, .ref ml, .ref mq, .ref mz, .ref ms, .ref mr, .int ic0, .ref mi, .int (dI tr), .int (nI sg), .int (nI ln), .int (nI p), .int (nI (p - fr)), .int (dI dr), .int ma0, .ref mk, .int en0, .ref mj, .ref mn])), (mt, .inl (cI, 16384, .inl tp)), (mw, .inl (cJ, 512, .inr (.inl gW))), (ms, .inl (cJ, 64, .inr (.inl g2)))] 0 0 [(0, .ref m), (1, .int (nI y)), (2, .long (lN sm)), (4, .long (lN dd))] 160 []) → V (gG D cI cJ cT) X (rmD 1) cX9_fromTree 7 RX9 [(m, .inr (9, [.int th, .int (nI fd), .int pc0, .int dw0, .int lt0, .ref mt, .ref mw, .ref mb, .ref ml, .ref mq, .ref mz, .ref ms, .ref mr, .int ic0, .ref mi, .int (dI tr), .int (nI sg), .int (nI ln), .int (nI p), .int (nI (p - fr)), .int (dI dr), .int ma0, .ref mk, .int en0, .ref mj, .ref mn])), (mt, .inl (cI, 16384, .inl tp)), (mw, .inl (cJ, 512, .inr (.inl gW))), (ms, .inl (cJ, 64, .inr (.inl gS)))] 0 0 [(0, .ref m), (1, .int (nI y)), (2, .long (lN sm)), (4, .long (lN dd)), (6, .int (nI i))] 89 [] := by
  intro k
  induction k with
  | zero => intro i gS hk hi hgs hz hq; omega
  | succ k ih =>
    intro i gS hk hi hgs hz hq
    refine v_iload 4 dX9_fromTree_89 rfl ?_
    refine v_bipush (v := nI 64) dX9_fromTree_91 (by decide) ?_
    refine v_icmp_ge (tgt := 160) dX9_fromTree_93 (by decide) (fun b93 => ?_) (fun b93 => ?_)
    · have b93 : 64 ≤ i := (nI_leI (by decide) (by omega)).mp b93
      refine v_lv [0, 1, 2, 3] rfl ?_
      exact hq gS hgs hz
    · have b93 : ¬ (64 ≤ i) := fun q => b93 ((nI_leI (by decide) (by omega)).mpr q)
      refine v_aload_n 0 dX9_fromTree_96 rfl rfl ?_
      refine v_get f_SampleDeskModel_29 0 rfl rfl dX9_fromTree_97 ?_
      refine v_iload 4 dX9_fromTree_100 rfl ?_
      refine v_ldc2 (v := 2) k_c_SampleDeskModel_96 dX9_fromTree_102 ?_
      refine v_aload_n 0 dX9_fromTree_105 rfl rfl ?_
      refine v_get f_SampleDeskModel_29 0 rfl rfl dX9_fromTree_106 ?_
      refine v_iload 4 dX9_fromTree_109 rfl ?_
      refine v_lald 1 3 rfl rfl (by omega) (by omega) dX9_fromTree_111 ?_
      refine v_topl (y := lN 0) (hz i (by omega) (by omega)) ?_
      refine v_lmul dX9_fromTree_112 ?_
      refine v_topl (y := lN 0) (by rw [show (2 : Int64) = lN 2 by decide]; exact lN_mul 2 0) ?_
      refine v_last (ws' := [(m, .inr (9, [.int th, .int (nI fd), .int pc0, .int dw0, .int lt0, .ref mt, .ref mw, .ref mb, .ref ml, .ref mq, .ref mz, .ref ms, .ref mr, .int ic0, .ref mi, .int (dI tr), .int (nI sg), .int (nI ln), .int (nI p), .int (nI (p - fr)), .int (dI dr), .int ma0, .ref mk, .int en0, .ref mj, .ref mn])), (mt, .inl (cI, 16384, .inl tp)), (mw, .inl (cJ, 512, .inr (.inl gW))), (ms, .inl (cJ, 64, .inr (.inl (vp_updL gS i (lN 0)))))]) 1 3 rfl rfl (by omega) (by omega) dX9_fromTree_113 rfl ?_
      refine v_aload_n 0 dX9_fromTree_114 rfl rfl ?_
      refine v_get f_SampleDeskModel_29 0 rfl rfl dX9_fromTree_115 ?_
      refine v_iload 4 dX9_fromTree_118 rfl ?_
      refine v_lald 1 3 rfl rfl (by omega) (by omega) dX9_fromTree_120 ?_
      refine v_topl (y := lN 0) (pk_uLs) ?_
      refine v_lload_n 2 dX9_fromTree_121 rfl rfl ?_
      refine v_lcmp dX9_fromTree_122 ?_
      refine v_if_lt (tgt := 154) dX9_fromTree_123 (by decide) (fun b123 => ?_) (fun b123 => absurd ((z_lt (by decide) (by omega)).mpr hsm0) b123)
      refine v_iinc (lv' := [(6, .int (nI (i + 1))), (0, .ref m), (1, .int (nI y)), (2, .long (lN sm)), (4, .long (lN dd))]) (v := nI (i + 1)) 4 dX9_fromTree_154 rfl (nI_1 i) (by decide) rfl ?_
      refine v_goto (tgt := 89) dX9_fromTree_157 (by decide) ?_
      refine v_lv [1, 2, 3, 4, 0] rfl ?_
      exact ih (i + 1) _ (by omega) (by omega) (fun x hx => by unfold vp_updL; rw [if_neg (by omega)]; exact hgs x hx) (fun x h1 h2 => by unfold vp_updL; exact if q : x = i then by rw [if_pos q] else by rw [if_neg q]; exact hz x h1 h2) hq
set_option maxRecDepth 100000 in
set_option maxHeartbeats 4000000 in
theorem kX9_tree_level {D : va_G} {cI cJ cT : ClassId} {X : vX} {m mt mw mb ml mq mz ms mr mi mk mj mn : Nat} {th pc0 dw0 lt0 ic0 ma0 en0 : Int32} {fd sg ln fr e : Nat} {tr : Bool} {tp : Nat → Int32} {b : Nat → Nat} {tn sm p y : Nat} {dr : Bool} {gW : Nat → Int64} (htp0 : 0 < tn) (htp : tn ≤ 64) (hsm0 : 0 < sm) (hsm : sm < 2 ^ 40) {W0 : va_W} {post : (Nat → Int64) × Nat × Nat × Bool → Prop} (hE : vE (gG D cI cJ cT) X (some .long) W0 post (fun u => some (.long (lN u.2.1))) (fun u => [(m, .inr (9, [.int th, .int (nI fd), .int pc0, .int dw0, .int lt0, .ref mt, .ref mw, .ref mb, .ref ml, .ref mq, .ref mz, .ref ms, .ref mr, .int ic0, .ref mi, .int (dI tr), .int (nI sg), .int (nI ln), .int (nI u.2.2.1), .int (nI (u.2.2.1 - fr)), .int (dI u.2.2.2), .int ma0, .ref mk, .int en0, .ref mj, .ref mn])), (mt, .inl (cI, 16384, .inl tp)), (mw, .inl (cJ, 512, .inr (.inl gW))), (ms, .inl (cJ, 64, .inr (.inl u.1)))])) :
    ∀ (k : Nat) (i : Nat) (r : Nat → Nat) (dd : Nat) (gS : Nat → Int64), tn - i < k → i ≤ tn → TbM sm tn i r dd → (∀ x, x < tn → gS x = lN (r x)) → (∀ x, tn ≤ x → x < 64 → gS x = lN 0) → (∀ (o : Nat) (r2 : Nat → Nat) (d2 : Nat) (g : Nat → Int64), o < tn → tsc sm (tn - i) i r dd = (some o, r2, d2) → post (g, o, p, dr)) → (∀ (r2 : Nat → Nat) (d2 : Nat) (g2 : Nat → Int64), tsc sm (tn - i) i r dd = (none, r2, d2) → TbI sm tn r2 d2 → (∀ x, x < tn → g2 x = lN (r2 x)) → (∀ x, tn ≤ x → x < 64 → g2 x = lN 0) → V (gG D cI cJ cT) X (rmD 1) cX9_fromTree 7 RX9 [(m, .inr (9, [.int th, .int (nI fd), .int pc0, .int dw0, .int lt0, .ref mt, .ref mw, .ref mb, .ref ml, .ref mq, .ref mz, .ref ms, .ref mr, .int ic0, .ref mi, .int (dI tr), .int (nI sg), .int (nI ln), .int (nI p), .int (nI (p - fr)), .int (dI dr), .int ma0, .ref mk, .int en0, .ref mj, .ref mn])), (mt, .inl (cI, 16384, .inl tp)), (mw, .inl (cJ, 512, .inr (.inl gW))), (ms, .inl (cJ, 64, .inr (.inl g2)))] 0 0 [(0, .ref m), (1, .int (nI y)), (2, .long (lN sm)), (4, .long (lN d2)), (6, .int (nI tn))] 89 []) → V (gG D cI cJ cT) X (rmD 1) cX9_fromTree 7 RX9 [(m, .inr (9, [.int th, .int (nI fd), .int pc0, .int dw0, .int lt0, .ref mt, .ref mw, .ref mb, .ref ml, .ref mq, .ref mz, .ref ms, .ref mr, .int ic0, .ref mi, .int (dI tr), .int (nI sg), .int (nI ln), .int (nI p), .int (nI (p - fr)), .int (dI dr), .int ma0, .ref mk, .int en0, .ref mj, .ref mn])), (mt, .inl (cI, 16384, .inl tp)), (mw, .inl (cJ, 512, .inr (.inl gW))), (ms, .inl (cJ, 64, .inr (.inl gS)))] 0 0 [(0, .ref m), (1, .int (nI y)), (2, .long (lN sm)), (4, .long (lN dd)), (6, .int (nI i))] 89 [] := by
  intro k
  induction k with
  | zero => intro i r dd gS hk hi hM hgs hz hq1 hq2; omega
  | succ k ih =>
    intro i r dd gS hk hi hM hgs hz hq1 hq2
    by_cases hit : i < tn
    case neg =>
      have hie : i = tn := by omega
      subst hie
      exact hq2 r dd gS (tsc_end (Nat.le_refl _)) (TbM_end hM) hgs hz
    have hri := hM.1 i hit
    have hdl := TbM_lt hM htp0
    refine v_iload 4 dX9_fromTree_89 rfl ?_
    refine v_bipush (v := nI 64) dX9_fromTree_91 (by decide) ?_
    refine v_icmp_ge (tgt := 160) dX9_fromTree_93 (by decide) (fun b93 => absurd b93 (fun q => absurd ((nI_leI (by decide) (by omega)).mp q) (by omega))) (fun b93 => ?_)
    refine v_aload_n 0 dX9_fromTree_96 rfl rfl ?_
    refine v_get f_SampleDeskModel_29 0 rfl rfl dX9_fromTree_97 ?_
    refine v_iload 4 dX9_fromTree_100 rfl ?_
    refine v_ldc2 (v := 2) k_c_SampleDeskModel_96 dX9_fromTree_102 ?_
    refine v_aload_n 0 dX9_fromTree_105 rfl rfl ?_
    refine v_get f_SampleDeskModel_29 0 rfl rfl dX9_fromTree_106 ?_
    refine v_iload 4 dX9_fromTree_109 rfl ?_
    refine v_lald 1 3 rfl rfl (by omega) (by omega) dX9_fromTree_111 ?_
    refine v_topl (y := lN (r i)) (hgs i hit) ?_
    refine v_lmul dX9_fromTree_112 ?_
    refine v_topl (y := lN (2 * r i)) (by rw [show (2 : Int64) = lN 2 by decide]; exact lN_mul 2 (r i)) ?_
    refine v_last (ws' := [(m, .inr (9, [.int th, .int (nI fd), .int pc0, .int dw0, .int lt0, .ref mt, .ref mw, .ref mb, .ref ml, .ref mq, .ref mz, .ref ms, .ref mr, .int ic0, .ref mi, .int (dI tr), .int (nI sg), .int (nI ln), .int (nI p), .int (nI (p - fr)), .int (dI dr), .int ma0, .ref mk, .int en0, .ref mj, .ref mn])), (mt, .inl (cI, 16384, .inl tp)), (mw, .inl (cJ, 512, .inr (.inl gW))), (ms, .inl (cJ, 64, .inr (.inl (vp_updL gS i (lN (2 * r i))))))]) 1 3 rfl rfl (by omega) (by omega) dX9_fromTree_113 rfl ?_
    refine v_aload_n 0 dX9_fromTree_114 rfl rfl ?_
    refine v_get f_SampleDeskModel_29 0 rfl rfl dX9_fromTree_115 ?_
    refine v_iload 4 dX9_fromTree_118 rfl ?_
    refine v_lald 1 3 rfl rfl (by omega) (by omega) dX9_fromTree_120 ?_
    refine v_topl (y := lN (2 * r i)) (pk_uLs) ?_
    refine v_lload_n 2 dX9_fromTree_121 rfl rfl ?_
    refine v_lcmp dX9_fromTree_122 ?_
    refine v_if_lt (tgt := 154) dX9_fromTree_123 (by decide) (fun b123 => ?_) (fun b123 => ?_)
    · have b123 : 2 * r i < sm := (z_lt (by omega) (by omega)).mp b123
      refine v_iinc (lv' := [(6, .int (nI (i + 1))), (0, .ref m), (1, .int (nI y)), (2, .long (lN sm)), (4, .long (lN dd))]) (v := nI (i + 1)) 4 dX9_fromTree_154 rfl (nI_1 i) (by decide) rfl ?_
      refine v_goto (tgt := 89) dX9_fromTree_157 (by decide) ?_
      refine v_lv [1, 2, 3, 4, 0] rfl ?_
      exact ih (i + 1) (fU r i (2 * r i)) dd _ (by omega) (by omega) (TbM_low hM (by omega) (by omega)) (updL_ok hgs) (fun x h1 h2 => by unfold vp_updL; rw [if_neg (by omega)]; exact hz x h1 h2) (fun o r2 d2 g ho h => hq1 o r2 d2 g ho (by rw [tsc_low (by omega) (by omega)]; exact h)) (fun r2 d2 g2 h => hq2 r2 d2 g2 (by rw [tsc_low (by omega) (by omega)]; exact h))
    · have b123 : ¬ (2 * r i < sm) := fun q => b123 ((z_lt (by omega) (by omega)).mpr q)
      refine v_aload_n 0 dX9_fromTree_126 rfl rfl ?_
      refine v_get f_SampleDeskModel_29 0 rfl rfl dX9_fromTree_127 ?_
      refine v_iload 4 dX9_fromTree_130 rfl ?_
      refine v_dup2_11 dX9_fromTree_132 rfl rfl ?_
      refine v_lald 1 3 rfl rfl (by omega) (by omega) dX9_fromTree_133 ?_
      refine v_topl (y := lN (2 * r i)) (pk_uLs) ?_
      refine v_lload_n 2 dX9_fromTree_134 rfl rfl ?_
      refine v_lsub dX9_fromTree_135 ?_
      refine v_topl (y := lN (2 * r i - sm)) (lN_sub (by omega)) ?_
      refine v_last (ws' := [(m, .inr (9, [.int th, .int (nI fd), .int pc0, .int dw0, .int lt0, .ref mt, .ref mw, .ref mb, .ref ml, .ref mq, .ref mz, .ref ms, .ref mr, .int ic0, .ref mi, .int (dI tr), .int (nI sg), .int (nI ln), .int (nI p), .int (nI (p - fr)), .int (dI dr), .int ma0, .ref mk, .int en0, .ref mj, .ref mn])), (mt, .inl (cI, 16384, .inl tp)), (mw, .inl (cJ, 512, .inr (.inl gW))), (ms, .inl (cJ, 64, .inr (.inl (vp_updL (vp_updL gS i (lN (2 * r i))) i (lN (2 * r i - sm))))))]) 1 3 rfl rfl (by omega) (by omega) dX9_fromTree_136 rfl ?_
      refine v_lload 3 dX9_fromTree_137 rfl ?_
      refine v_lconst (v := lN 0) dX9_fromTree_139 (by decide) ?_
      refine v_lcmp dX9_fromTree_140 ?_
      refine v_if_ne (tgt := 148) dX9_fromTree_141 (by decide) (fun b141 => ?_) (fun b141 => ?_)
      · have b141 : ¬ (dd = 0) := fun q => b141 ((z_eq (by omega) (by decide)).mpr q)
        refine v_lload 3 dX9_fromTree_148 rfl ?_
        refine v_lconst (v := lN 1) dX9_fromTree_150 (by decide) ?_
        refine v_lsub dX9_fromTree_151 ?_
        refine v_topl (y := lN (dd - 1)) (lN_sub (by omega)) ?_
        refine v_lstore (lv' := [(4, .long (lN (dd - 1))), (0, .ref m), (1, .int (nI y)), (2, .long (lN sm)), (6, .int (nI i))]) dX9_fromTree_152 (by decide) rfl ?_
        refine v_iinc (lv' := [(6, .int (nI (i + 1))), (4, .long (lN (dd - 1))), (0, .ref m), (1, .int (nI y)), (2, .long (lN sm))]) (v := nI (i + 1)) 4 dX9_fromTree_154 rfl (nI_1 i) (by decide) rfl ?_
        refine v_goto (tgt := 89) dX9_fromTree_157 (by decide) ?_
        refine v_lv [2, 3, 4, 1, 0] rfl ?_
        exact ih (i + 1) (fU r i (2 * r i - sm)) (dd - 1) _ (by omega) (by omega) (TbM_high hM hsm0 (by omega) (by omega) b141) (by rw [updL_2]; exact updL_ok hgs) (fun x h1 h2 => by rw [updL_2]; unfold vp_updL; rw [if_neg (by omega)]; exact hz x h1 h2) (fun o r2 d2 g ho h => hq1 o r2 d2 g ho (by rw [tsc_high (by omega) (by omega) b141]; exact h)) (fun r2 d2 g2 h => hq2 r2 d2 g2 (by rw [tsc_high (by omega) (by omega) b141]; exact h))
      · have b141 : dd = 0 := (z_eq (by omega) (by decide)).mp b141
        refine v_iload 4 dX9_fromTree_144 rfl ?_
        refine v_i2l (v := lN i) dX9_fromTree_146 (nI_l (by omega)) ?_
        exact v_lret hE dX9_fromTree_147 (_, i, p, dr) (hq1 i _ _ _ (by omega) (tsc_out (by omega) (by omega) b141)) rfl rfl
set_option maxRecDepth 100000 in
set_option maxHeartbeats 4000000 in
theorem kX9_tree_loop {D : va_G} {cI cJ cT : ClassId} {X : vX} {m mt mw mb ml mq mz ms mr mi mk mj mn : Nat} {th pc0 dw0 lt0 ic0 ma0 en0 : Int32} {fd sg ln fr e : Nat} {tr : Bool} {tp : Nat → Int32} {b : Nat → Nat} {tn sm y : Nat} {gW : Nat → Int64} (hB : MB tr fd ln sg tp b e) (htp0 : 0 < tn) (htp : tn ≤ 64) (hsm0 : 0 < sm) (hsm : sm < 2 ^ 40) {W0 : va_W} {post : (Nat → Int64) × Nat × Nat × Bool → Prop} (hE : vE (gG D cI cJ cT) X (some .long) W0 post (fun u => some (.long (lN u.2.1))) (fun u => [(m, .inr (9, [.int th, .int (nI fd), .int pc0, .int dw0, .int lt0, .ref mt, .ref mw, .ref mb, .ref ml, .ref mq, .ref mz, .ref ms, .ref mr, .int ic0, .ref mi, .int (dI tr), .int (nI sg), .int (nI ln), .int (nI u.2.2.1), .int (nI (u.2.2.1 - fr)), .int (dI u.2.2.2), .int ma0, .ref mk, .int en0, .ref mj, .ref mn])), (mt, .inl (cI, 16384, .inl tp)), (mw, .inl (cJ, 512, .inr (.inl gW))), (ms, .inl (cJ, 64, .inr (.inl u.1)))])) :
    ∀ (k : Nat) (r : Nat → Nat) (dd : Nat) (p : Nat) (dr : Bool) (gS : Nat → Int64), e - p + (if dr = true then 0 else 1) < k → TbI sm tn r dd → (∀ x, x < tn → gS x = lN (r x)) → (∀ x, tn ≤ x → x < 64 → gS x = lN 0) → fr ≤ p → p ≤ e → (dr = true → p = e) → (∀ u, Rl (sTbL b e sm tn k r dd p) e p dr (u.2.1, u.2.2.1, u.2.2.2) ∧ u.2.1 < 64 → post u) → V (gG D cI cJ cT) X (rmD 1) cX9_fromTree 7 RX9 [(m, .inr (9, [.int th, .int (nI fd), .int pc0, .int dw0, .int lt0, .ref mt, .ref mw, .ref mb, .ref ml, .ref mq, .ref mz, .ref ms, .ref mr, .int ic0, .ref mi, .int (dI tr), .int (nI sg), .int (nI ln), .int (nI p), .int (nI (p - fr)), .int (dI dr), .int ma0, .ref mk, .int en0, .ref mj, .ref mn])), (mt, .inl (cI, 16384, .inl tp)), (mw, .inl (cJ, 512, .inr (.inl gW))), (ms, .inl (cJ, 64, .inr (.inl gS)))] 0 0 [(0, .ref m), (1, .int (nI y)), (2, .long (lN sm)), (4, .long (lN dd))] 65 [] := by
  intro k
  induction k with
  | zero => intro r dd p dr gS hk hI hgs hz hfr hp hdr hq; omega
  | succ k ih =>
    intro r dd p dr gS hk hI hgs hz hfr hp hdr hq
    refine v_aload_n 0 dX9_fromTree_65 rfl rfl ?_
    refine v_get f_SampleDeskModel_77 0 rfl rfl dX9_fromTree_66 ?_
    refine v_if_ne (tgt := 163) dX9_fromTree_69 (by decide) (fun b69 => ?_) (fun b69 => ?_)
    · have b69 : ¬ (dr = false) := fun q => b69 ((dI_0 dr).mpr q)
      refine v_lconst (v := lN 0) dX9_fromTree_163 (by decide) ?_
      exact v_lret hE dX9_fromTree_164 (gS, 0, p, dr) (hq _ ⟨Rl_over (by simpa using b69) (hdr (by simpa using b69)), by show 0 < 64; decide⟩) rfl rfl
    · have b69 : dr = false := (dI_0 dr).mp b69
      refine v_ldc2 (v := 2) k_c_SampleDeskModel_96 dX9_fromTree_72 ?_
      refine v_lload 3 dX9_fromTree_75 rfl ?_
      refine v_lmul dX9_fromTree_77 ?_
      refine v_topl (y := lN (2 * dd)) (by rw [show (2 : Int64) = lN 2 by decide]; exact lN_mul 2 dd) ?_
      refine v_aload_n 0 dX9_fromTree_78 rfl rfl ?_
      refine v_callV (as := []) (rest := [.long (lN (2 * dd))]) (ws' := fun u => [(m, .inr (9, [.int th, .int (nI fd), .int pc0, .int dw0, .int lt0, .ref mt, .ref mw, .ref mb, .ref ml, .ref mq, .ref mz, .ref ms, .ref mr, .int ic0, .ref mi, .int (dI tr), .int (nI sg), .int (nI ln), .int (nI u.2.1), .int (nI (u.2.1 - fr)), .int (dI u.2.2), .int ma0, .ref mk, .int en0, .ref mj, .ref mn])), (mt, .inl (cI, 16384, .inl tp)), (mw, .inl (cJ, 512, .inr (.inl gW))), (ms, .inl (cJ, 64, .inr (.inl gS)))]) m_SampleDeskModel_98 (kX9_nextBit X.l (m := m) (mt := mt) (mw := mw) (mb := mb) (ml := ml) (mq := mq) (mz := mz) (ms := ms) (mr := mr) (mi := mi) (mk := mk) (mj := mj) (mn := mn) (th := th) (pc0 := pc0) (dw0 := dw0) (lt0 := lt0) (ic0 := ic0) (en0 := en0) (fd := fd) (sg := sg) (ln := ln) (fr := fr) (e := e) (tr := tr) (tp := tp) (b := b) (ma0 := ma0) (p := p) (dr := dr)  hB (by omega) (by omega) hdr ) k_code_X9_nextBit [0, 1] 0 rfl rfl rfl rfl dX9_fromTree_79 (Nat.le_of_ble_eq_true rfl) ⟨rfl, rfl, by decide, by decide⟩ ⟨Nat.zero_le _, Nat.zero_le _⟩ rfl rfl (fun _ => rfl) (v_mgU rfl (fun _ => rfl)) ?_
      intro u79 c79
      obtain ⟨r1, p1, d1⟩ := u79
      try dsimp only at c79
      show V (gG D cI cJ cT) X (rmD 1) cX9_fromTree 7 RX9 [(m, .inr (9, [.int th, .int (nI fd), .int pc0, .int dw0, .int lt0, .ref mt, .ref mw, .ref mb, .ref ml, .ref mq, .ref mz, .ref ms, .ref mr, .int ic0, .ref mi, .int (dI tr), .int (nI sg), .int (nI ln), .int (nI p1), .int (nI (p1 - fr)), .int (dI d1), .int ma0, .ref mk, .int en0, .ref mj, .ref mn])), (mt, .inl (cI, 16384, .inl tp)), (mw, .inl (cJ, 512, .inr (.inl gW))), (ms, .inl (cJ, 64, .inr (.inl gS)))] 0 0 [(0, .ref m), (1, .int (nI y)), (2, .long (lN sm)), (4, .long (lN dd))] 82 [.int (nI r1), .long (lN (2 * dd))]
      have hr1 : r1 < 2 := Rbit_lt hB.2.1 c79
      have hb1 := Rbit_c hp b69 c79
      have hdl := TbI_lt hI htp0
      have hpp := (Rbit_d c79).2
      refine v_i2l (v := lN r1) dX9_fromTree_82 (nI_l (by omega)) ?_
      refine v_ladd dX9_fromTree_83 ?_
      refine v_topl (y := lN (2 * dd + r1)) (lN_add _ _) ?_
      refine v_lstore (lv' := [(4, .long (lN (2 * dd + r1))), (0, .ref m), (1, .int (nI y)), (2, .long (lN sm))]) dX9_fromTree_84 (by decide) rfl ?_
      refine v_iconst (v := nI 0) dX9_fromTree_86 (by decide) ?_
      refine v_istore (lv' := [(6, .int (nI 0)), (4, .long (lN (2 * dd + r1))), (0, .ref m), (1, .int (nI y)), (2, .long (lN sm))]) dX9_fromTree_87 (by decide) rfl ?_
      refine v_lv [2, 3, 4, 1, 0] rfl ?_
      refine kX9_tree_level (e := e) (b := b) htp0 htp hsm0 hsm hE (tn + 1) 0 r (2 * dd + r1) gS (by omega) (by omega) (TbM_start hI hr1) hgs hz (fun o r2 d2 g ho ht2 => hq (g, o, p1, d1) ⟨tb_out hb1 b69 ht2, by show o < 64; omega⟩) (fun r2 d2 g2 ht2 hI2 hg2 hz2 => ?_)
      refine kX9_tree_rest (e := e) (b := b) htp0 htp hsm0 hsm 65 tn g2 (by omega) ⟨Nat.le_refl _, htp⟩ hg2 hz2 (fun g3 hg3 hz3 => ?_)
      refine v_goto (tgt := 65) dX9_fromTree_160 (by decide) ?_
      exact ih r2 d2 p1 d1 g3 (tb_adv hb1 hk) hI2 hg3 hz3 (by omega) (Rbit_le hp c79) (Rb_e hb1) (fun u hu => hq u ⟨tb_go hb1 b69 ht2 hu.1, hu.2⟩)
theorem only_top {W : Nat → Nat} {i : Nat} (h0 : 0 < sumN W 64) (hi : i < 64) (h : W i = sumN W 64) : i = topN W 64 - 1 ∧ W (topN W 64 - 1) = sumN W 64 := by
  have h1 : ¬ topN W 64 ≤ i := fun q => by have := topN_0 W 64 i q hi; omega
  have hle := topN_le W 64
  by_cases hx : i = topN W 64 - 1
  · exact ⟨hx, by rw [← hx]; exact h⟩
  · exfalso
    have h3 := topN_pos W 64 (by omega)
    have h4 := sumN_fU (F := W) (i := i) (v := 0) 64 hi
    have h5 := sumN_ge (F := fU W i 0) 64 (topN W 64 - 1) (by omega)
    have h6 : fU W i 0 (topN W 64 - 1) = W (topN W 64 - 1) := by simp [fU, show ¬ topN W 64 - 1 = i from fun q => hx q.symm]
    rw [h6] at h5
    omega
set_option maxRecDepth 100000 in
set_option maxHeartbeats 4000000 in
theorem kX9_tree_start {D : va_G} {cI cJ cT : ClassId} {X : vX} {m mt mw mb ml mq mz ms mr mi mk mj mn : Nat} {th pc0 dw0 lt0 ic0 ma0 en0 : Int32} {fd sg ln fr e : Nat} {tr : Bool} {tp : Nat → Int32} {b : Nat → Nat} {y : Nat} {gW : Nat → Int64} {W : Nat → Nat} {p : Nat} {dr : Bool} (hB : MB tr fd ln sg tp b e) (hfr : fr ≤ p) (hp : p ≤ e) (hdr : dr = true → p = e) (hW : ∀ x, x < 64 → gW (64 * y + x) = lN (W x)) (hWb : ∀ x, x < 64 → W x < 2 ^ 31) (hy : y < 8) (hs0 : 0 < sumN W 64) (hs40 : sumN W 64 < 2 ^ 40) {W0 : va_W} {post : (Nat → Int64) × Nat × Nat × Bool → Prop} (hq : ∀ u, Rl (sTb b e W p) e p dr (u.2.1, u.2.2.1, u.2.2.2) ∧ u.2.1 < 64 → post u) (hE : vE (gG D cI cJ cT) X (some .long) W0 post (fun u => some (.long (lN u.2.1))) (fun u => [(m, .inr (9, [.int th, .int (nI fd), .int pc0, .int dw0, .int lt0, .ref mt, .ref mw, .ref mb, .ref ml, .ref mq, .ref mz, .ref ms, .ref mr, .int ic0, .ref mi, .int (dI tr), .int (nI sg), .int (nI ln), .int (nI u.2.2.1), .int (nI (u.2.2.1 - fr)), .int (dI u.2.2.2), .int ma0, .ref mk, .int en0, .ref mj, .ref mn])), (mt, .inl (cI, 16384, .inl tp)), (mw, .inl (cJ, 512, .inr (.inl gW))), (ms, .inl (cJ, 64, .inr (.inl u.1)))])) :
    ∀ (k : Nat) (i : Nat) (gS : Nat → Int64), 64 - i < k → i ≤ 64 → (∀ x, x < i → gS x = lN (W x)) → (∀ x, x < i → ¬ W x = sumN W 64) → V (gG D cI cJ cT) X (rmD 1) cX9_fromTree 7 RX9 [(m, .inr (9, [.int th, .int (nI fd), .int pc0, .int dw0, .int lt0, .ref mt, .ref mw, .ref mb, .ref ml, .ref mq, .ref mz, .ref ms, .ref mr, .int ic0, .ref mi, .int (dI tr), .int (nI sg), .int (nI ln), .int (nI p), .int (nI (p - fr)), .int (dI dr), .int ma0, .ref mk, .int en0, .ref mj, .ref mn])), (mt, .inl (cI, 16384, .inl tp)), (mw, .inl (cJ, 512, .inr (.inl gW))), (ms, .inl (cJ, 64, .inr (.inl gS)))] 0 0 [(0, .ref m), (1, .int (nI y)), (2, .long (lN (sumN W 64))), (4, .int (nI i))] 9 [] := by
  intro k
  induction k with
  | zero => intro i gS hk hi hgs hno; omega
  | succ k ih =>
    intro i gS hk hi hgs hno
    refine v_iload 3 dX9_fromTree_9 rfl ?_
    refine v_bipush (v := nI 64) dX9_fromTree_11 (by decide) ?_
    refine v_icmp_ge (tgt := 62) dX9_fromTree_13 (by decide) (fun b13 => ?_) (fun b13 => ?_)
    · have b13 : 64 ≤ i := (nI_leI (by decide) (by omega)).mp b13
      have hne : ¬ W (topN W 64 - 1) = sumN W 64 := fun q => hno (topN W 64 - 1) (by have := topN_le W 64; have := hs0; omega) q
      obtain ⟨htp0, hI0⟩ := TbI_start hs0 hne
      refine v_lconst (v := lN 0) dX9_fromTree_62 (by decide) ?_
      refine v_lstore (lv' := [(4, .long (lN 0)), (0, .ref m), (1, .int (nI y)), (2, .long (lN (sumN W 64)))]) dX9_fromTree_63 (by decide) rfl ?_
      refine v_lv [1, 2, 3, 0] rfl ?_
      exact kX9_tree_loop hB htp0 (topN_le W 64) hs0 hs40 hE (e - p + 2) W 0 p dr gS (by split <;> omega) hI0 (fun x hx => hgs x (by have := topN_le W 64; omega)) (fun x h1 h2 => by rw [hgs x (by omega), topN_0 W 64 x h1 h2]) hfr hp hdr (fun u hu => hq u ⟨by rw [sTb, if_neg hne]; exact hu.1, hu.2⟩)
    · have b13 : ¬ (64 ≤ i) := fun q => b13 ((nI_leI (by decide) (by omega)).mpr q)
      refine v_aload_n 0 dX9_fromTree_16 rfl rfl ?_
      refine v_get f_SampleDeskModel_13 0 rfl rfl dX9_fromTree_17 ?_
      refine v_bipush (v := nI 64) dX9_fromTree_20 (by decide) ?_
      refine v_iload_n 1 dX9_fromTree_22 rfl rfl ?_
      refine v_imul dX9_fromTree_23 ?_
      refine v_topi (y := nI (64 * y)) (pk_mul _ _) ?_
      refine v_iload 3 dX9_fromTree_24 rfl ?_
      refine v_iadd dX9_fromTree_26 ?_
      refine v_topi (y := nI (64 * y + i)) (nI_add _ _) ?_
      refine v_lald 1 2 rfl rfl (by omega) (by omega) dX9_fromTree_27 ?_
      refine v_topl (y := lN (W i)) (hW i (by omega)) ?_
      have hwi := hWb i (by omega)
      refine v_lload_n 2 dX9_fromTree_28 rfl rfl ?_
      refine v_lcmp dX9_fromTree_29 ?_
      refine v_if_ne (tgt := 37) dX9_fromTree_30 (by decide) (fun b30 => ?_) (fun b30 => ?_)
      · have b30 : ¬ (W i = sumN W 64) := fun q => b30 ((z_eq (by omega) (by omega)).mpr q)
        refine v_aload_n 0 dX9_fromTree_37 rfl rfl ?_
        refine v_get f_SampleDeskModel_29 0 rfl rfl dX9_fromTree_38 ?_
        refine v_iload 3 dX9_fromTree_41 rfl ?_
        refine v_aload_n 0 dX9_fromTree_43 rfl rfl ?_
        refine v_get f_SampleDeskModel_13 0 rfl rfl dX9_fromTree_44 ?_
        refine v_bipush (v := nI 64) dX9_fromTree_47 (by decide) ?_
        refine v_iload_n 1 dX9_fromTree_49 rfl rfl ?_
        refine v_imul dX9_fromTree_50 ?_
        refine v_topi (y := nI (64 * y)) (pk_mul _ _) ?_
        refine v_iload 3 dX9_fromTree_51 rfl ?_
        refine v_iadd dX9_fromTree_53 ?_
        refine v_topi (y := nI (64 * y + i)) (nI_add _ _) ?_
        refine v_lald 1 2 rfl rfl (by omega) (by omega) dX9_fromTree_54 ?_
        refine v_topl (y := lN (W i)) (hW i (by omega)) ?_
        refine v_last (ws' := [(m, .inr (9, [.int th, .int (nI fd), .int pc0, .int dw0, .int lt0, .ref mt, .ref mw, .ref mb, .ref ml, .ref mq, .ref mz, .ref ms, .ref mr, .int ic0, .ref mi, .int (dI tr), .int (nI sg), .int (nI ln), .int (nI p), .int (nI (p - fr)), .int (dI dr), .int ma0, .ref mk, .int en0, .ref mj, .ref mn])), (mt, .inl (cI, 16384, .inl tp)), (mw, .inl (cJ, 512, .inr (.inl gW))), (ms, .inl (cJ, 64, .inr (.inl (vp_updL gS i (lN (W i))))))]) 1 3 rfl rfl (by omega) (by omega) dX9_fromTree_55 rfl ?_
        refine v_iinc (lv' := [(4, .int (nI (i + 1))), (0, .ref m), (1, .int (nI y)), (2, .long (lN (sumN W 64)))]) (v := nI (i + 1)) 3 dX9_fromTree_56 rfl (nI_1 i) (by decide) rfl ?_
        refine v_goto (tgt := 9) dX9_fromTree_59 (by decide) ?_
        refine v_lv [1, 2, 3, 0] rfl ?_
        exact ih (i + 1) _ (by omega) (by omega) (fun x hx => sh_ok (s := W) hgs x hx) (fun x hx => if q : x = i then by rw [q]; exact b30 else hno x (by omega))
      · have b30 : W i = sumN W 64 := (z_eq (by omega) (by omega)).mp b30
        refine v_iload 3 dX9_fromTree_33 rfl ?_
        refine v_i2l (v := lN i) dX9_fromTree_35 (nI_l (by omega)) ?_
        have hot := only_top hs0 (by omega) b30
        exact v_lret hE dX9_fromTree_36 (gS, i, p, dr) (hq _ ⟨by rw [sTb, if_pos hot.2]; exact Rl_here hp hdr (by rw [hot.1]), by show i < 64; omega⟩) rfl rfl
set_option maxRecDepth 100000 in
set_option maxHeartbeats 4000000 in
theorem kX9_fromTree {D : va_G} {cI cJ cT : ClassId} (l : Launch) {m mt mw mb ml mq mz ms mr mi mk mj mn : Nat} {th pc0 dw0 lt0 ic0 ma0 en0 : Int32} {fd sg ln fr e : Nat} {tr : Bool} {tp : Nat → Int32} {b : Nat → Nat} {p : Nat} {dr : Bool} {y : Nat} {gW : Nat → Int64} {W : Nat → Nat} {gS : Nat → Int64} (hB : MB tr fd ln sg tp b e) (hfr : fr ≤ p) (hp : p ≤ e) (hdr : dr = true → p = e) (hW : ∀ x, x < 64 → gW (64 * y + x) = lN (W x)) (hWb : ∀ x, x < 64 → W x < 2 ^ 31) (hy : y < 8) (hs0 : 0 < sumN W 64) : Fn (S := (Nat → Int64) × Nat × Nat × Bool) (gG D cI cJ cT) l yX9_fromTree (.code yX9_fromTree cX9_fromTree 7 (some .long)) (rmD 1) [.ref m, .int (nI y)] [(m, .inr (9, [.int th, .int (nI fd), .int pc0, .int dw0, .int lt0, .ref mt, .ref mw, .ref mb, .ref ml, .ref mq, .ref mz, .ref ms, .ref mr, .int ic0, .ref mi, .int (dI tr), .int (nI sg), .int (nI ln), .int (nI p), .int (nI (p - fr)), .int (dI dr), .int ma0, .ref mk, .int en0, .ref mj, .ref mn])), (mt, .inl (cI, 16384, .inl tp)), (mw, .inl (cJ, 512, .inr (.inl gW))), (ms, .inl (cJ, 64, .inr (.inl gS)))] (fun u => Rl (sTb b e W p) e p dr (u.2.1, u.2.2.1, u.2.2.2) ∧ u.2.1 < 64) (fun u => some (.long (lN u.2.1))) (fun u => [(m, .inr (9, [.int th, .int (nI fd), .int pc0, .int dw0, .int lt0, .ref mt, .ref mw, .ref mb, .ref ml, .ref mq, .ref mz, .ref ms, .ref mr, .int ic0, .ref mi, .int (dI tr), .int (nI sg), .int (nI ln), .int (nI u.2.2.1), .int (nI (u.2.2.1 - fr)), .int (dI u.2.2.2), .int ma0, .ref mk, .int en0, .ref mj, .ref mn])), (mt, .inl (cI, 16384, .inl tp)), (mw, .inl (cJ, 512, .inr (.inl gW))), (ms, .inl (cJ, 64, .inr (.inl u.1)))]) := by
  refine Fn.intro (by decide) (Nat.le_of_ble_eq_true rfl) ?_
  intro X hX hE hin
  subst hX
  show V (gG D cI cJ cT) X _ cX9_fromTree 7 RX9 _ 0 0 [(0, .ref m), (1, .int (nI y))] 0 []
  refine v_aload_n 0 dX9_fromTree_0 rfl rfl ?_
  refine v_iload_n 1 dX9_fromTree_1 rfl rfl ?_
  refine v_callV (as := [.int (nI y)]) (rest := []) (ws' := fun u => [(m, .inr (9, [.int th, .int (nI fd), .int pc0, .int dw0, .int lt0, .ref mt, .ref mw, .ref mb, .ref ml, .ref mq, .ref mz, .ref ms, .ref mr, .int ic0, .ref mi, .int (dI tr), .int (nI sg), .int (nI ln), .int (nI p), .int (nI (p - fr)), .int (dI dr), .int ma0, .ref mk, .int en0, .ref mj, .ref mn])), (mt, .inl (cI, 16384, .inl tp)), (mw, .inl (cJ, 512, .inr (.inl gW))), (ms, .inl (cJ, 64, .inr (.inl gS)))]) m_SampleDeskModel_69 (kX9_sum X.l (m := m) (mt := mt) (mw := mw) (mb := mb) (ml := ml) (mq := mq) (mz := mz) (ms := ms) (mr := mr) (mi := mi) (mk := mk) (mj := mj) (mn := mn) (th := th) (fd0 := nI fd) (pc0 := pc0) (dw0 := dw0) (lt0 := lt0) (ic0 := ic0) (tr0 := dI tr) (sg0 := nI sg) (ln0 := nI ln) (at0 := nI p) (rd0 := nI (p - fr)) (dr0 := dI dr) (ma0 := ma0) (en0 := en0) (y := y) (gW := gW) (W := W) hW hWb hy) k_code_X9_sum [0, 2] 0 rfl rfl rfl rfl dX9_fromTree_2 (Nat.le_of_ble_eq_true rfl) ⟨rfl, rfl, by decide, by decide⟩ ⟨Nat.zero_le _, Nat.zero_le _⟩ rfl rfl (fun _ => rfl) (v_mgU rfl (fun _ => rfl)) ?_
  intro uu c2
  try dsimp only at c2
  show V (gG D cI cJ cT) X (rmD 1) cX9_fromTree 7 RX9 [(m, .inr (9, [.int th, .int (nI fd), .int pc0, .int dw0, .int lt0, .ref mt, .ref mw, .ref mb, .ref ml, .ref mq, .ref mz, .ref ms, .ref mr, .int ic0, .ref mi, .int (dI tr), .int (nI sg), .int (nI ln), .int (nI p), .int (nI (p - fr)), .int (dI dr), .int ma0, .ref mk, .int en0, .ref mj, .ref mn])), (mt, .inl (cI, 16384, .inl tp)), (mw, .inl (cJ, 512, .inr (.inl gW))), (ms, .inl (cJ, 64, .inr (.inl gS)))] 0 0 [(0, .ref m), (1, .int (nI y))] 5 [.long (lN (sumN W 64))]
  refine v_lstore_n (lv' := [(2, .long (lN (sumN W 64))), (0, .ref m), (1, .int (nI y))]) dX9_fromTree_5 rfl (by decide) rfl ?_
  refine v_iconst (v := nI 0) dX9_fromTree_6 (by decide) ?_
  refine v_istore (lv' := [(4, .int (nI 0)), (2, .long (lN (sumN W 64))), (0, .ref m), (1, .int (nI y))]) dX9_fromTree_7 (by decide) rfl ?_
  refine v_lv [2, 3, 1, 0] rfl ?_
  exact kX9_tree_start hB hfr hp hdr hW hWb hy hs0 (sum_lt hWb) (fun u hu => hu) hE 65 0 gS (by omega) (by omega) (fun x hx => absurd hx (Nat.not_lt_zero x)) (fun x hx => absurd hx (Nat.not_lt_zero x))
set_option maxRecDepth 100000 in
set_option maxHeartbeats 4000000 in
theorem kX9_fromTable {D : va_G} {cI cJ cT : ClassId} (l : Launch) {m mt mw mb ml mq mz ms mr mi mk mj mn : Nat} {th pc0 dw0 lt0 ic0 ma0 en0 : Int32} {fd sg ln fr e : Nat} {tr : Bool} {tp : Nat → Int32} {b : Nat → Nat} {p : Nat} {dr : Bool} {y : Nat} {gW : Nat → Int64} {W : Nat → Nat} {mm : Nat} {gS gL : Nat → Int64} {gB gQ gZ : Nat → Int32} (hB : MB tr fd ln sg tp b e) (hfr : fr ≤ p) (hp : p ≤ e) (hdr : dr = true → p = e) (hW : ∀ x, x < 64 → gW (64 * y + x) = lN (W x)) (hWb : ∀ x, x < 64 → W x < 2 ^ 31) (hy : y < 8) (hs0 : 0 < sumN W 64) (hM : mm ≤ 1) (hBt : gB y = nI (mm + 1)) (hal : mm = 1 → gZ y = nI (topN W 64) ∧ (∀ x, x < topN W 64 → gL (64 * y + x) = lN ((alS W (topN W 64) (sumN W 64)).1 x)) ∧ ∀ x, x < topN W 64 → gQ (64 * y + x) = nI ((alS W (topN W 64) (sumN W 64)).2 x)) : Fn (S := (Nat → Int64) × Nat × Nat × Bool) (gG D cI cJ cT) l yX9_fromTable (.code yX9_fromTable cX9_fromTable 3 (some .long)) (rmD 2) [.ref m, .int (nI y)] [(m, .inr (9, [.int th, .int (nI fd), .int pc0, .int dw0, .int lt0, .ref mt, .ref mw, .ref mb, .ref ml, .ref mq, .ref mz, .ref ms, .ref mr, .int ic0, .ref mi, .int (dI tr), .int (nI sg), .int (nI ln), .int (nI p), .int (nI (p - fr)), .int (dI dr), .int ma0, .ref mk, .int en0, .ref mj, .ref mn])), (mt, .inl (cI, 16384, .inl tp)), (mw, .inl (cJ, 512, .inr (.inl gW))), (ms, .inl (cJ, 64, .inr (.inl gS))), (mb, .inl (cI, 8, .inl gB)), (ml, .inl (cJ, 512, .inr (.inl gL))), (mq, .inl (cI, 512, .inl gQ)), (mz, .inl (cI, 8, .inl gZ))] (fun u => Rl (sTab b e W mm p) e p dr (u.2.1, u.2.2.1, u.2.2.2) ∧ u.2.1 < 64) (fun u => some (.long (lN u.2.1))) (fun u => [(m, .inr (9, [.int th, .int (nI fd), .int pc0, .int dw0, .int lt0, .ref mt, .ref mw, .ref mb, .ref ml, .ref mq, .ref mz, .ref ms, .ref mr, .int ic0, .ref mi, .int (dI tr), .int (nI sg), .int (nI ln), .int (nI u.2.2.1), .int (nI (u.2.2.1 - fr)), .int (dI u.2.2.2), .int ma0, .ref mk, .int en0, .ref mj, .ref mn])), (mt, .inl (cI, 16384, .inl tp)), (mw, .inl (cJ, 512, .inr (.inl gW))), (ms, .inl (cJ, 64, .inr (.inl u.1))), (mb, .inl (cI, 8, .inl gB)), (ml, .inl (cJ, 512, .inr (.inl gL))), (mq, .inl (cI, 512, .inl gQ)), (mz, .inl (cI, 8, .inl gZ))]) := by
  refine Fn.intro (by decide) (Nat.le_of_ble_eq_true rfl) ?_
  intro X hX hE hin
  subst hX
  show V (gG D cI cJ cT) X _ cX9_fromTable 3 RX9 _ 0 0 [(0, .ref m), (1, .int (nI y))] 0 []
  refine v_aload_n 0 dX9_fromTable_0 rfl rfl ?_
  refine v_get f_SampleDeskModel_17 0 rfl rfl dX9_fromTable_1 ?_
  refine v_iload_n 1 dX9_fromTable_4 rfl rfl ?_
  refine v_iald 0 4 rfl rfl (by omega) (by omega) dX9_fromTable_5 ?_
  refine v_topi (y := nI (mm + 1)) (hBt) ?_
  refine v_iconst (v := nI 1) dX9_fromTable_6 (by decide) ?_
  refine v_icmp_ne (tgt := 16) dX9_fromTable_7 (by decide) (fun b7 => ?_) (fun b7 => ?_)
  · have b7 : ¬ (mm + 1 = 1) := fun q => b7 ((nI_eq (by omega) (by decide)).mpr q)
    obtain ⟨hz1, hl1, hq1⟩ := hal (by omega)
    have htp := topN_le W 64
    have htp0 : 0 < topN W 64 := top_pos hs0
    have hs40 := sum_lt hWb
    have hab := alS_ok (W := W)
    refine v_aload_n 0 dX9_fromTable_16 rfl rfl ?_
    refine v_aload_n 0 dX9_fromTable_17 rfl rfl ?_
    refine v_get f_SampleDeskModel_26 0 rfl rfl dX9_fromTable_18 ?_
    refine v_iload_n 1 dX9_fromTable_21 rfl rfl ?_
    refine v_iald 0 7 rfl rfl (by omega) (by omega) dX9_fromTable_22 ?_
    refine v_topi (y := nI (topN W 64)) (hz1) ?_
    refine v_i2l (v := lN (topN W 64)) dX9_fromTable_23 (nI_l (by omega)) ?_
    refine v_callV (as := [.long (lN (topN W 64))]) (rest := []) (ws' := fun u => [(m, .inr (9, [.int th, .int (nI fd), .int pc0, .int dw0, .int lt0, .ref mt, .ref mw, .ref mb, .ref ml, .ref mq, .ref mz, .ref ms, .ref mr, .int ic0, .ref mi, .int (dI tr), .int (nI sg), .int (nI ln), .int (nI u.2.1), .int (nI (u.2.1 - fr)), .int (dI u.2.2), .int ma0, .ref mk, .int en0, .ref mj, .ref mn])), (mt, .inl (cI, 16384, .inl tp)), (mw, .inl (cJ, 512, .inr (.inl gW))), (ms, .inl (cJ, 64, .inr (.inl gS))), (mb, .inl (cI, 8, .inl gB)), (ml, .inl (cJ, 512, .inr (.inl gL))), (mq, .inl (cI, 512, .inl gQ)), (mz, .inl (cI, 8, .inl gZ))]) m_SampleDeskModel_105 (kX9_uniform X.l (m := m) (mt := mt) (mw := mw) (mb := mb) (ml := ml) (mq := mq) (mz := mz) (ms := ms) (mr := mr) (mi := mi) (mk := mk) (mj := mj) (mn := mn) (th := th) (pc0 := pc0) (dw0 := dw0) (lt0 := lt0) (ic0 := ic0) (en0 := en0) (fd := fd) (sg := sg) (ln := ln) (fr := fr) (e := e) (tr := tr) (tp := tp) (b := b) (ma0 := ma0) (p := p) (dr := dr) (nn := (topN W 64)) hB (by omega) (by omega) hdr (by omega) (by omega)) k_code_X9_uniform [0, 1] 0 rfl rfl rfl rfl dX9_fromTable_24 (Nat.le_of_ble_eq_true rfl) ⟨rfl, rfl, by decide, by decide⟩ ⟨Nat.zero_le _, Nat.zero_le _⟩ rfl rfl (fun _ => rfl) (v_mgU rfl (fun _ => rfl)) ?_
    intro u24 c24
    obtain ⟨c, p1, d1⟩ := u24
    try dsimp only at c24
    show V (gG D cI cJ cT) X (rmD 2) cX9_fromTable 3 RX9 [(m, .inr (9, [.int th, .int (nI fd), .int pc0, .int dw0, .int lt0, .ref mt, .ref mw, .ref mb, .ref ml, .ref mq, .ref mz, .ref ms, .ref mr, .int ic0, .ref mi, .int (dI tr), .int (nI sg), .int (nI ln), .int (nI p1), .int (nI (p1 - fr)), .int (dI d1), .int ma0, .ref mk, .int en0, .ref mj, .ref mn])), (mt, .inl (cI, 16384, .inl tp)), (mw, .inl (cJ, 512, .inr (.inl gW))), (ms, .inl (cJ, 64, .inr (.inl gS))), (mb, .inl (cI, 8, .inl gB)), (ml, .inl (cJ, 512, .inr (.inl gL))), (mq, .inl (cI, 512, .inl gQ)), (mz, .inl (cI, 8, .inl gZ))] 0 0 [(0, .ref m), (1, .int (nI y))] 27 [.long (lN c)]
    have hc : c < topN W 64 := c24.2
    have hp1 := Rl_p c24.1
    refine v_l2i (v := nI c) dX9_fromTable_27 (l2i_n (by omega)) ?_
    refine v_istore_n (lv' := [(2, .int (nI c)), (0, .ref m), (1, .int (nI y))]) dX9_fromTable_28 rfl (by decide) rfl ?_
    refine v_aload_n 1 dX9_fromTable_29 rfl rfl ?_
    refine v_aload_n 1 dX9_fromTable_30 rfl rfl ?_
    refine v_get f_SampleDeskModel_20 0 rfl rfl dX9_fromTable_31 ?_
    refine v_bipush (v := nI 64) dX9_fromTable_34 (by decide) ?_
    refine v_iload_n 2 dX9_fromTable_36 rfl rfl ?_
    refine v_imul dX9_fromTable_37 ?_
    refine v_topi (y := nI (64 * y)) (pk_mul _ _) ?_
    refine v_iload_n 0 dX9_fromTable_38 rfl rfl ?_
    refine v_iadd dX9_fromTable_39 ?_
    refine v_topi (y := nI (64 * y + c)) (nI_add _ _) ?_
    refine v_lald 1 5 rfl rfl (by omega) (by omega) dX9_fromTable_40 ?_
    refine v_topl (y := lN ((alS W (topN W 64) (sumN W 64)).1 c)) (hl1 c hc) ?_
    refine v_aload_n 1 dX9_fromTable_41 rfl rfl ?_
    refine v_iload_n 2 dX9_fromTable_42 rfl rfl ?_
    refine v_callV (as := [.int (nI y)]) (rest := [.long (lN ((alS W (topN W 64) (sumN W 64)).1 c)), .ref m]) (ws' := fun u => [(m, .inr (9, [.int th, .int (nI fd), .int pc0, .int dw0, .int lt0, .ref mt, .ref mw, .ref mb, .ref ml, .ref mq, .ref mz, .ref ms, .ref mr, .int ic0, .ref mi, .int (dI tr), .int (nI sg), .int (nI ln), .int (nI p1), .int (nI (p1 - fr)), .int (dI d1), .int ma0, .ref mk, .int en0, .ref mj, .ref mn])), (mt, .inl (cI, 16384, .inl tp)), (mw, .inl (cJ, 512, .inr (.inl gW))), (ms, .inl (cJ, 64, .inr (.inl gS))), (mb, .inl (cI, 8, .inl gB)), (ml, .inl (cJ, 512, .inr (.inl gL))), (mq, .inl (cI, 512, .inl gQ)), (mz, .inl (cI, 8, .inl gZ))]) m_SampleDeskModel_69 (kX9_sum X.l (m := m) (mt := mt) (mw := mw) (mb := mb) (ml := ml) (mq := mq) (mz := mz) (ms := ms) (mr := mr) (mi := mi) (mk := mk) (mj := mj) (mn := mn) (th := th) (fd0 := nI fd) (pc0 := pc0) (dw0 := dw0) (lt0 := lt0) (ic0 := ic0) (tr0 := dI tr) (sg0 := nI sg) (ln0 := nI ln) (at0 := nI p1) (rd0 := nI (p1 - fr)) (dr0 := dI d1) (ma0 := ma0) (en0 := en0) (y := y) (gW := gW) (W := W) hW hWb hy) k_code_X9_sum [0, 2] 0 rfl rfl rfl rfl dX9_fromTable_43 (Nat.le_of_ble_eq_true rfl) ⟨rfl, rfl, by decide, by decide⟩ ⟨Nat.zero_le _, Nat.zero_le _⟩ rfl rfl (fun _ => rfl) (v_mgU rfl (fun _ => rfl)) ?_
    intro uu c43
    try dsimp only at c43
    show V (gG D cI cJ cT) X (rmD 2) cX9_fromTable 3 RX9 [(m, .inr (9, [.int th, .int (nI fd), .int pc0, .int dw0, .int lt0, .ref mt, .ref mw, .ref mb, .ref ml, .ref mq, .ref mz, .ref ms, .ref mr, .int ic0, .ref mi, .int (dI tr), .int (nI sg), .int (nI ln), .int (nI p1), .int (nI (p1 - fr)), .int (dI d1), .int ma0, .ref mk, .int en0, .ref mj, .ref mn])), (mt, .inl (cI, 16384, .inl tp)), (mw, .inl (cJ, 512, .inr (.inl gW))), (ms, .inl (cJ, 64, .inr (.inl gS))), (mb, .inl (cI, 8, .inl gB)), (ml, .inl (cJ, 512, .inr (.inl gL))), (mq, .inl (cI, 512, .inl gQ)), (mz, .inl (cI, 8, .inl gZ))] 0 0 [(2, .int (nI c)), (0, .ref m), (1, .int (nI y))] 46 [.long (lN (sumN W 64)), .long (lN ((alS W (topN W 64) (sumN W 64)).1 c)), .ref m]
    refine v_callV (as := [.long (lN ((alS W (topN W 64) (sumN W 64)).1 c)), .long (lN (sumN W 64))]) (rest := []) (ws' := fun u => [(m, .inr (9, [.int th, .int (nI fd), .int pc0, .int dw0, .int lt0, .ref mt, .ref mw, .ref mb, .ref ml, .ref mq, .ref mz, .ref ms, .ref mr, .int ic0, .ref mi, .int (dI tr), .int (nI sg), .int (nI ln), .int (nI u.2.1), .int (nI (u.2.1 - fr)), .int (dI u.2.2), .int ma0, .ref mk, .int en0, .ref mj, .ref mn])), (mt, .inl (cI, 16384, .inl tp)), (mw, .inl (cJ, 512, .inr (.inl gW))), (ms, .inl (cJ, 64, .inr (.inl gS))), (mb, .inl (cI, 8, .inl gB)), (ml, .inl (cJ, 512, .inr (.inl gL))), (mq, .inl (cI, 512, .inl gQ)), (mz, .inl (cI, 8, .inl gZ))]) m_SampleDeskModel_109 (kX9_coin X.l (m := m) (mt := mt) (mw := mw) (mb := mb) (ml := ml) (mq := mq) (mz := mz) (ms := ms) (mr := mr) (mi := mi) (mk := mk) (mj := mj) (mn := mn) (th := th) (pc0 := pc0) (dw0 := dw0) (lt0 := lt0) (ic0 := ic0) (en0 := en0) (fd := fd) (sg := sg) (ln := ln) (fr := fr) (e := e) (tr := tr) (tp := tp) (b := b) (ma0 := ma0) (p := p1) (dr := d1) (num := ((alS W (topN W 64) (sumN W 64)).1 c)) (den := (sumN W 64)) hB (by omega) (by omega) hp1.2.2 (by omega) (hab c hc).1) k_code_X9_coin [0, 1] 0 rfl rfl rfl rfl dX9_fromTable_46 (Nat.le_of_ble_eq_true rfl) ⟨rfl, rfl, by decide, by decide⟩ ⟨Nat.zero_le _, Nat.zero_le _⟩ rfl rfl (fun _ => rfl) (v_mgU rfl (fun _ => rfl)) ?_
    intro u46 c46
    obtain ⟨z, p2, d2⟩ := u46
    try dsimp only at c46
    show V (gG D cI cJ cT) X (rmD 2) cX9_fromTable 3 RX9 [(m, .inr (9, [.int th, .int (nI fd), .int pc0, .int dw0, .int lt0, .ref mt, .ref mw, .ref mb, .ref ml, .ref mq, .ref mz, .ref ms, .ref mr, .int ic0, .ref mi, .int (dI tr), .int (nI sg), .int (nI ln), .int (nI p2), .int (nI (p2 - fr)), .int (dI d2), .int ma0, .ref mk, .int en0, .ref mj, .ref mn])), (mt, .inl (cI, 16384, .inl tp)), (mw, .inl (cJ, 512, .inr (.inl gW))), (ms, .inl (cJ, 64, .inr (.inl gS))), (mb, .inl (cI, 8, .inl gB)), (ml, .inl (cJ, 512, .inr (.inl gL))), (mq, .inl (cI, 512, .inl gQ)), (mz, .inl (cI, 8, .inl gZ))] 0 0 [(2, .int (nI c)), (0, .ref m), (1, .int (nI y))] 49 [.int (nI z)]
    have hz : z ≤ 1 := c46.2
    refine v_iconst (v := nI 1) dX9_fromTable_49 (by decide) ?_
    refine v_icmp_ne (tgt := 58) dX9_fromTable_50 (by decide) (fun b50 => ?_) (fun b50 => ?_)
    · have b50 : ¬ (z = 1) := fun q => b50 ((nI_eq (by omega) (by decide)).mpr q)
      refine v_aload_n 1 dX9_fromTable_58 rfl rfl ?_
      refine v_get f_SampleDeskModel_23 0 rfl rfl dX9_fromTable_59 ?_
      refine v_bipush (v := nI 64) dX9_fromTable_62 (by decide) ?_
      refine v_iload_n 2 dX9_fromTable_64 rfl rfl ?_
      refine v_imul dX9_fromTable_65 ?_
      refine v_topi (y := nI (64 * y)) (pk_mul _ _) ?_
      refine v_iload_n 0 dX9_fromTable_66 rfl rfl ?_
      refine v_iadd dX9_fromTable_67 ?_
      refine v_topi (y := nI (64 * y + c)) (nI_add _ _) ?_
      refine v_iald 0 6 rfl rfl (by omega) (by omega) dX9_fromTable_68 ?_
      refine v_topi (y := nI ((alS W (topN W 64) (sumN W 64)).2 c)) (hq1 c hc) ?_
      have hq2 := (hab c hc).2
      refine v_i2l (v := lN ((alS W (topN W 64) (sumN W 64)).2 c)) dX9_fromTable_69 (nI_l (by omega)) ?_
      have hsa := sAl_go (A := (alS W (topN W 64) (sumN W 64)).2) c24.1 c46.1
      rw [if_neg b50] at hsa
      have e1 : mm = 1 := by omega
      subst e1
      exact v_lret hE dX9_fromTable_70 (gS, (alS W (topN W 64) (sumN W 64)).2 c, p2, d2) ⟨hsa, Nat.lt_of_lt_of_le hq2 htp⟩ rfl rfl
    · have b50 : z = 1 := (nI_eq (by omega) (by decide)).mp b50
      refine v_iload_n 0 dX9_fromTable_53 rfl rfl ?_
      refine v_i2l (v := lN c) dX9_fromTable_54 (nI_l (by omega)) ?_
      refine v_goto (tgt := 70) dX9_fromTable_55 (by decide) ?_
      have hsa := sAl_go (A := (alS W (topN W 64) (sumN W 64)).2) c24.1 c46.1
      rw [if_pos b50] at hsa
      have e1 : mm = 1 := by omega
      subst e1
      exact v_lret hE dX9_fromTable_70 (gS, c, p2, d2) ⟨hsa, by show c < 64; omega⟩ rfl rfl
  · have b7 : mm + 1 = 1 := (nI_eq (by omega) (by decide)).mp b7
    refine v_aload_n 0 dX9_fromTable_10 rfl rfl ?_
    refine v_iload_n 1 dX9_fromTable_11 rfl rfl ?_
    refine v_callV (as := [.int (nI y)]) (rest := []) (ws' := fun u => [(m, .inr (9, [.int th, .int (nI fd), .int pc0, .int dw0, .int lt0, .ref mt, .ref mw, .ref mb, .ref ml, .ref mq, .ref mz, .ref ms, .ref mr, .int ic0, .ref mi, .int (dI tr), .int (nI sg), .int (nI ln), .int (nI u.2.2.1), .int (nI (u.2.2.1 - fr)), .int (dI u.2.2.2), .int ma0, .ref mk, .int en0, .ref mj, .ref mn])), (mt, .inl (cI, 16384, .inl tp)), (mw, .inl (cJ, 512, .inr (.inl gW))), (ms, .inl (cJ, 64, .inr (.inl u.1))), (mb, .inl (cI, 8, .inl gB)), (ml, .inl (cJ, 512, .inr (.inl gL))), (mq, .inl (cI, 512, .inl gQ)), (mz, .inl (cI, 8, .inl gZ))]) m_SampleDeskModel_102 (kX9_fromTree X.l (m := m) (mt := mt) (mw := mw) (mb := mb) (ml := ml) (mq := mq) (mz := mz) (ms := ms) (mr := mr) (mi := mi) (mk := mk) (mj := mj) (mn := mn) (th := th) (pc0 := pc0) (dw0 := dw0) (lt0 := lt0) (ic0 := ic0) (en0 := en0) (fd := fd) (sg := sg) (ln := ln) (fr := fr) (e := e) (tr := tr) (tp := tp) (b := b) (ma0 := ma0) (p := p) (dr := dr) (y := y) (gW := gW) (W := W) (gS := gS) hB (by omega) (by omega) hdr hW hWb hy hs0) k_code_X9_fromTree [0, 1, 2, 3] 0 rfl rfl rfl rfl dX9_fromTable_12 (Nat.le_of_ble_eq_true rfl) ⟨rfl, rfl, by decide, by decide⟩ ⟨Nat.zero_le _, Nat.zero_le _⟩ rfl rfl (fun _ => rfl) (v_mgU rfl (fun _ => rfl)) ?_
    intro u12 c12
    obtain ⟨g1, r1, p1, d1⟩ := u12
    try dsimp only at c12
    show V (gG D cI cJ cT) X (rmD 2) cX9_fromTable 3 RX9 [(m, .inr (9, [.int th, .int (nI fd), .int pc0, .int dw0, .int lt0, .ref mt, .ref mw, .ref mb, .ref ml, .ref mq, .ref mz, .ref ms, .ref mr, .int ic0, .ref mi, .int (dI tr), .int (nI sg), .int (nI ln), .int (nI p1), .int (nI (p1 - fr)), .int (dI d1), .int ma0, .ref mk, .int en0, .ref mj, .ref mn])), (mt, .inl (cI, 16384, .inl tp)), (mw, .inl (cJ, 512, .inr (.inl gW))), (ms, .inl (cJ, 64, .inr (.inl g1))), (mb, .inl (cI, 8, .inl gB)), (ml, .inl (cJ, 512, .inr (.inl gL))), (mq, .inl (cI, 512, .inl gQ)), (mz, .inl (cI, 8, .inl gZ))] 0 0 [(0, .ref m), (1, .int (nI y))] 15 [.long (lN r1)]
    exact v_lret hE dX9_fromTable_15 (g1, r1, p1, d1) (⟨by rw [sTab, if_pos (by omega)]; exact c12.1, c12.2⟩) rfl rfl
