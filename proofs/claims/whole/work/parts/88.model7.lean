theorem ht_x (F : Nat → Nat) : ∀ k, ht F k ≤ k := by
  intro k
  induction k with
  | zero => exact Nat.le_refl _
  | succ k ih => simp only [ht]; split <;> omega
set_option maxRecDepth 100000 in
set_option maxHeartbeats 1000000 in
theorem kX9_below_loop {D : va_G} {cI cJ cT : ClassId} {X : vX} {m mt mw mb ml mq mz ms mr mi mk mj mn : Nat} {th fd0 pc0 dw0 lt0 ic0 tr0 sg0 ln0 at0 rd0 dr0 ma0 en0 : Int32} {N k0 : Nat} {F : Nat → Nat} {gR : Nat → Int32} (hN : N ≤ 256) (hV : Vp F N) (hF1 : ∀ x, x < N → F x ≤ 1) (hgR : ∀ x, x < N → gR x = nI (F x)) (hk0 : k0 < N) (hF0 : F k0 = 1) {W0 : va_W} {post : Unit → Prop} (hq : ∀ u, True → post u) (hE : vE (gG D cI cJ cT) X (some .int) W0 post (fun u => some (.int (nI (belowN F N k0)))) (fun u => [(m, .inr (9, [.int th, .int fd0, .int pc0, .int dw0, .int lt0, .ref mt, .ref mw, .ref mb, .ref ml, .ref mq, .ref mz, .ref ms, .ref mr, .int ic0, .ref mi, .int tr0, .int sg0, .int ln0, .int at0, .int rd0, .int dr0, .int ma0, .ref mk, .int en0, .ref mj, .ref mn])), (mr, .inl (cI, 512, .inl gR))])) :
    ∀ (f : Nat) (h : Nat) (k : Nat), N - k ≤ f → k < N → h + ht F k0 = ht F (k + 1) → (h = 1 ∧ k = k0) ∨ k0 < k → (0 < h → mtL F f h k = mtL F N 1 k0) ∧ (h = 0 → k = mtL F N 1 k0) → V (gG D cI cJ cT) X (rmD 0) cX9_below 4 RX9 [(m, .inr (9, [.int th, .int fd0, .int pc0, .int dw0, .int lt0, .ref mt, .ref mw, .ref mb, .ref ml, .ref mq, .ref mz, .ref ms, .ref mr, .int ic0, .ref mi, .int tr0, .int sg0, .int ln0, .int at0, .int rd0, .int dr0, .int ma0, .ref mk, .int en0, .ref mj, .ref mn])), (mr, .inl (cI, 512, .inl gR))] 0 0 [(0, .ref m), (1, .int (nI k0)), (2, .int (nI h)), (3, .int (nI k))] 4 [] := by
  intro f
  induction f with
  | zero => intro h k hf hkN hh hkk hR; omega
  | succ f ih =>
    intro h k hf hkN hh hkk hR
    have hhl := ht_x F (k + 1)
    refine v_iload_n 2 dX9_below_4 rfl rfl ?_
    refine v_if_le (tgt := 32) dX9_below_5 (by decide) (fun b5 => ?_) (fun b5 => ?_)
    · have b5 : h ≤ 0 := ((show nI h ≤ 0 ↔ h ≤ 0 from nI_leI (b := 0) (by omega) (by decide))).mp b5
      have hkR := hR.2 (by omega)
      refine v_iload_n 3 dX9_below_32 rfl rfl ?_
      refine v_iload_n 1 dX9_below_33 rfl rfl ?_
      refine v_isub dX9_below_34 ?_
      refine v_topi (y := nI (k - k0)) (pk_sub (by omega)) ?_
      refine v_iconst (v := nI 1) dX9_below_35 (by decide) ?_
      refine v_isub dX9_below_36 ?_
      refine v_topi (y := nI (k - k0 - 1)) (pk_sub (by omega)) ?_
      refine v_iconst (v := nI 2) dX9_below_37 (by decide) ?_
      refine v_idiv dX9_below_38 (by decide) ?_
      refine v_topi (y := nI ((k - k0 - 1) / 2)) (pk_div (by omega) (by decide) (by decide)) ?_
      exact v_iret hE dX9_below_39 () (hq _ trivial) (by unfold belowN; rw [hkR]) rfl
    · have b5 : ¬ (h ≤ 0) := fun q => b5 (((show nI h ≤ 0 ↔ h ≤ 0 from nI_leI (b := 0) (by omega) (by decide))).mpr q)
      have hk1 : k + 1 < N := by
        rcases Nat.lt_or_ge (k + 1) N with q | q
        · exact q
        · have e9 : k + 1 = N := by omega
          rw [e9, hV.2] at hh; omega
      have hFk := hF1 (k + 1) hk1
      refine v_iinc (lv' := [(3, .int (nI (k + 1))), (0, .ref m), (1, .int (nI k0)), (2, .int (nI h))]) (v := nI (k + 1)) 3 dX9_below_8 rfl (nI_1 k) (by decide) rfl ?_
      refine v_iload_n 3 dX9_below_11 rfl rfl ?_
      refine v_aload_n 1 dX9_below_12 rfl rfl ?_
      refine v_get f_SampleDeskModel_32 0 rfl rfl dX9_below_13 ?_
      refine v_iload_n 0 dX9_below_16 rfl rfl ?_
      refine v_iald 0 1 rfl rfl (by omega) (by omega) dX9_below_17 ?_
      refine v_topi (y := nI (F (k + 1))) (hgR _ hk1) ?_
      refine v_iconst (v := nI 1) dX9_below_18 (by decide) ?_
      refine v_icmp_ne (tgt := 26) dX9_below_19 (by decide) (fun b19 => ?_) (fun b19 => ?_)
      · have b19 : ¬ (F (k + 1) = 1) := fun q => b19 ((nI_eq (by omega) (by decide)).mpr q)
        refine v_iconst (v := (-1)) dX9_below_26 (by decide) ?_
        refine v_iadd dX9_below_27 ?_
        refine v_topi (y := nI (h - 1)) (sb_m1 (by omega)) ?_
        refine v_istore_n (lv' := [(2, .int (nI (h - 1))), (3, .int (nI (k + 1))), (0, .ref m), (1, .int (nI k0))]) dX9_below_28 rfl (by decide) rfl ?_
        refine v_goto (tgt := 4) dX9_below_29 (by decide) ?_
        refine v_lv [2, 3, 0, 1] rfl ?_
        exact ih (h - 1) (k + 1) (by omega) hk1 (by have := hV.1 (k + 1) hk1 b19; show (h - 1) + ht F k0 = (if F (k + 1) = 1 then ht F (k + 1) + 1 else ht F (k + 1) - 1); rw [if_neg b19]; omega) (by omega) ⟨fun h9 => by have hm := hR.1 (by omega); simp only [mtL, b19, if_false] at hm; rw [if_neg (by omega)] at hm; exact hm, fun h9 => by have hm := hR.1 (by omega); simp only [mtL, b19, if_false] at hm; first | (rw [if_pos h9] at hm; exact hm) | omega⟩
      · have b19 : F (k + 1) = 1 := (nI_eq (by omega) (by decide)).mp b19
        refine v_iconst (v := nI 1) dX9_below_22 (by decide) ?_
        refine v_goto (tgt := 27) dX9_below_23 (by decide) ?_
        refine v_iadd dX9_below_27 ?_
        refine v_topi (y := nI (h + 1)) (nI_add _ _) ?_
        refine v_istore_n (lv' := [(2, .int (nI (h + 1))), (3, .int (nI (k + 1))), (0, .ref m), (1, .int (nI k0))]) dX9_below_28 rfl (by decide) rfl ?_
        refine v_goto (tgt := 4) dX9_below_29 (by decide) ?_
        refine v_lv [2, 3, 0, 1] rfl ?_
        exact ih (h + 1) (k + 1) (by omega) hk1 (by show (h + 1) + ht F k0 = (if F (k + 1) = 1 then ht F (k + 1) + 1 else ht F (k + 1) - 1); rw [if_pos b19]; omega) (by omega) ⟨fun h9 => by have hm := hR.1 (by omega); simp only [mtL, b19, if_true] at hm; rw [if_neg (by omega)] at hm; exact hm, fun h9 => by have hm := hR.1 (by omega); simp only [mtL, b19, if_true] at hm; first | (rw [if_pos h9] at hm; exact hm) | omega⟩
set_option maxRecDepth 100000 in
set_option maxHeartbeats 1000000 in
theorem kX9_below {D : va_G} {cI cJ cT : ClassId} (l : Launch) {m mt mw mb ml mq mz ms mr mi mk mj mn : Nat} {th fd0 pc0 dw0 lt0 ic0 tr0 sg0 ln0 at0 rd0 dr0 ma0 en0 : Int32} {N k0 : Nat} {F : Nat → Nat} {gR : Nat → Int32} (hN : N ≤ 256) (hV : Vp F N) (hF1 : ∀ x, x < N → F x ≤ 1) (hgR : ∀ x, x < N → gR x = nI (F x)) (hk0 : k0 < N) (hF0 : F k0 = 1) : Fn (S := Unit) (gG D cI cJ cT) l yX9_below (.code yX9_below cX9_below 4 (some .int)) (rmD 0) [.ref m, .int (nI k0)] [(m, .inr (9, [.int th, .int fd0, .int pc0, .int dw0, .int lt0, .ref mt, .ref mw, .ref mb, .ref ml, .ref mq, .ref mz, .ref ms, .ref mr, .int ic0, .ref mi, .int tr0, .int sg0, .int ln0, .int at0, .int rd0, .int dr0, .int ma0, .ref mk, .int en0, .ref mj, .ref mn])), (mr, .inl (cI, 512, .inl gR))] (fun _ => True) (fun u => some (.int (nI (belowN F N k0)))) (fun u => [(m, .inr (9, [.int th, .int fd0, .int pc0, .int dw0, .int lt0, .ref mt, .ref mw, .ref mb, .ref ml, .ref mq, .ref mz, .ref ms, .ref mr, .int ic0, .ref mi, .int tr0, .int sg0, .int ln0, .int at0, .int rd0, .int dr0, .int ma0, .ref mk, .int en0, .ref mj, .ref mn])), (mr, .inl (cI, 512, .inl gR))]) := by
  refine Fn.intro (by decide) (Nat.le_of_ble_eq_true rfl) ?_
  intro X hX hE hin
  subst hX
  show V (gG D cI cJ cT) X _ cX9_below 4 RX9 _ 0 0 [(0, .ref m), (1, .int (nI k0))] 0 []
  refine v_iconst (v := nI 1) dX9_below_0 (by decide) ?_
  refine v_istore_n (lv' := [(2, .int (nI 1)), (0, .ref m), (1, .int (nI k0))]) dX9_below_1 rfl (by decide) rfl ?_
  refine v_iload_n 2 dX9_below_2 rfl rfl ?_
  refine v_istore_n (lv' := [(3, .int (nI k0)), (2, .int (nI 1)), (0, .ref m), (1, .int (nI k0))]) dX9_below_3 rfl (by decide) rfl ?_
  refine v_lv [2, 3, 1, 0] rfl ?_
  exact kX9_below_loop hN hV hF1 hgR hk0 hF0 (fun u _ => trivial) hE N 1 k0 (by omega) hk0 (by simp only [ht, hF0, if_true]; omega) (Or.inl ⟨rfl, rfl⟩) ⟨fun _ => rfl, fun h => absurd h (by decide)⟩
theorem tre_K {F : Nat → Nat} {n a : Nat} {g : Nat → Int32} (hV : Vp F (2 * n)) (ha : a < 2 * n) (hF : F a = 1) (hK : ∀ j, j < (ul F a).length → g j = nI (treeF F (2 * n) j)) : ∀ j, j < (ul F a).length + 1 → upd g (ul F a).length (nI (belowN F (2 * n) a)) j = nI (treeF F (2 * n) j) := by
  intro j hj
  unfold upd
  by_cases e : j = (ul F a).length
  · rw [if_pos e, e]
    unfold treeF
    have h1 := (ul_mono (F := F) (2 * n - (a + 1)) (a + 1)).2 (ul F a).length (by simp [ul, hF])
    rw [show a + 1 + (2 * n - (a + 1)) = 2 * n by omega, ul_last hF] at h1
    rw [h1]
  · rw [if_neg e]; exact hK j (by omega)
set_option maxRecDepth 100000 in
set_option maxHeartbeats 1000000 in
theorem kX9_tree_items {D : va_G} {cI cJ cT : ClassId} {X : vX} {m mt mw mb ml mq mz ms mr mi mk mj mn : Nat} {th pc0 dw0 lt0 ic0 ma0 en0 : Int32} {fd sg ln fr e : Nat} {tr : Bool} {tp : Nat → Int32} {b : Nat → Nat} {n0 p : Nat} {dr : Bool} {F : Nat → Nat} {gR : Nat → Int32} (hn0 : n0 ≤ 128) (hV : Vp F (2 * n0)) (hF1 : ∀ x, x < 2 * n0 → F x ≤ 1) (hgR : ∀ x, x < 2 * n0 → gR x = nI (F x)) {W0 : va_W} {post : Int32 × (Nat → Int32) × (Nat → Int32) × Nat × Bool → Prop} (hq : ∀ g : Int32 × (Nat → Int32), (g.1 = nI n0 ∧ ∀ x, x < n0 → g.2 x = nI (treeF F (2 * n0) x)) → post (g.1, g.2, gR, p, dr)) (hE : vE (gG D cI cJ cT) X none W0 post (fun u => none) (fun u => [(m, .inr (9, [.int th, .int (nI fd), .int pc0, .int dw0, .int lt0, .ref mt, .ref mw, .ref mb, .ref ml, .ref mq, .ref mz, .ref ms, .ref mr, .int ic0, .ref mi, .int (dI tr), .int (nI sg), .int (nI ln), .int (nI u.2.2.2.1), .int (nI (u.2.2.2.1 - fr)), .int (dI u.2.2.2.2), .int u.1, .ref mk, .int en0, .ref mj, .ref mn])), (mt, .inl (cI, 16384, .inl tp)), (mk, .inl (cI, 256, .inl u.2.1)), (mr, .inl (cI, 512, .inl u.2.2.1))])) :
    ∀ (k : Nat) (a : Nat) (gK : Nat → Int32), 2 * n0 - a < k → a ≤ 2 * n0 → (∀ j, j < (ul F a).length → gK j = nI (treeF F (2 * n0) j)) → V (gG D cI cJ cT) X (rmD 3) cX9_tree 3 RX9 [(m, .inr (9, [.int th, .int (nI fd), .int pc0, .int dw0, .int lt0, .ref mt, .ref mw, .ref mb, .ref ml, .ref mq, .ref mz, .ref ms, .ref mr, .int ic0, .ref mi, .int (dI tr), .int (nI sg), .int (nI ln), .int (nI p), .int (nI (p - fr)), .int (dI dr), .int (nI (ul F a).length), .ref mk, .int en0, .ref mj, .ref mn])), (mt, .inl (cI, 16384, .inl tp)), (mk, .inl (cI, 256, .inl gK)), (mr, .inl (cI, 512, .inl gR))] 0 0 [(0, .ref m), (1, .int (nI n0)), (2, .int (nI a))] 47 [] := by
  intro k
  induction k with
  | zero => intro a gK hk ha hK; omega
  | succ k ih =>
    intro a gK hk ha hK
    refine v_iload_n 2 dX9_tree_47 rfl rfl ?_
    refine v_iconst (v := nI 2) dX9_tree_48 (by decide) ?_
    refine v_iload_n 1 dX9_tree_49 rfl rfl ?_
    refine v_imul dX9_tree_50 ?_
    refine v_topi (y := nI (2 * n0)) (pk_mul 2 n0) ?_
    refine v_icmp_ge (tgt := 94) dX9_tree_51 (by decide) (fun b51 => ?_) (fun b51 => ?_)
    · have b51 : 2 * n0 ≤ a := (nI_leI (by omega) (by omega)).mp b51
      have hae : a = 2 * n0 := by omega
      subst hae
      have hln : (ul F (2 * n0)).length = n0 := by have h1 := ul_len hV.1 (2 * n0) (Nat.le_refl _); rw [hV.2] at h1; omega
      exact v_vret hE dX9_tree_94 (nI (ul F (2 * n0)).length, gK, gR, p, dr) (hq (nI (ul F (2 * n0)).length, gK) ⟨by show nI _ = nI n0; rw [hln], fun x hx => hK x (by omega)⟩) rfl rfl
    · have b51 : ¬ (2 * n0 ≤ a) := fun q => b51 ((nI_leI (by omega) (by omega)).mpr q)
      have hFa := hF1 a (by omega)
      have hul := ul_le hV (a := a) (by omega)
      refine v_aload_n 0 dX9_tree_54 rfl rfl ?_
      refine v_get f_SampleDeskModel_32 0 rfl rfl dX9_tree_55 ?_
      refine v_iload_n 2 dX9_tree_58 rfl rfl ?_
      refine v_iald 0 3 rfl rfl (by omega) (by omega) dX9_tree_59 ?_
      refine v_topi (y := nI (F a)) (hgR a (by omega)) ?_
      refine v_iconst (v := nI 1) dX9_tree_60 (by decide) ?_
      refine v_icmp_ne (tgt := 88) dX9_tree_61 (by decide) (fun b61 => ?_) (fun b61 => ?_)
      · have b61 : ¬ (F a = 1) := fun q => b61 ((nI_eq (by omega) (by decide)).mpr q)
        refine v_iinc (lv' := [(2, .int (nI (a + 1))), (0, .ref m), (1, .int (nI n0))]) (v := nI (a + 1)) 2 dX9_tree_88 rfl (nI_1 a) (by decide) rfl ?_
        refine v_goto (tgt := 47) dX9_tree_91 (by decide) ?_
        have hl9 : (ul F (a + 1)).length = (ul F a).length := by simp [ul, b61]
        refine v_lv [1, 2, 0] rfl ?_
        rw [← hl9]
        exact ih (a + 1) gK (by omega) (by omega) (fun j hj => hK j (by omega))
      · have b61 : F a = 1 := (nI_eq (by omega) (by decide)).mp b61
        have hcn := ul_lt hV (by omega) b61
        refine v_aload_n 0 dX9_tree_64 rfl rfl ?_
        refine v_get f_SampleDeskModel_38 0 rfl rfl dX9_tree_65 ?_
        refine v_aload_n 0 dX9_tree_68 rfl rfl ?_
        refine v_get f_SampleDeskModel_123 0 rfl rfl dX9_tree_69 ?_
        refine v_aload_n 0 dX9_tree_72 rfl rfl ?_
        refine v_iload_n 2 dX9_tree_73 rfl rfl ?_
        refine v_callV (as := [.int (nI a)]) (rest := [.int (nI (ul F a).length), .ref mk]) (ws' := fun u => [(m, .inr (9, [.int th, .int (nI fd), .int pc0, .int dw0, .int lt0, .ref mt, .ref mw, .ref mb, .ref ml, .ref mq, .ref mz, .ref ms, .ref mr, .int ic0, .ref mi, .int (dI tr), .int (nI sg), .int (nI ln), .int (nI p), .int (nI (p - fr)), .int (dI dr), .int (nI (ul F a).length), .ref mk, .int en0, .ref mj, .ref mn])), (mt, .inl (cI, 16384, .inl tp)), (mk, .inl (cI, 256, .inl gK)), (mr, .inl (cI, 512, .inl gR))]) m_SampleDeskModel_131 (kX9_below X.l (m := m) (mt := mt) (mw := mw) (mb := mb) (ml := ml) (mq := mq) (mz := mz) (ms := ms) (mr := mr) (mi := mi) (mk := mk) (mj := mj) (mn := mn) (th := th) (fd0 := nI fd) (pc0 := pc0) (dw0 := dw0) (lt0 := lt0) (ic0 := ic0) (tr0 := dI tr) (sg0 := nI sg) (ln0 := nI ln) (at0 := nI p) (rd0 := nI (p - fr)) (dr0 := dI dr) (ma0 := nI (ul F a).length) (en0 := en0) (N := 2 * n0) (k0 := a) (F := F) (gR := gR) (by omega) hV hF1 hgR (by omega) b61) k_code_X9_below [0, 3] 0 rfl rfl rfl rfl dX9_tree_74 (Nat.le_of_ble_eq_true rfl) ⟨rfl, rfl, by decide, by decide⟩ ⟨Nat.zero_le _, Nat.zero_le _⟩ rfl rfl (fun _ => rfl) (v_mgU rfl (fun _ => rfl)) ?_
        intro uu c74
        try dsimp only at c74
        show V (gG D cI cJ cT) X (rmD 3) cX9_tree 3 RX9 [(m, .inr (9, [.int th, .int (nI fd), .int pc0, .int dw0, .int lt0, .ref mt, .ref mw, .ref mb, .ref ml, .ref mq, .ref mz, .ref ms, .ref mr, .int ic0, .ref mi, .int (dI tr), .int (nI sg), .int (nI ln), .int (nI p), .int (nI (p - fr)), .int (dI dr), .int (nI (ul F a).length), .ref mk, .int en0, .ref mj, .ref mn])), (mt, .inl (cI, 16384, .inl tp)), (mk, .inl (cI, 256, .inl gK)), (mr, .inl (cI, 512, .inl gR))] 0 0 [(0, .ref m), (1, .int (nI n0)), (2, .int (nI a))] 77 [.int (nI (belowN F (2 * n0) a)), .int (nI (ul F a).length), .ref mk]
        refine v_iast (ws' := [(m, .inr (9, [.int th, .int (nI fd), .int pc0, .int dw0, .int lt0, .ref mt, .ref mw, .ref mb, .ref ml, .ref mq, .ref mz, .ref ms, .ref mr, .int ic0, .ref mi, .int (dI tr), .int (nI sg), .int (nI ln), .int (nI p), .int (nI (p - fr)), .int (dI dr), .int (nI (ul F a).length), .ref mk, .int en0, .ref mj, .ref mn])), (mt, .inl (cI, 16384, .inl tp)), (mk, .inl (cI, 256, .inl (upd gK ((ul F a).length) (nI (belowN F (2 * n0) a))))), (mr, .inl (cI, 512, .inl gR))]) 0 2 rfl rfl (by omega) (by omega) dX9_tree_77 rfl ?_
        refine v_aload_n 0 dX9_tree_78 rfl rfl ?_
        refine v_dup dX9_tree_79 rfl ?_
        refine v_get f_SampleDeskModel_123 0 rfl rfl dX9_tree_80 ?_
        refine v_iconst (v := nI 1) dX9_tree_83 (by decide) ?_
        refine v_iadd dX9_tree_84 ?_
        refine v_topi (y := nI ((ul F a).length + 1)) (nI_add _ _) ?_
        refine v_put (ws' := [(m, .inr (9, [.int th, .int (nI fd), .int pc0, .int dw0, .int lt0, .ref mt, .ref mw, .ref mb, .ref ml, .ref mq, .ref mz, .ref ms, .ref mr, .int ic0, .ref mi, .int (dI tr), .int (nI sg), .int (nI ln), .int (nI p), .int (nI (p - fr)), .int (dI dr), .int (nI ((ul F a).length + 1)), .ref mk, .int en0, .ref mj, .ref mn])), (mt, .inl (cI, 16384, .inl tp)), (mk, .inl (cI, 256, .inl (upd gK ((ul F a).length) (nI (belowN F (2 * n0) a))))), (mr, .inl (cI, 512, .inl gR))]) fw_SampleDeskModel_123 0 rfl (rfl) (rfl) (Nat.le_of_ble_eq_true rfl) dX9_tree_85 rfl ?_
        refine v_iinc (lv' := [(2, .int (nI (a + 1))), (0, .ref m), (1, .int (nI n0))]) (v := nI (a + 1)) 2 dX9_tree_88 rfl (nI_1 a) (by decide) rfl ?_
        refine v_goto (tgt := 47) dX9_tree_91 (by decide) ?_
        have hl9 : (ul F (a + 1)).length = (ul F a).length + 1 := by simp [ul, b61]
        refine v_lv [1, 2, 0] rfl ?_
        rw [← hl9]
        exact ih (a + 1) _ (by omega) (by omega) (fun j hj => tre_K hV (by omega) b61 hK j (by omega))
set_option maxRecDepth 100000 in
set_option maxHeartbeats 1000000 in
theorem kX9_tree_copy {D : va_G} {cI cJ cT : ClassId} {X : vX} {m mt mw mb ml mq mz ms mr mi mk mj mn : Nat} {th pc0 dw0 lt0 ic0 ma0 en0 : Int32} {fd sg ln fr e : Nat} {tr : Bool} {tp : Nat → Int32} {b : Nat → Nat} {n0 p : Nat} {dr : Bool} {F : Nat → Nat} {gK : Nat → Int32} (hn0 : n0 ≤ 128) (hV : Vp F (2 * n0)) (hF1 : ∀ x, x < 2 * n0 → F x ≤ 1) (hgK : ∀ x, x < 2 * n0 → gK x = nI (F x)) {W0 : va_W} {post : Int32 × (Nat → Int32) × (Nat → Int32) × Nat × Bool → Prop} (hq : ∀ u : Int32 × (Nat → Int32) × (Nat → Int32) × Nat × Bool, (u.1 = nI n0 ∧ ∀ x, x < n0 → u.2.1 x = nI (treeF F (2 * n0) x)) ∧ u.2.2.2 = (p, dr) → post u) (hE : vE (gG D cI cJ cT) X none W0 post (fun u => none) (fun u => [(m, .inr (9, [.int th, .int (nI fd), .int pc0, .int dw0, .int lt0, .ref mt, .ref mw, .ref mb, .ref ml, .ref mq, .ref mz, .ref ms, .ref mr, .int ic0, .ref mi, .int (dI tr), .int (nI sg), .int (nI ln), .int (nI u.2.2.2.1), .int (nI (u.2.2.2.1 - fr)), .int (dI u.2.2.2.2), .int u.1, .ref mk, .int en0, .ref mj, .ref mn])), (mt, .inl (cI, 16384, .inl tp)), (mk, .inl (cI, 256, .inl u.2.1)), (mr, .inl (cI, 512, .inl u.2.2.1))])) :
    ∀ (k : Nat) (a : Nat) (gR : Nat → Int32), 2 * n0 - a < k → a ≤ 2 * n0 → (∀ x, x < a → gR x = nI (F x)) → V (gG D cI cJ cT) X (rmD 3) cX9_tree 3 RX9 [(m, .inr (9, [.int th, .int (nI fd), .int pc0, .int dw0, .int lt0, .ref mt, .ref mw, .ref mb, .ref ml, .ref mq, .ref mz, .ref ms, .ref mr, .int ic0, .ref mi, .int (dI tr), .int (nI sg), .int (nI ln), .int (nI p), .int (nI (p - fr)), .int (dI dr), .int (nI (2 * n0)), .ref mk, .int en0, .ref mj, .ref mn])), (mt, .inl (cI, 16384, .inl tp)), (mk, .inl (cI, 256, .inl gK)), (mr, .inl (cI, 512, .inl gR))] 0 0 [(0, .ref m), (1, .int (nI n0)), (2, .int (nI a))] 15 [] := by
  intro k
  induction k with
  | zero => intro a gR hk ha hgR; omega
  | succ k ih =>
    intro a gR hk ha hgR
    refine v_iload_n 2 dX9_tree_15 rfl rfl ?_
    refine v_iconst (v := nI 2) dX9_tree_16 (by decide) ?_
    refine v_iload_n 1 dX9_tree_17 rfl rfl ?_
    refine v_imul dX9_tree_18 ?_
    refine v_topi (y := nI (2 * n0)) (pk_mul 2 n0) ?_
    refine v_icmp_ge (tgt := 40) dX9_tree_19 (by decide) (fun b19 => ?_) (fun b19 => ?_)
    · have b19 : 2 * n0 ≤ a := (nI_leI (by omega) (by omega)).mp b19
      refine v_aload_n 0 dX9_tree_40 rfl rfl ?_
      refine v_iconst (v := nI 0) dX9_tree_41 (by decide) ?_
      refine v_put (ws' := [(m, .inr (9, [.int th, .int (nI fd), .int pc0, .int dw0, .int lt0, .ref mt, .ref mw, .ref mb, .ref ml, .ref mq, .ref mz, .ref ms, .ref mr, .int ic0, .ref mi, .int (dI tr), .int (nI sg), .int (nI ln), .int (nI p), .int (nI (p - fr)), .int (dI dr), .int (nI 0), .ref mk, .int en0, .ref mj, .ref mn])), (mt, .inl (cI, 16384, .inl tp)), (mk, .inl (cI, 256, .inl gK)), (mr, .inl (cI, 512, .inl gR))]) fw_SampleDeskModel_123 0 rfl (rfl) (rfl) (Nat.le_of_ble_eq_true rfl) dX9_tree_42 rfl ?_
      refine v_iconst (v := nI 0) dX9_tree_45 (by decide) ?_
      refine v_istore_n (lv' := [(2, .int (nI 0)), (0, .ref m), (1, .int (nI n0))]) dX9_tree_46 rfl (by decide) rfl ?_
      refine v_lv [1, 2, 0] rfl ?_
      exact kX9_tree_items (ma0 := ma0) (e := e) (b := b) hn0 hV hF1 (fun x hx => hgR x (by omega)) (fun g hg => hq _ ⟨hg, rfl⟩) hE (2 * n0 + 1) 0 gK (by omega) (by omega) (fun j hj => absurd hj (Nat.not_lt_zero j))
    · have b19 : ¬ (2 * n0 ≤ a) := fun q => b19 ((nI_leI (by omega) (by omega)).mpr q)
      refine v_aload_n 0 dX9_tree_22 rfl rfl ?_
      refine v_get f_SampleDeskModel_32 0 rfl rfl dX9_tree_23 ?_
      refine v_iload_n 2 dX9_tree_26 rfl rfl ?_
      refine v_aload_n 0 dX9_tree_27 rfl rfl ?_
      refine v_get f_SampleDeskModel_38 0 rfl rfl dX9_tree_28 ?_
      refine v_iload_n 2 dX9_tree_31 rfl rfl ?_
      refine v_iald 0 2 rfl rfl (by omega) (by omega) dX9_tree_32 ?_
      refine v_iast (ws' := [(m, .inr (9, [.int th, .int (nI fd), .int pc0, .int dw0, .int lt0, .ref mt, .ref mw, .ref mb, .ref ml, .ref mq, .ref mz, .ref ms, .ref mr, .int ic0, .ref mi, .int (dI tr), .int (nI sg), .int (nI ln), .int (nI p), .int (nI (p - fr)), .int (dI dr), .int (nI (2 * n0)), .ref mk, .int en0, .ref mj, .ref mn])), (mt, .inl (cI, 16384, .inl tp)), (mk, .inl (cI, 256, .inl gK)), (mr, .inl (cI, 512, .inl (upd gR a (gK a))))]) 0 3 rfl rfl (by omega) (by omega) dX9_tree_33 rfl ?_
      refine v_iinc (lv' := [(2, .int (nI (a + 1))), (0, .ref m), (1, .int (nI n0))]) (v := nI (a + 1)) 2 dX9_tree_34 rfl (nI_1 a) (by decide) rfl ?_
      refine v_goto (tgt := 15) dX9_tree_37 (by decide) ?_
      refine v_lv [1, 2, 0] rfl ?_
      exact ih (a + 1) _ (by omega) (by omega) (fun x hx => by unfold upd; exact if q9 : x = a then by rw [if_pos q9, q9, hgK a (by omega)] else by rw [if_neg q9]; exact hgR x (by omega))
set_option maxRecDepth 100000 in
set_option maxHeartbeats 1000000 in
theorem kX9_tree {D : va_G} {cI cJ cT : ClassId} (l : Launch) {m mt mw mb ml mq mz ms mr mi mk mj mn : Nat} {th pc0 dw0 lt0 ic0 ma0 en0 : Int32} {fd sg ln fr e : Nat} {tr : Bool} {tp : Nat → Int32} {b : Nat → Nat} {p : Nat} {dr : Bool} {n0 : Nat} {gK gR : Nat → Int32} (hB : MB tr fd ln sg tp b e) (hfr : fr ≤ p) (hp : p ≤ e) (hdr : dr = true → p = e) (hn0 : n0 ≤ 128) : Fn (S := Int32 × (Nat → Int32) × (Nat → Int32) × Nat × Bool) (gG D cI cJ cT) l yX9_tree (.code yX9_tree cX9_tree 3 none) (rmD 3) [.ref m, .int (nI n0)] [(m, .inr (9, [.int th, .int (nI fd), .int pc0, .int dw0, .int lt0, .ref mt, .ref mw, .ref mb, .ref ml, .ref mq, .ref mz, .ref ms, .ref mr, .int ic0, .ref mi, .int (dI tr), .int (nI sg), .int (nI ln), .int (nI p), .int (nI (p - fr)), .int (dI dr), .int ma0, .ref mk, .int en0, .ref mj, .ref mn])), (mt, .inl (cI, 16384, .inl tp)), (mk, .inl (cI, 256, .inl gK)), (mr, .inl (cI, 512, .inl gR))] (fun u => Rg (sTre b e n0 p) e p dr (fun G => u.1 = nI n0 ∧ ∀ x, x < n0 → u.2.1 x = nI (G x)) u.2.2.2.1 u.2.2.2.2) (fun u => none) (fun u => [(m, .inr (9, [.int th, .int (nI fd), .int pc0, .int dw0, .int lt0, .ref mt, .ref mw, .ref mb, .ref ml, .ref mq, .ref mz, .ref ms, .ref mr, .int ic0, .ref mi, .int (dI tr), .int (nI sg), .int (nI ln), .int (nI u.2.2.2.1), .int (nI (u.2.2.2.1 - fr)), .int (dI u.2.2.2.2), .int u.1, .ref mk, .int en0, .ref mj, .ref mn])), (mt, .inl (cI, 16384, .inl tp)), (mk, .inl (cI, 256, .inl u.2.1)), (mr, .inl (cI, 512, .inl u.2.2.1))]) := by
  refine Fn.intro (by decide) (Nat.le_of_ble_eq_true rfl) ?_
  intro X hX hE hin
  subst hX
  show V (gG D cI cJ cT) X _ cX9_tree 3 RX9 _ 0 0 [(0, .ref m), (1, .int (nI n0))] 0 []
  refine v_aload_n 0 dX9_tree_0 rfl rfl ?_
  refine v_iload_n 1 dX9_tree_1 rfl rfl ?_
  refine v_callV (as := [.int (nI n0)]) (rest := []) (ws' := fun u => [(m, .inr (9, [.int th, .int (nI fd), .int pc0, .int dw0, .int lt0, .ref mt, .ref mw, .ref mb, .ref ml, .ref mq, .ref mz, .ref ms, .ref mr, .int ic0, .ref mi, .int (dI tr), .int (nI sg), .int (nI ln), .int (nI u.2.1), .int (nI (u.2.1 - fr)), .int (dI u.2.2), .int (nI (2 * n0)), .ref mk, .int en0, .ref mj, .ref mn])), (mt, .inl (cI, 16384, .inl tp)), (mk, .inl (cI, 256, .inl u.1)), (mr, .inl (cI, 512, .inl gR))]) m_SampleDeskModel_128 (kX9_path X.l (m := m) (mt := mt) (mw := mw) (mb := mb) (ml := ml) (mq := mq) (mz := mz) (ms := ms) (mr := mr) (mi := mi) (mk := mk) (mj := mj) (mn := mn) (th := th) (pc0 := pc0) (dw0 := dw0) (lt0 := lt0) (ic0 := ic0) (en0 := en0) (fd := fd) (sg := sg) (ln := ln) (fr := fr) (e := e) (tr := tr) (tp := tp) (b := b) (ma0 := ma0) (p := p) (dr := dr) (n0 := n0) (gK := gK) hB (by omega) (by omega) hdr hn0) k_code_X9_path [0, 1, 2] 0 rfl rfl rfl rfl dX9_tree_2 (Nat.le_of_ble_eq_true rfl) ⟨rfl, rfl, by decide, by decide⟩ ⟨Nat.zero_le _, Nat.zero_le _⟩ rfl rfl (fun _ => rfl) (v_mgU rfl (fun _ => rfl)) ?_
  intro u2 c2
  obtain ⟨g1, p1, d1⟩ := u2
  try dsimp only at c2
  show V (gG D cI cJ cT) X (rmD 3) cX9_tree 3 RX9 [(m, .inr (9, [.int th, .int (nI fd), .int pc0, .int dw0, .int lt0, .ref mt, .ref mw, .ref mb, .ref ml, .ref mq, .ref mz, .ref ms, .ref mr, .int ic0, .ref mi, .int (dI tr), .int (nI sg), .int (nI ln), .int (nI p1), .int (nI (p1 - fr)), .int (dI d1), .int (nI (2 * n0)), .ref mk, .int en0, .ref mj, .ref mn])), (mt, .inl (cI, 16384, .inl tp)), (mk, .inl (cI, 256, .inl g1)), (mr, .inl (cI, 512, .inl gR))] 0 0 [(0, .ref m), (1, .int (nI n0))] 5 []
  rcases d1 with _ | _
  · show V (gG D cI cJ cT) X (rmD 3) cX9_tree 3 RX9 [(m, .inr (9, [.int th, .int (nI fd), .int pc0, .int dw0, .int lt0, .ref mt, .ref mw, .ref mb, .ref ml, .ref mq, .ref mz, .ref ms, .ref mr, .int ic0, .ref mi, .int (dI tr), .int (nI sg), .int (nI ln), .int (nI p1), .int (nI (p1 - fr)), .int (dI false), .int (nI (2 * n0)), .ref mk, .int en0, .ref mj, .ref mn])), (mt, .inl (cI, 16384, .inl tp)), (mk, .inl (cI, 256, .inl g1)), (mr, .inl (cI, 512, .inl gR))] 0 0 [(0, .ref m), (1, .int (nI n0))] 5 []
    obtain ⟨-, F, hF, hm⟩ := Rg_f c2 rfl
    refine v_aload_n 0 dX9_tree_5 rfl rfl ?_
    refine v_get f_SampleDeskModel_77 0 rfl rfl dX9_tree_6 ?_
    refine v_if_eq (tgt := 13) dX9_tree_9 (by decide) (fun b9 => ?_) (fun b9 => absurd (rfl) b9)
    refine v_iconst (v := nI 0) dX9_tree_13 (by decide) ?_
    refine v_istore_n (lv' := [(2, .int (nI 0)), (0, .ref m), (1, .int (nI n0))]) dX9_tree_14 rfl (by decide) rfl ?_
    refine v_lv [1, 2, 0] rfl ?_
    exact kX9_tree_copy (ma0 := ma0) (e := e) (b := b) hn0 (sPat_ok hF) (sPat_le1 hF) hm (fun u hu => by obtain ⟨u1, u2, u3, u4⟩ := u; obtain ⟨h9, rfl⟩ := hu; exact Rg_map c2 (fun _ _ _ _ _ => ⟨_, by rw [sTre, hF], h9⟩) (fun _ ho => by rw [sTre, ho])) hE (2 * n0 + 1) 0 gR (by omega) (by omega) (fun x hx => absurd hx (Nat.not_lt_zero x))
  · show V (gG D cI cJ cT) X (rmD 3) cX9_tree 3 RX9 [(m, .inr (9, [.int th, .int (nI fd), .int pc0, .int dw0, .int lt0, .ref mt, .ref mw, .ref mb, .ref ml, .ref mq, .ref mz, .ref ms, .ref mr, .int ic0, .ref mi, .int (dI tr), .int (nI sg), .int (nI ln), .int (nI p1), .int (nI (p1 - fr)), .int (dI true), .int (nI (2 * n0)), .ref mk, .int en0, .ref mj, .ref mn])), (mt, .inl (cI, 16384, .inl tp)), (mk, .inl (cI, 256, .inl g1)), (mr, .inl (cI, 512, .inl gR))] 0 0 [(0, .ref m), (1, .int (nI n0))] 5 []
    refine v_aload_n 0 dX9_tree_5 rfl rfl ?_
    refine v_get f_SampleDeskModel_77 0 rfl rfl dX9_tree_6 ?_
    refine v_if_eq (tgt := 13) dX9_tree_9 (by decide) (fun b9 => absurd b9 (by decide)) (fun b9 => ?_)
    exact v_vret hE dX9_tree_12 (nI (2 * n0), g1, gR, p1, true) (Rg_map c2 (fun _ h _ _ _ => nomatch h) (fun _ ho => by rw [sTre, ho])) rfl rfl
def mB (an : Int64) (ma : Int32) (g : Nat → Int32) : sR → Prop := fun x => an = x.1 ∧ ma = nI x.2.1 ∧ ∀ y, y < x.2.1 → g y = nI (x.2.2 y)
theorem Rg_bF {o : Option ((Nat → Nat) × Nat)} {e p n p1 : Nat} {dr d1 : Bool} {g : Nat → Int32} (hn : n < 2 ^ 31) (h : Rg o e p dr (fun F => ∀ x, x < n → g x = nI (F x)) p1 d1) : Rg (oF o n) e p dr (mB (nI n).toInt64 (nI n) g) p1 d1 :=
  Rg_map h (fun _ _ F ho hm => ⟨_, by rw [ho]; rfl, nI_l hn, rfl, hm⟩) (fun _ ho => by rw [ho]; rfl)
theorem Rg_bT {o : Option ((Nat → Nat) × Nat)} {e p n p1 : Nat} {dr d1 : Bool} {g : Nat → Int32} {ma : Int32} (hn : n < 2 ^ 31) (h : Rg o e p dr (fun F => ma = nI n ∧ ∀ x, x < n → g x = nI (F x)) p1 d1) : Rg (oF o n) e p dr (mB ma.toInt64 ma g) p1 d1 :=
  Rg_map h (fun _ _ F ho hm => ⟨_, by rw [ho]; rfl, by rw [hm.1]; exact nI_l hn, hm.1, hm.2⟩) (fun _ ho => by rw [ho]; rfl)
theorem Rg_bS {o : Option ((Nat × (Nat → Nat)) × Nat)} {e p c p1 : Nat} {dr d1 : Bool} {g : Nat → Int32} (hc : c < 2 ^ 31) (h : Rg o e p dr (fun a => c = a.1 ∧ ∀ x, x < a.1 → g x = nI (a.2 x)) p1 d1) : Rg (oS o) e p dr (mB (nI c).toInt64 (nI c) g) p1 d1 :=
  Rg_map h (fun _ _ F ho hm => ⟨_, by rw [ho]; rfl, by rw [← hm.1]; exact nI_l hc, by rw [← hm.1], hm.2⟩) (fun _ ho => by rw [ho]; rfl)
set_option maxRecDepth 100000 in
set_option maxHeartbeats 1000000 in
theorem kX9_makeItems_9 {D : va_G} {cI cJ cT : ClassId} (l : Launch) {m mt mw mb ml mq mz ms mr mi mk mj mn : Nat} {th pc0 dw0 lt0 ic0 ma0 en0 : Int32} {fd sg ln fr e : Nat} {tr : Bool} {tp : Nat → Int32} {b : Nat → Nat} {p : Nat} {dr : Bool} {x y : Nat} {b1 : Int32} {gK gR : Nat → Int32} {z mm : Nat} {W : Nat → Nat}  (hB : MB tr fd ln sg tp b e) (hfr : fr ≤ p) (hp : p ≤ e) (hdr : dr = true → p = e) (hx : x ≤ 256) : Fn (S := Int32 × (Nat → Int32) × (Nat → Int32) × Nat × Bool) (gG D cI cJ cT) l yX9_makeItems (.code yX9_makeItems cX9_makeItems 4 (some .long)) (rmD 4) [.ref m, .int (nI 9), .int (nI x), .int b1] [(m, .inr (9, [.int th, .int (nI fd), .int pc0, .int dw0, .int lt0, .ref mt, .ref mw, .ref mb, .ref ml, .ref mq, .ref mz, .ref ms, .ref mr, .int ic0, .ref mi, .int (dI tr), .int (nI sg), .int (nI ln), .int (nI p), .int (nI (p - fr)), .int (dI dr), .int ma0, .ref mk, .int en0, .ref mj, .ref mn])), (mt, .inl (cI, 16384, .inl tp)), (mk, .inl (cI, 256, .inl gK)), (mr, .inl (cI, 512, .inl gR))] (fun u => Rg (sAns b e 9 x y z W mm p) e p dr (mB u.1.toInt64 u.1 u.2.1) u.2.2.2.1 u.2.2.2.2) (fun u => some (.long u.1.toInt64)) (fun u => [(m, .inr (9, [.int th, .int (nI fd), .int pc0, .int dw0, .int lt0, .ref mt, .ref mw, .ref mb, .ref ml, .ref mq, .ref mz, .ref ms, .ref mr, .int ic0, .ref mi, .int (dI tr), .int (nI sg), .int (nI ln), .int (nI u.2.2.2.1), .int (nI (u.2.2.2.1 - fr)), .int (dI u.2.2.2.2), .int u.1, .ref mk, .int en0, .ref mj, .ref mn])), (mt, .inl (cI, 16384, .inl tp)), (mk, .inl (cI, 256, .inl u.2.1)), (mr, .inl (cI, 512, .inl u.2.2.1))]) := by
  refine Fn.intro (by decide) (Nat.le_of_ble_eq_true rfl) ?_
  intro X hX hE hin
  subst hX
  show V (gG D cI cJ cT) X _ cX9_makeItems 4 RX9 _ 0 0 [(0, .ref m), (1, .int (nI 9)), (2, .int (nI x)), (3, .int b1)] 0 []
  refine v_iload_n 1 dX9_makeItems_0 rfl rfl ?_
  refine v_bipush (v := nI 9) dX9_makeItems_1 (by decide) ?_
  refine v_icmp_ne (tgt := 11) dX9_makeItems_3 (by decide) (fun b3 => absurd b3 (fun q => q rfl)) (fun b3 => ?_)
  refine v_aload_n 0 dX9_makeItems_6 rfl rfl ?_
  refine v_iload_n 2 dX9_makeItems_7 rfl rfl ?_
  refine v_callV (as := [.int (nI x)]) (rest := []) (ws' := fun u => [(m, .inr (9, [.int th, .int (nI fd), .int pc0, .int dw0, .int lt0, .ref mt, .ref mw, .ref mb, .ref ml, .ref mq, .ref mz, .ref ms, .ref mr, .int ic0, .ref mi, .int (dI tr), .int (nI sg), .int (nI ln), .int (nI u.2.1), .int (nI (u.2.1 - fr)), .int (dI u.2.2), .int (nI x), .ref mk, .int en0, .ref mj, .ref mn])), (mt, .inl (cI, 16384, .inl tp)), (mk, .inl (cI, 256, .inl u.1)), (mr, .inl (cI, 512, .inl gR))]) m_SampleDeskModel_134 (kX9_shuffle X.l (m := m) (mt := mt) (mw := mw) (mb := mb) (ml := ml) (mq := mq) (mz := mz) (ms := ms) (mr := mr) (mi := mi) (mk := mk) (mj := mj) (mn := mn) (th := th) (pc0 := pc0) (dw0 := dw0) (lt0 := lt0) (ic0 := ic0) (en0 := en0) (fd := fd) (sg := sg) (ln := ln) (fr := fr) (e := e) (tr := tr) (tp := tp) (b := b) (ma0 := ma0) (p := p) (dr := dr) (n0 := x) (gK := gK) hB (by omega) (by omega) hdr hx) k_code_X9_shuffle [0, 1, 2] 0 rfl rfl rfl rfl dX9_makeItems_8 (Nat.le_of_ble_eq_true rfl) ⟨rfl, rfl, by decide, by decide⟩ ⟨Nat.zero_le _, Nat.zero_le _⟩ rfl rfl (fun _ => rfl) (v_mgU rfl (fun _ => rfl)) ?_
  intro u8 c8
  obtain ⟨g1, p1, d1⟩ := u8
  try dsimp only at c8
  show V (gG D cI cJ cT) X (rmD 4) cX9_makeItems 4 RX9 [(m, .inr (9, [.int th, .int (nI fd), .int pc0, .int dw0, .int lt0, .ref mt, .ref mw, .ref mb, .ref ml, .ref mq, .ref mz, .ref ms, .ref mr, .int ic0, .ref mi, .int (dI tr), .int (nI sg), .int (nI ln), .int (nI p1), .int (nI (p1 - fr)), .int (dI d1), .int (nI x), .ref mk, .int en0, .ref mj, .ref mn])), (mt, .inl (cI, 16384, .inl tp)), (mk, .inl (cI, 256, .inl g1)), (mr, .inl (cI, 512, .inl gR))] 0 0 [(0, .ref m), (1, .int (nI 9)), (2, .int (nI x)), (3, .int b1)] 11 []
  refine v_iload_n 1 dX9_makeItems_11 rfl rfl ?_
  refine v_bipush (v := nI 10) dX9_makeItems_12 (by decide) ?_
  refine v_icmp_ne (tgt := 23) dX9_makeItems_14 (by decide) (fun b14 => ?_) (fun b14 => absurd b14 (by decide))
  refine v_iload_n 1 dX9_makeItems_23 rfl rfl ?_
  refine v_bipush (v := nI 11) dX9_makeItems_24 (by decide) ?_
  refine v_icmp_ne (tgt := 34) dX9_makeItems_26 (by decide) (fun b26 => ?_) (fun b26 => absurd b26 (by decide))
  refine v_iload_n 1 dX9_makeItems_34 rfl rfl ?_
  refine v_bipush (v := nI 12) dX9_makeItems_35 (by decide) ?_
  refine v_icmp_ne (tgt := 45) dX9_makeItems_37 (by decide) (fun b37 => ?_) (fun b37 => absurd b37 (by decide))
  refine v_iload_n 1 dX9_makeItems_45 rfl rfl ?_
  refine v_bipush (v := nI 13) dX9_makeItems_46 (by decide) ?_
  refine v_icmp_ne (tgt := 57) dX9_makeItems_48 (by decide) (fun b48 => ?_) (fun b48 => absurd b48 (by decide))
  refine v_aload_n 0 dX9_makeItems_57 rfl rfl ?_
  refine v_get f_SampleDeskModel_123 0 rfl rfl dX9_makeItems_58 ?_
  refine v_i2l (v := (nI x).toInt64) dX9_makeItems_61 (rfl) ?_
  exact v_lret hE dX9_makeItems_62 (nI x, g1, gR, p1, d1) (Rg_bF (by omega) c8) rfl rfl
set_option maxRecDepth 100000 in
set_option maxHeartbeats 1000000 in
theorem kX9_makeItems_10 {D : va_G} {cI cJ cT : ClassId} (l : Launch) {m mt mw mb ml mq mz ms mr mi mk mj mn : Nat} {th pc0 dw0 lt0 ic0 ma0 en0 : Int32} {fd sg ln fr e : Nat} {tr : Bool} {tp : Nat → Int32} {b : Nat → Nat} {p : Nat} {dr : Bool} {x y : Nat} {gK gR : Nat → Int32} {z mm : Nat} {W : Nat → Nat}  (hB : MB tr fd ln sg tp b e) (hfr : fr ≤ p) (hp : p ≤ e) (hdr : dr = true → p = e) (hx : x ≤ 256) (hy : y ≤ x) : Fn (S := Int32 × (Nat → Int32) × (Nat → Int32) × Nat × Bool) (gG D cI cJ cT) l yX9_makeItems (.code yX9_makeItems cX9_makeItems 4 (some .long)) (rmD 4) [.ref m, .int (nI 10), .int (nI x), .int (nI y)] [(m, .inr (9, [.int th, .int (nI fd), .int pc0, .int dw0, .int lt0, .ref mt, .ref mw, .ref mb, .ref ml, .ref mq, .ref mz, .ref ms, .ref mr, .int ic0, .ref mi, .int (dI tr), .int (nI sg), .int (nI ln), .int (nI p), .int (nI (p - fr)), .int (dI dr), .int ma0, .ref mk, .int en0, .ref mj, .ref mn])), (mt, .inl (cI, 16384, .inl tp)), (mk, .inl (cI, 256, .inl gK)), (mr, .inl (cI, 512, .inl gR))] (fun u => Rg (sAns b e 10 x y z W mm p) e p dr (mB u.1.toInt64 u.1 u.2.1) u.2.2.2.1 u.2.2.2.2) (fun u => some (.long u.1.toInt64)) (fun u => [(m, .inr (9, [.int th, .int (nI fd), .int pc0, .int dw0, .int lt0, .ref mt, .ref mw, .ref mb, .ref ml, .ref mq, .ref mz, .ref ms, .ref mr, .int ic0, .ref mi, .int (dI tr), .int (nI sg), .int (nI ln), .int (nI u.2.2.2.1), .int (nI (u.2.2.2.1 - fr)), .int (dI u.2.2.2.2), .int u.1, .ref mk, .int en0, .ref mj, .ref mn])), (mt, .inl (cI, 16384, .inl tp)), (mk, .inl (cI, 256, .inl u.2.1)), (mr, .inl (cI, 512, .inl u.2.2.1))]) := by
  refine Fn.intro (by decide) (Nat.le_of_ble_eq_true rfl) ?_
  intro X hX hE hin
  subst hX
  show V (gG D cI cJ cT) X _ cX9_makeItems 4 RX9 _ 0 0 [(0, .ref m), (1, .int (nI 10)), (2, .int (nI x)), (3, .int (nI y))] 0 []
  refine v_iload_n 1 dX9_makeItems_0 rfl rfl ?_
  refine v_bipush (v := nI 9) dX9_makeItems_1 (by decide) ?_
  refine v_icmp_ne (tgt := 11) dX9_makeItems_3 (by decide) (fun b3 => ?_) (fun b3 => absurd b3 (by decide))
  refine v_iload_n 1 dX9_makeItems_11 rfl rfl ?_
  refine v_bipush (v := nI 10) dX9_makeItems_12 (by decide) ?_
  refine v_icmp_ne (tgt := 23) dX9_makeItems_14 (by decide) (fun b14 => absurd b14 (fun q => q rfl)) (fun b14 => ?_)
  refine v_aload_n 0 dX9_makeItems_17 rfl rfl ?_
  refine v_iload_n 2 dX9_makeItems_18 rfl rfl ?_
  refine v_iload_n 3 dX9_makeItems_19 rfl rfl ?_
  refine v_callV (as := [.int (nI x), .int (nI y)]) (rest := []) (ws' := fun u => [(m, .inr (9, [.int th, .int (nI fd), .int pc0, .int dw0, .int lt0, .ref mt, .ref mw, .ref mb, .ref ml, .ref mq, .ref mz, .ref ms, .ref mr, .int ic0, .ref mi, .int (dI tr), .int (nI sg), .int (nI ln), .int (nI u.2.2.1), .int (nI (u.2.2.1 - fr)), .int (dI u.2.2.2), .int (nI u.1), .ref mk, .int en0, .ref mj, .ref mn])), (mt, .inl (cI, 16384, .inl tp)), (mk, .inl (cI, 256, .inl u.2.1)), (mr, .inl (cI, 512, .inl gR))]) m_SampleDeskModel_137 (kX9_subset X.l (m := m) (mt := mt) (mw := mw) (mb := mb) (ml := ml) (mq := mq) (mz := mz) (ms := ms) (mr := mr) (mi := mi) (mk := mk) (mj := mj) (mn := mn) (th := th) (pc0 := pc0) (dw0 := dw0) (lt0 := lt0) (ic0 := ic0) (en0 := en0) (fd := fd) (sg := sg) (ln := ln) (fr := fr) (e := e) (tr := tr) (tp := tp) (b := b) (ma0 := ma0) (p := p) (dr := dr) (nn := x) (kk := y) (gK := gK) hB (by omega) (by omega) hdr hx hy) k_code_X9_subset [0, 1, 2] 0 rfl rfl rfl rfl dX9_makeItems_20 (Nat.le_of_ble_eq_true rfl) ⟨rfl, rfl, by decide, by decide⟩ ⟨Nat.zero_le _, Nat.zero_le _⟩ rfl rfl (fun _ => rfl) (v_mgU rfl (fun _ => rfl)) ?_
  intro u20 c20
  obtain ⟨c1, g1, p1, d1⟩ := u20
  try dsimp only at c20
  show V (gG D cI cJ cT) X (rmD 4) cX9_makeItems 4 RX9 [(m, .inr (9, [.int th, .int (nI fd), .int pc0, .int dw0, .int lt0, .ref mt, .ref mw, .ref mb, .ref ml, .ref mq, .ref mz, .ref ms, .ref mr, .int ic0, .ref mi, .int (dI tr), .int (nI sg), .int (nI ln), .int (nI p1), .int (nI (p1 - fr)), .int (dI d1), .int (nI c1), .ref mk, .int en0, .ref mj, .ref mn])), (mt, .inl (cI, 16384, .inl tp)), (mk, .inl (cI, 256, .inl g1)), (mr, .inl (cI, 512, .inl gR))] 0 0 [(0, .ref m), (1, .int (nI 10)), (2, .int (nI x)), (3, .int (nI y))] 23 []
  refine v_iload_n 1 dX9_makeItems_23 rfl rfl ?_
  refine v_bipush (v := nI 11) dX9_makeItems_24 (by decide) ?_
  refine v_icmp_ne (tgt := 34) dX9_makeItems_26 (by decide) (fun b26 => ?_) (fun b26 => absurd b26 (by decide))
  refine v_iload_n 1 dX9_makeItems_34 rfl rfl ?_
  refine v_bipush (v := nI 12) dX9_makeItems_35 (by decide) ?_
  refine v_icmp_ne (tgt := 45) dX9_makeItems_37 (by decide) (fun b37 => ?_) (fun b37 => absurd b37 (by decide))
  refine v_iload_n 1 dX9_makeItems_45 rfl rfl ?_
  refine v_bipush (v := nI 13) dX9_makeItems_46 (by decide) ?_
  refine v_icmp_ne (tgt := 57) dX9_makeItems_48 (by decide) (fun b48 => ?_) (fun b48 => absurd b48 (by decide))
  refine v_aload_n 0 dX9_makeItems_57 rfl rfl ?_
  refine v_get f_SampleDeskModel_123 0 rfl rfl dX9_makeItems_58 ?_
  refine v_i2l (v := (nI c1).toInt64) dX9_makeItems_61 (rfl) ?_
  exact v_lret hE dX9_makeItems_62 (nI c1, g1, gR, p1, d1) (Rg_bS (by have h9 : c1 ≤ 256 := c20.2; omega) c20.1) rfl rfl
set_option maxRecDepth 100000 in
set_option maxHeartbeats 1000000 in
theorem kX9_makeItems_11 {D : va_G} {cI cJ cT : ClassId} (l : Launch) {m mt mw mb ml mq mz ms mr mi mk mj mn : Nat} {th pc0 dw0 lt0 ic0 ma0 en0 : Int32} {fd sg ln fr e : Nat} {tr : Bool} {tp : Nat → Int32} {b : Nat → Nat} {p : Nat} {dr : Bool} {x y : Nat} {b1 : Int32} {gK gR : Nat → Int32} {z mm : Nat} {W : Nat → Nat}  (hB : MB tr fd ln sg tp b e) (hfr : fr ≤ p) (hp : p ≤ e) (hdr : dr = true → p = e) (hx : x ≤ 128) : Fn (S := Int32 × (Nat → Int32) × (Nat → Int32) × Nat × Bool) (gG D cI cJ cT) l yX9_makeItems (.code yX9_makeItems cX9_makeItems 4 (some .long)) (rmD 4) [.ref m, .int (nI 11), .int (nI x), .int b1] [(m, .inr (9, [.int th, .int (nI fd), .int pc0, .int dw0, .int lt0, .ref mt, .ref mw, .ref mb, .ref ml, .ref mq, .ref mz, .ref ms, .ref mr, .int ic0, .ref mi, .int (dI tr), .int (nI sg), .int (nI ln), .int (nI p), .int (nI (p - fr)), .int (dI dr), .int ma0, .ref mk, .int en0, .ref mj, .ref mn])), (mt, .inl (cI, 16384, .inl tp)), (mk, .inl (cI, 256, .inl gK)), (mr, .inl (cI, 512, .inl gR))] (fun u => Rg (sAns b e 11 x y z W mm p) e p dr (mB u.1.toInt64 u.1 u.2.1) u.2.2.2.1 u.2.2.2.2) (fun u => some (.long u.1.toInt64)) (fun u => [(m, .inr (9, [.int th, .int (nI fd), .int pc0, .int dw0, .int lt0, .ref mt, .ref mw, .ref mb, .ref ml, .ref mq, .ref mz, .ref ms, .ref mr, .int ic0, .ref mi, .int (dI tr), .int (nI sg), .int (nI ln), .int (nI u.2.2.2.1), .int (nI (u.2.2.2.1 - fr)), .int (dI u.2.2.2.2), .int u.1, .ref mk, .int en0, .ref mj, .ref mn])), (mt, .inl (cI, 16384, .inl tp)), (mk, .inl (cI, 256, .inl u.2.1)), (mr, .inl (cI, 512, .inl u.2.2.1))]) := by
  refine Fn.intro (by decide) (Nat.le_of_ble_eq_true rfl) ?_
  intro X hX hE hin
  subst hX
  show V (gG D cI cJ cT) X _ cX9_makeItems 4 RX9 _ 0 0 [(0, .ref m), (1, .int (nI 11)), (2, .int (nI x)), (3, .int b1)] 0 []
  refine v_iload_n 1 dX9_makeItems_0 rfl rfl ?_
  refine v_bipush (v := nI 9) dX9_makeItems_1 (by decide) ?_
  refine v_icmp_ne (tgt := 11) dX9_makeItems_3 (by decide) (fun b3 => ?_) (fun b3 => absurd b3 (by decide))
  refine v_iload_n 1 dX9_makeItems_11 rfl rfl ?_
  refine v_bipush (v := nI 10) dX9_makeItems_12 (by decide) ?_
  refine v_icmp_ne (tgt := 23) dX9_makeItems_14 (by decide) (fun b14 => ?_) (fun b14 => absurd b14 (by decide))
  refine v_iload_n 1 dX9_makeItems_23 rfl rfl ?_
  refine v_bipush (v := nI 11) dX9_makeItems_24 (by decide) ?_
  refine v_icmp_ne (tgt := 34) dX9_makeItems_26 (by decide) (fun b26 => absurd b26 (fun q => q rfl)) (fun b26 => ?_)
  refine v_aload_n 0 dX9_makeItems_29 rfl rfl ?_
  refine v_iload_n 2 dX9_makeItems_30 rfl rfl ?_
  refine v_callV (as := [.int (nI x)]) (rest := []) (ws' := fun u => [(m, .inr (9, [.int th, .int (nI fd), .int pc0, .int dw0, .int lt0, .ref mt, .ref mw, .ref mb, .ref ml, .ref mq, .ref mz, .ref ms, .ref mr, .int ic0, .ref mi, .int (dI tr), .int (nI sg), .int (nI ln), .int (nI u.2.1), .int (nI (u.2.1 - fr)), .int (dI u.2.2), .int (nI (2 * x)), .ref mk, .int en0, .ref mj, .ref mn])), (mt, .inl (cI, 16384, .inl tp)), (mk, .inl (cI, 256, .inl u.1)), (mr, .inl (cI, 512, .inl gR))]) m_SampleDeskModel_128 (kX9_path X.l (m := m) (mt := mt) (mw := mw) (mb := mb) (ml := ml) (mq := mq) (mz := mz) (ms := ms) (mr := mr) (mi := mi) (mk := mk) (mj := mj) (mn := mn) (th := th) (pc0 := pc0) (dw0 := dw0) (lt0 := lt0) (ic0 := ic0) (en0 := en0) (fd := fd) (sg := sg) (ln := ln) (fr := fr) (e := e) (tr := tr) (tp := tp) (b := b) (ma0 := ma0) (p := p) (dr := dr) (n0 := x) (gK := gK) hB (by omega) (by omega) hdr hx) k_code_X9_path [0, 1, 2] 0 rfl rfl rfl rfl dX9_makeItems_31 (Nat.le_of_ble_eq_true rfl) ⟨rfl, rfl, by decide, by decide⟩ ⟨Nat.zero_le _, Nat.zero_le _⟩ rfl rfl (fun _ => rfl) (v_mgU rfl (fun _ => rfl)) ?_
  intro u31 c31
  obtain ⟨g1, p1, d1⟩ := u31
  try dsimp only at c31
  show V (gG D cI cJ cT) X (rmD 4) cX9_makeItems 4 RX9 [(m, .inr (9, [.int th, .int (nI fd), .int pc0, .int dw0, .int lt0, .ref mt, .ref mw, .ref mb, .ref ml, .ref mq, .ref mz, .ref ms, .ref mr, .int ic0, .ref mi, .int (dI tr), .int (nI sg), .int (nI ln), .int (nI p1), .int (nI (p1 - fr)), .int (dI d1), .int (nI (2 * x)), .ref mk, .int en0, .ref mj, .ref mn])), (mt, .inl (cI, 16384, .inl tp)), (mk, .inl (cI, 256, .inl g1)), (mr, .inl (cI, 512, .inl gR))] 0 0 [(0, .ref m), (1, .int (nI 11)), (2, .int (nI x)), (3, .int b1)] 34 []
  refine v_iload_n 1 dX9_makeItems_34 rfl rfl ?_
  refine v_bipush (v := nI 12) dX9_makeItems_35 (by decide) ?_
  refine v_icmp_ne (tgt := 45) dX9_makeItems_37 (by decide) (fun b37 => ?_) (fun b37 => absurd b37 (by decide))
  refine v_iload_n 1 dX9_makeItems_45 rfl rfl ?_
  refine v_bipush (v := nI 13) dX9_makeItems_46 (by decide) ?_
  refine v_icmp_ne (tgt := 57) dX9_makeItems_48 (by decide) (fun b48 => ?_) (fun b48 => absurd b48 (by decide))
  refine v_aload_n 0 dX9_makeItems_57 rfl rfl ?_
  refine v_get f_SampleDeskModel_123 0 rfl rfl dX9_makeItems_58 ?_
  refine v_i2l (v := (nI (2 * x)).toInt64) dX9_makeItems_61 (rfl) ?_
  exact v_lret hE dX9_makeItems_62 (nI (2 * x), g1, gR, p1, d1) (Rg_bF (by omega) c31) rfl rfl
set_option maxRecDepth 100000 in
set_option maxHeartbeats 1000000 in
theorem kX9_makeItems_12 {D : va_G} {cI cJ cT : ClassId} (l : Launch) {m mt mw mb ml mq mz ms mr mi mk mj mn : Nat} {th pc0 dw0 lt0 ic0 ma0 en0 : Int32} {fd sg ln fr e : Nat} {tr : Bool} {tp : Nat → Int32} {b : Nat → Nat} {p : Nat} {dr : Bool} {x y : Nat} {b1 : Int32} {gK gR : Nat → Int32} {z mm : Nat} {W : Nat → Nat}  (hB : MB tr fd ln sg tp b e) (hfr : fr ≤ p) (hp : p ≤ e) (hdr : dr = true → p = e) (hx : x ≤ 128) : Fn (S := Int32 × (Nat → Int32) × (Nat → Int32) × Nat × Bool) (gG D cI cJ cT) l yX9_makeItems (.code yX9_makeItems cX9_makeItems 4 (some .long)) (rmD 4) [.ref m, .int (nI 12), .int (nI x), .int b1] [(m, .inr (9, [.int th, .int (nI fd), .int pc0, .int dw0, .int lt0, .ref mt, .ref mw, .ref mb, .ref ml, .ref mq, .ref mz, .ref ms, .ref mr, .int ic0, .ref mi, .int (dI tr), .int (nI sg), .int (nI ln), .int (nI p), .int (nI (p - fr)), .int (dI dr), .int ma0, .ref mk, .int en0, .ref mj, .ref mn])), (mt, .inl (cI, 16384, .inl tp)), (mk, .inl (cI, 256, .inl gK)), (mr, .inl (cI, 512, .inl gR))] (fun u => Rg (sAns b e 12 x y z W mm p) e p dr (mB u.1.toInt64 u.1 u.2.1) u.2.2.2.1 u.2.2.2.2) (fun u => some (.long u.1.toInt64)) (fun u => [(m, .inr (9, [.int th, .int (nI fd), .int pc0, .int dw0, .int lt0, .ref mt, .ref mw, .ref mb, .ref ml, .ref mq, .ref mz, .ref ms, .ref mr, .int ic0, .ref mi, .int (dI tr), .int (nI sg), .int (nI ln), .int (nI u.2.2.2.1), .int (nI (u.2.2.2.1 - fr)), .int (dI u.2.2.2.2), .int u.1, .ref mk, .int en0, .ref mj, .ref mn])), (mt, .inl (cI, 16384, .inl tp)), (mk, .inl (cI, 256, .inl u.2.1)), (mr, .inl (cI, 512, .inl u.2.2.1))]) := by
  refine Fn.intro (by decide) (Nat.le_of_ble_eq_true rfl) ?_
  intro X hX hE hin
  subst hX
  show V (gG D cI cJ cT) X _ cX9_makeItems 4 RX9 _ 0 0 [(0, .ref m), (1, .int (nI 12)), (2, .int (nI x)), (3, .int b1)] 0 []
  refine v_iload_n 1 dX9_makeItems_0 rfl rfl ?_
  refine v_bipush (v := nI 9) dX9_makeItems_1 (by decide) ?_
  refine v_icmp_ne (tgt := 11) dX9_makeItems_3 (by decide) (fun b3 => ?_) (fun b3 => absurd b3 (by decide))
  refine v_iload_n 1 dX9_makeItems_11 rfl rfl ?_
  refine v_bipush (v := nI 10) dX9_makeItems_12 (by decide) ?_
  refine v_icmp_ne (tgt := 23) dX9_makeItems_14 (by decide) (fun b14 => ?_) (fun b14 => absurd b14 (by decide))
  refine v_iload_n 1 dX9_makeItems_23 rfl rfl ?_
  refine v_bipush (v := nI 11) dX9_makeItems_24 (by decide) ?_
  refine v_icmp_ne (tgt := 34) dX9_makeItems_26 (by decide) (fun b26 => ?_) (fun b26 => absurd b26 (by decide))
  refine v_iload_n 1 dX9_makeItems_34 rfl rfl ?_
  refine v_bipush (v := nI 12) dX9_makeItems_35 (by decide) ?_
  refine v_icmp_ne (tgt := 45) dX9_makeItems_37 (by decide) (fun b37 => absurd b37 (fun q => q rfl)) (fun b37 => ?_)
  refine v_aload_n 0 dX9_makeItems_40 rfl rfl ?_
  refine v_iload_n 2 dX9_makeItems_41 rfl rfl ?_
  refine v_callV (as := [.int (nI x)]) (rest := []) (ws' := fun u => [(m, .inr (9, [.int th, .int (nI fd), .int pc0, .int dw0, .int lt0, .ref mt, .ref mw, .ref mb, .ref ml, .ref mq, .ref mz, .ref ms, .ref mr, .int ic0, .ref mi, .int (dI tr), .int (nI sg), .int (nI ln), .int (nI u.2.2.2.1), .int (nI (u.2.2.2.1 - fr)), .int (dI u.2.2.2.2), .int u.1, .ref mk, .int en0, .ref mj, .ref mn])), (mt, .inl (cI, 16384, .inl tp)), (mk, .inl (cI, 256, .inl u.2.1)), (mr, .inl (cI, 512, .inl u.2.2.1))]) m_SampleDeskModel_141 (kX9_tree X.l (m := m) (mt := mt) (mw := mw) (mb := mb) (ml := ml) (mq := mq) (mz := mz) (ms := ms) (mr := mr) (mi := mi) (mk := mk) (mj := mj) (mn := mn) (th := th) (pc0 := pc0) (dw0 := dw0) (lt0 := lt0) (ic0 := ic0) (en0 := en0) (fd := fd) (sg := sg) (ln := ln) (fr := fr) (e := e) (tr := tr) (tp := tp) (b := b) (ma0 := ma0) (p := p) (dr := dr) (n0 := x) (gK := gK) (gR := gR) hB (by omega) (by omega) hdr hx) k_code_X9_tree [0, 1, 2, 3] 0 rfl rfl rfl rfl dX9_makeItems_42 (Nat.le_of_ble_eq_true rfl) ⟨rfl, rfl, by decide, by decide⟩ ⟨Nat.zero_le _, Nat.zero_le _⟩ rfl rfl (fun _ => rfl) (v_mgU rfl (fun _ => rfl)) ?_
  intro u42 c42
  obtain ⟨m1, g1, g2, p1, d1⟩ := u42
  try dsimp only at c42
  show V (gG D cI cJ cT) X (rmD 4) cX9_makeItems 4 RX9 [(m, .inr (9, [.int th, .int (nI fd), .int pc0, .int dw0, .int lt0, .ref mt, .ref mw, .ref mb, .ref ml, .ref mq, .ref mz, .ref ms, .ref mr, .int ic0, .ref mi, .int (dI tr), .int (nI sg), .int (nI ln), .int (nI p1), .int (nI (p1 - fr)), .int (dI d1), .int m1, .ref mk, .int en0, .ref mj, .ref mn])), (mt, .inl (cI, 16384, .inl tp)), (mk, .inl (cI, 256, .inl g1)), (mr, .inl (cI, 512, .inl g2))] 0 0 [(0, .ref m), (1, .int (nI 12)), (2, .int (nI x)), (3, .int b1)] 45 []
  refine v_iload_n 1 dX9_makeItems_45 rfl rfl ?_
  refine v_bipush (v := nI 13) dX9_makeItems_46 (by decide) ?_
  refine v_icmp_ne (tgt := 57) dX9_makeItems_48 (by decide) (fun b48 => ?_) (fun b48 => absurd b48 (by decide))
  refine v_aload_n 0 dX9_makeItems_57 rfl rfl ?_
  refine v_get f_SampleDeskModel_123 0 rfl rfl dX9_makeItems_58 ?_
  refine v_i2l (v := (m1).toInt64) dX9_makeItems_61 (rfl) ?_
  exact v_lret hE dX9_makeItems_62 (m1, g1, g2, p1, d1) (Rg_bT (by omega) c42) rfl rfl
set_option maxRecDepth 100000 in
set_option maxHeartbeats 1000000 in
theorem kX9_makeItems_13 {D : va_G} {cI cJ cT : ClassId} (l : Launch) {m mt mw mb ml mq mz ms mr mi mk mj mn : Nat} {th pc0 dw0 lt0 ic0 ma0 en0 : Int32} {fd sg ln fr e : Nat} {tr : Bool} {tp : Nat → Int32} {b : Nat → Nat} {p : Nat} {dr : Bool} {x y : Nat} {gK gR : Nat → Int32} {z mm : Nat} {W : Nat → Nat}  (hB : MB tr fd ln sg tp b e) (hfr : fr ≤ p) (hp : p ≤ e) (hdr : dr = true → p = e) (hx : x ≤ 256) (hy0 : 0 < y) (hy : y < 2 ^ 31) : Fn (S := Int32 × (Nat → Int32) × (Nat → Int32) × Nat × Bool) (gG D cI cJ cT) l yX9_makeItems (.code yX9_makeItems cX9_makeItems 4 (some .long)) (rmD 4) [.ref m, .int (nI 13), .int (nI x), .int (nI y)] [(m, .inr (9, [.int th, .int (nI fd), .int pc0, .int dw0, .int lt0, .ref mt, .ref mw, .ref mb, .ref ml, .ref mq, .ref mz, .ref ms, .ref mr, .int ic0, .ref mi, .int (dI tr), .int (nI sg), .int (nI ln), .int (nI p), .int (nI (p - fr)), .int (dI dr), .int ma0, .ref mk, .int en0, .ref mj, .ref mn])), (mt, .inl (cI, 16384, .inl tp)), (mk, .inl (cI, 256, .inl gK)), (mr, .inl (cI, 512, .inl gR))] (fun u => Rg (sAns b e 13 x y z W mm p) e p dr (mB u.1.toInt64 u.1 u.2.1) u.2.2.2.1 u.2.2.2.2) (fun u => some (.long u.1.toInt64)) (fun u => [(m, .inr (9, [.int th, .int (nI fd), .int pc0, .int dw0, .int lt0, .ref mt, .ref mw, .ref mb, .ref ml, .ref mq, .ref mz, .ref ms, .ref mr, .int ic0, .ref mi, .int (dI tr), .int (nI sg), .int (nI ln), .int (nI u.2.2.2.1), .int (nI (u.2.2.2.1 - fr)), .int (dI u.2.2.2.2), .int u.1, .ref mk, .int en0, .ref mj, .ref mn])), (mt, .inl (cI, 16384, .inl tp)), (mk, .inl (cI, 256, .inl u.2.1)), (mr, .inl (cI, 512, .inl u.2.2.1))]) := by
  refine Fn.intro (by decide) (Nat.le_of_ble_eq_true rfl) ?_
  intro X hX hE hin
  subst hX
  show V (gG D cI cJ cT) X _ cX9_makeItems 4 RX9 _ 0 0 [(0, .ref m), (1, .int (nI 13)), (2, .int (nI x)), (3, .int (nI y))] 0 []
  refine v_iload_n 1 dX9_makeItems_0 rfl rfl ?_
  refine v_bipush (v := nI 9) dX9_makeItems_1 (by decide) ?_
  refine v_icmp_ne (tgt := 11) dX9_makeItems_3 (by decide) (fun b3 => ?_) (fun b3 => absurd b3 (by decide))
  refine v_iload_n 1 dX9_makeItems_11 rfl rfl ?_
  refine v_bipush (v := nI 10) dX9_makeItems_12 (by decide) ?_
  refine v_icmp_ne (tgt := 23) dX9_makeItems_14 (by decide) (fun b14 => ?_) (fun b14 => absurd b14 (by decide))
  refine v_iload_n 1 dX9_makeItems_23 rfl rfl ?_
  refine v_bipush (v := nI 11) dX9_makeItems_24 (by decide) ?_
  refine v_icmp_ne (tgt := 34) dX9_makeItems_26 (by decide) (fun b26 => ?_) (fun b26 => absurd b26 (by decide))
  refine v_iload_n 1 dX9_makeItems_34 rfl rfl ?_
  refine v_bipush (v := nI 12) dX9_makeItems_35 (by decide) ?_
  refine v_icmp_ne (tgt := 45) dX9_makeItems_37 (by decide) (fun b37 => ?_) (fun b37 => absurd b37 (by decide))
  refine v_iload_n 1 dX9_makeItems_45 rfl rfl ?_
  refine v_bipush (v := nI 13) dX9_makeItems_46 (by decide) ?_
  refine v_icmp_ne (tgt := 57) dX9_makeItems_48 (by decide) (fun b48 => absurd b48 (fun q => q rfl)) (fun b48 => ?_)
  refine v_aload_n 0 dX9_makeItems_51 rfl rfl ?_
  refine v_iload_n 2 dX9_makeItems_52 rfl rfl ?_
  refine v_iload_n 3 dX9_makeItems_53 rfl rfl ?_
  refine v_callV (as := [.int (nI x), .int (nI y)]) (rest := []) (ws' := fun u => [(m, .inr (9, [.int th, .int (nI fd), .int pc0, .int dw0, .int lt0, .ref mt, .ref mw, .ref mb, .ref ml, .ref mq, .ref mz, .ref ms, .ref mr, .int ic0, .ref mi, .int (dI tr), .int (nI sg), .int (nI ln), .int (nI u.2.1), .int (nI (u.2.1 - fr)), .int (dI u.2.2), .int (nI x), .ref mk, .int en0, .ref mj, .ref mn])), (mt, .inl (cI, 16384, .inl tp)), (mk, .inl (cI, 256, .inl u.1)), (mr, .inl (cI, 512, .inl gR))]) m_SampleDeskModel_144 (kX9_stratum X.l (m := m) (mt := mt) (mw := mw) (mb := mb) (ml := ml) (mq := mq) (mz := mz) (ms := ms) (mr := mr) (mi := mi) (mk := mk) (mj := mj) (mn := mn) (th := th) (pc0 := pc0) (dw0 := dw0) (lt0 := lt0) (ic0 := ic0) (en0 := en0) (fd := fd) (sg := sg) (ln := ln) (fr := fr) (e := e) (tr := tr) (tp := tp) (b := b) (ma0 := ma0) (p := p) (dr := dr) (n0 := x) (arms := y) (gK := gK) hB (by omega) (by omega) hdr hx hy0 hy) k_code_X9_stratum [0, 1, 2] 0 rfl rfl rfl rfl dX9_makeItems_54 (Nat.le_of_ble_eq_true rfl) ⟨rfl, rfl, by decide, by decide⟩ ⟨Nat.zero_le _, Nat.zero_le _⟩ rfl rfl (fun _ => rfl) (v_mgU rfl (fun _ => rfl)) ?_
  intro u54 c54
  obtain ⟨g1, p1, d1⟩ := u54
  try dsimp only at c54
  show V (gG D cI cJ cT) X (rmD 4) cX9_makeItems 4 RX9 [(m, .inr (9, [.int th, .int (nI fd), .int pc0, .int dw0, .int lt0, .ref mt, .ref mw, .ref mb, .ref ml, .ref mq, .ref mz, .ref ms, .ref mr, .int ic0, .ref mi, .int (dI tr), .int (nI sg), .int (nI ln), .int (nI p1), .int (nI (p1 - fr)), .int (dI d1), .int (nI x), .ref mk, .int en0, .ref mj, .ref mn])), (mt, .inl (cI, 16384, .inl tp)), (mk, .inl (cI, 256, .inl g1)), (mr, .inl (cI, 512, .inl gR))] 0 0 [(0, .ref m), (1, .int (nI 13)), (2, .int (nI x)), (3, .int (nI y))] 57 []
  refine v_aload_n 0 dX9_makeItems_57 rfl rfl ?_
  refine v_get f_SampleDeskModel_123 0 rfl rfl dX9_makeItems_58 ?_
  refine v_i2l (v := (nI x).toInt64) dX9_makeItems_61 (rfl) ?_
  exact v_lret hE dX9_makeItems_62 (nI x, g1, gR, p1, d1) (Rg_bF (by omega) c54) rfl rfl
