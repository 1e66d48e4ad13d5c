set_option maxRecDepth 100000 in
set_option maxHeartbeats 4000000 in
theorem kX1_bell_loop {D : va_G} {cI cJ cT : ClassId} {X : vX} {q d w n : Nat} {f : Nat → Int32} {fr e : Nat} {num den t : Nat} (he : e ≤ 32 * n) (hn : n ≤ 512) (hnum : num ≤ 1000) (hnum1 : 1 ≤ num) (hden : den ≤ 10) (hden1 : 1 ≤ den) (ht : t ≤ 32) (ht1 : 1 ≤ t) {W0 : va_W} {post : Nat × Nat × Bool → Prop} (hE : vE (gG D cI cJ cT) X (some .long) W0 post (fun u => some (.long (blI u.1))) (fun u => [(q, .inr (1, [.ref d])), (d, .inr (0, [.ref w, .int (nI fr), .int (nI u.2.1), .int (nI e), .int (dI u.2.2)])), (w, .inl (cI, n, .inl f))])) :
    ∀ (k : Nat) (p : Nat) (j : Nat) (dr : Bool), e - p + (if dr = true then 0 else 1) < k → p ≤ e → (dr = true → p = e) → j + k ≤ 100000 → (∀ u, Rl (sBelL (bitW f) e num den t k p) e p dr u → post u) → V (gG D cI cJ cT) X (rmD 4) cX1_bell 15 RX1 [(q, .inr (1, [.ref d])), (d, .inr (0, [.ref w, .int (nI fr), .int (nI p), .int (nI e), .int (dI dr)])), (w, .inl (cI, n, .inl f))] 0 0 [(0, .ref q), (1, .long (lN num)), (3, .long (lN den)), (5, .long (lN t)), (7, .int (nI j))] 36 [] := by
  intro k
  induction k with
  | zero => intro p j dr hk hp hdr hj hq; omega
  | succ k ih =>
    intro p j dr hk hp hdr hj hq
    refine v_iload 4 dX1_bell_36 rfl ?_
    refine v_ldc (v := nI 1000000) k_c_Laws_30 dX1_bell_38 ?_
    refine v_icmp_ge (tgt := 187) dX1_bell_40 (by decide) (fun b40 => absurd b40 (fun q => absurd ((nI_leI (by decide) (by omega)).mp q) (by omega))) (fun b40 => ?_)
    refine v_aload_n 0 dX1_bell_43 rfl rfl ?_
    refine v_get f_Laws_9 0 rfl rfl dX1_bell_44 ?_
    refine v_get f_Laws_15 1 rfl rfl dX1_bell_47 ?_
    refine v_if_ne (tgt := 187) dX1_bell_50 (by decide) (fun b50 => ?_) (fun b50 => ?_)
    · have b50 : ¬ (dr = false) := fun q => b50 ((dI_0 dr).mpr q)
      refine v_lconst (v := lN 0) dX1_bell_187 (by decide) ?_
      exact v_lret hE dX1_bell_188 (0, p, dr) (hq _ (Rl_over (by simpa using b50) (hdr (by simpa using b50)))) (congrArg (fun z => some (Value.long z)) (blI_0 0)) rfl
    · have b50 : dr = false := (dI_0 dr).mp b50
      refine v_aload_n 0 dX1_bell_53 rfl rfl ?_
      refine v_get f_Laws_9 0 rfl rfl dX1_bell_54 ?_
      refine v_lload 3 dX1_bell_57 rfl ?_
      refine v_callV (as := [.long (lN t)]) (rest := []) (ws' := fun u => [(q, .inr (1, [.ref d])), (d, .inr (0, [.ref w, .int (nI fr), .int (nI u.2.1), .int (nI e), .int (dI u.2.2)])), (w, .inl (cI, n, .inl f))]) m_Laws_38 (kX0_uniform X.l (d := d) (w := w) (n := n) (f := f) (fr := fr) (p := p) (e := e) (dr := dr) (nn := t) (by omega) he hn hdr (by omega) (by omega)) k_code_X0_uniform [1, 2] 1 rfl rfl rfl rfl dX1_bell_59 (Nat.le_of_ble_eq_true rfl) ⟨rfl, rfl, by decide, by decide⟩ ⟨Nat.zero_le _, Nat.zero_le _⟩ rfl rfl (fun _ => rfl) (fun _ => rfl) ?_
      intro u59 c59
      obtain ⟨x, p1, d1⟩ := u59
      try dsimp only at c59
      show V (gG D cI cJ cT) X (rmD 4) cX1_bell 15 RX1 [(q, .inr (1, [.ref d])), (d, .inr (0, [.ref w, .int (nI fr), .int (nI p1), .int (nI e), .int (dI d1)])), (w, .inl (cI, n, .inl f))] 0 0 [(0, .ref q), (1, .long (lN num)), (3, .long (lN den)), (5, .long (lN t)), (7, .int (nI j))] 62 [.long (lN x)]
      have hp1 := Rl_p c59.1
      have hx : x < t := c59.2
      refine v_lstore (lv' := [(8, .long (lN x)), (0, .ref q), (1, .long (lN num)), (3, .long (lN den)), (5, .long (lN t)), (7, .int (nI j))]) dX1_bell_62 (by decide) rfl ?_
      refine v_aload_n 1 dX1_bell_64 rfl rfl ?_
      refine v_get f_Laws_9 0 rfl rfl dX1_bell_65 ?_
      refine v_lload 0 dX1_bell_68 rfl ?_
      refine v_lload 4 dX1_bell_70 rfl ?_
      refine v_callV (as := [.long (lN x), .long (lN t)]) (rest := []) (ws' := fun u => [(q, .inr (1, [.ref d])), (d, .inr (0, [.ref w, .int (nI fr), .int (nI u.2.1), .int (nI e), .int (dI u.2.2)])), (w, .inl (cI, n, .inl f))]) m_Laws_44 (kX0_exponentialCoin X.l (d := d) (w := w) (n := n) (f := f) (fr := fr) (p := p1) (e := e) (dr := d1) (num := x) (den := t) (by omega) he hn hp1.2.2 (by omega) (by omega) (by omega)) k_code_X0_exponentialCoin [1, 2] 1 rfl rfl rfl rfl dX1_bell_72 (Nat.le_of_ble_eq_true rfl) ⟨rfl, rfl, by decide, by decide⟩ ⟨Nat.zero_le _, Nat.zero_le _⟩ rfl rfl (fun _ => rfl) (fun _ => rfl) ?_
      intro u72 c72
      obtain ⟨r2, p2, d2⟩ := u72
      try dsimp only at c72
      show V (gG D cI cJ cT) X (rmD 4) cX1_bell 15 RX1 [(q, .inr (1, [.ref d])), (d, .inr (0, [.ref w, .int (nI fr), .int (nI p2), .int (nI e), .int (dI d2)])), (w, .inl (cI, n, .inl f))] 0 0 [(8, .long (lN x)), (0, .ref q), (1, .long (lN num)), (3, .long (lN den)), (5, .long (lN t)), (7, .int (nI j))] 75 [.int (nI r2)]
      have hp2 := Rl_p c72.1
      have hr2 : r2 ≤ 1 := c72.2.1
      refine v_if_ne (tgt := 81) dX1_bell_75 (by decide) (fun b75 => ?_) (fun b75 => ?_)
      · have b75 : ¬ (r2 = 0) := fun q => b75 (((show nI r2 = 0 ↔ r2 = 0 from nI_eq (b := 0) (by omega) (by decide))).mpr q)
        refine v_lload 0 dX1_bell_81 rfl ?_
        refine v_lload 4 dX1_bell_83 rfl ?_
        refine v_aload_n 1 dX1_bell_85 rfl rfl ?_
        refine v_callV (as := []) (rest := [.long (lN t), .long (lN x)]) (ws' := fun u => [(q, .inr (1, [.ref d])), (d, .inr (0, [.ref w, .int (nI fr), .int (nI u.2.1), .int (nI e), .int (dI u.2.2)])), (w, .inl (cI, n, .inl f))]) m_Laws_47 (kX1_exponentialCoinsInARow X.l (q := q) (d := d) (w := w) (n := n) (f := f) (fr := fr) (p := p2) (e := e) (dr := d2) (by omega) he hn hp2.2.2) k_code_X1_exponentialCoinsInARow [0, 1, 2] 0 rfl rfl rfl rfl dX1_bell_86 (Nat.le_of_ble_eq_true rfl) ⟨rfl, rfl, by decide, by decide⟩ ⟨Nat.zero_le _, Nat.zero_le _⟩ rfl rfl (fun _ => rfl) (fun _ => rfl) ?_
        intro u86 c86
        obtain ⟨v, p3, d3⟩ := u86
        try dsimp only at c86
        show V (gG D cI cJ cT) X (rmD 4) cX1_bell 15 RX1 [(q, .inr (1, [.ref d])), (d, .inr (0, [.ref w, .int (nI fr), .int (nI p3), .int (nI e), .int (dI d3)])), (w, .inl (cI, n, .inl f))] 0 0 [(8, .long (lN x)), (0, .ref q), (1, .long (lN num)), (3, .long (lN den)), (5, .long (lN t)), (7, .int (nI j))] 89 [.int (nI v), .long (lN t), .long (lN x)]
        have hp3 := Rl_p c86.1
        have hv : v < 100000 := c86.2
        have hbb := bell_b hnum hnum1 hden hden1 ht ht1 hx hv
        refine v_i2l (v := lN v) dX1_bell_89 (nI_l (by omega)) ?_
        refine v_lmul dX1_bell_90 ?_
        refine v_topl (y := lN (t * v)) (lN_mul _ _) ?_
        refine v_ladd dX1_bell_91 ?_
        refine v_topl (y := lN (x + t * v)) (lN_add _ _) ?_
        refine v_lstore (lv' := [(10, .long (lN (x + t * v))), (8, .long (lN x)), (0, .ref q), (1, .long (lN num)), (3, .long (lN den)), (5, .long (lN t)), (7, .int (nI j))]) dX1_bell_92 (by decide) rfl ?_
        refine v_aload_n 2 dX1_bell_94 rfl rfl ?_
        refine v_get f_Laws_9 0 rfl rfl dX1_bell_95 ?_
        refine v_callV (as := []) (rest := []) (ws' := fun u => [(q, .inr (1, [.ref d])), (d, .inr (0, [.ref w, .int (nI fr), .int (nI u.2.1), .int (nI e), .int (dI u.2.2)])), (w, .inl (cI, n, .inl f))]) m_Laws_51 (kX0_nextBit X.l (d := d) (w := w) (n := n) (f := f) (fr := fr) (p := p3) (e := e) (dr := d3) (by omega) he hn) k_code_X0_nextBit [1, 2] 1 rfl rfl rfl rfl dX1_bell_98 (Nat.le_of_ble_eq_true rfl) ⟨rfl, rfl, by decide, by decide⟩ ⟨Nat.zero_le _, Nat.zero_le _⟩ rfl rfl (fun _ => rfl) (fun _ => rfl) ?_
        intro u98 c98
        obtain ⟨s, p4, d4⟩ := u98
        try dsimp only at c98
        show V (gG D cI cJ cT) X (rmD 4) cX1_bell 15 RX1 [(q, .inr (1, [.ref d])), (d, .inr (0, [.ref w, .int (nI fr), .int (nI p4), .int (nI e), .int (dI d4)])), (w, .inl (cI, n, .inl f))] 0 0 [(10, .long (lN (x + t * v))), (8, .long (lN x)), (0, .ref q), (1, .long (lN num)), (3, .long (lN den)), (5, .long (lN t)), (7, .int (nI j))] 101 [.int (nI s)]
        have hs : s < 2 := Rbit_lt (bitW_lt f) c98
        have hp4 := Rbit_le hp3.2.1 c98
        have hd4 := Rbit_e hp3.2.1 hp3.2.2 c98
        have hq4 := Rbit_d c98
        refine v_iconst (v := nI 1) dX1_bell_101 (by decide) ?_
        refine v_icmp_ne (tgt := 109) dX1_bell_102 (by decide) (fun b102 => ?_) (fun b102 => ?_)
        · have b102 : ¬ (s = 1) := fun q => b102 ((nI_eq (by omega) (by decide)).mpr q)
          refine v_iconst (v := nI 0) dX1_bell_109 (by decide) ?_
          refine v_istore (lv' := [(12, .int (nI 0)), (10, .long (lN (x + t * v))), (8, .long (lN x)), (0, .ref q), (1, .long (lN num)), (3, .long (lN den)), (5, .long (lN t)), (7, .int (nI j))]) dX1_bell_110 (by decide) rfl ?_
          refine v_lload 1 dX1_bell_112 rfl ?_
          refine v_lconst (v := lN 0) dX1_bell_114 (by decide) ?_
          refine v_lcmp dX1_bell_115 ?_
          refine v_if_ne (tgt := 127) dX1_bell_116 (by decide) (fun b116 => ?_) (fun b116 => ?_)
          · have b116 : ¬ (x + t * v = 0) := fun q => b116 ((z_eq (by omega) (by decide)).mpr q)
            refine v_lload 1 dX1_bell_127 rfl ?_
            refine v_lload_n 5 dX1_bell_129 rfl rfl ?_
            refine v_lmul dX1_bell_130 ?_
            refine v_topl (y := lN ((x + t * v) * den)) (lN_mul _ _) ?_
            refine v_lload 6 dX1_bell_131 rfl ?_
            refine v_lmul dX1_bell_133 ?_
            refine v_topl (y := lN ((x + t * v) * den * t)) (lN_mul _ _) ?_
            refine v_lload_n 4 dX1_bell_134 rfl rfl ?_
            refine v_lsub dX1_bell_135 ?_
            refine v_lstore (lv' := [(13, .long ((lN ((x + t * v) * den * t)) - (lN num))), (12, .int (nI 0)), (10, .long (lN (x + t * v))), (8, .long (lN x)), (0, .ref q), (1, .long (lN num)), (3, .long (lN den)), (5, .long (lN t)), (7, .int (nI j))]) dX1_bell_136 (by decide) rfl ?_
            refine v_aload_n 4 dX1_bell_138 rfl rfl ?_
            refine v_get f_Laws_9 0 rfl rfl dX1_bell_139 ?_
            refine v_lload 0 dX1_bell_142 rfl ?_
            refine v_lload 0 dX1_bell_144 rfl ?_
            refine v_lmul dX1_bell_146 ?_
            refine v_topl (y := lN (gapN num den t (x + t * v) * gapN num den t (x + t * v))) (gapN_sq num den t (x + t * v)) ?_
            refine v_ldc2 (v := lN 2) k_c_Laws_25 dX1_bell_147 ?_
            refine v_lload_n 5 dX1_bell_150 rfl rfl ?_
            refine v_lmul dX1_bell_151 ?_
            refine v_topl (y := lN (2 * num)) (lN_mul _ _) ?_
            refine v_lload_n 6 dX1_bell_152 rfl rfl ?_
            refine v_lmul dX1_bell_153 ?_
            refine v_topl (y := lN (2 * num * den)) (lN_mul _ _) ?_
            refine v_lload 7 dX1_bell_154 rfl ?_
            refine v_lmul dX1_bell_156 ?_
            refine v_topl (y := lN (2 * num * den * t)) (lN_mul _ _) ?_
            refine v_lload 7 dX1_bell_157 rfl ?_
            refine v_lmul dX1_bell_159 ?_
            refine v_topl (y := lN (2 * num * den * t * t)) (lN_mul _ _) ?_
            refine v_callV (as := [.long (lN (gapN num den t (x + t * v) * gapN num den t (x + t * v))), .long (lN (2 * num * den * t * t))]) (rest := []) (ws' := fun u => [(q, .inr (1, [.ref d])), (d, .inr (0, [.ref w, .int (nI fr), .int (nI u.2.1), .int (nI e), .int (dI u.2.2)])), (w, .inl (cI, n, .inl f))]) m_Laws_44 (kX0_exponentialCoin X.l (d := d) (w := w) (n := n) (f := f) (fr := fr) (p := p4) (e := e) (dr := d4) (num := (gapN num den t (x + t * v) * gapN num den t (x + t * v))) (den := (2 * num * den * t * t)) (by omega) he hn hd4 hbb.2.2.1 hbb.2.1 hbb.2.2.2) k_code_X0_exponentialCoin [1, 2] 1 rfl rfl rfl rfl dX1_bell_160 (Nat.le_of_ble_eq_true rfl) ⟨rfl, rfl, by decide, by decide⟩ ⟨Nat.zero_le _, Nat.zero_le _⟩ rfl rfl (fun _ => rfl) (fun _ => rfl) ?_
            intro u160 c160
            obtain ⟨z, p5, d5⟩ := u160
            try dsimp only at c160
            show V (gG D cI cJ cT) X (rmD 4) cX1_bell 15 RX1 [(q, .inr (1, [.ref d])), (d, .inr (0, [.ref w, .int (nI fr), .int (nI p5), .int (nI e), .int (dI d5)])), (w, .inl (cI, n, .inl f))] 0 0 [(13, .long ((lN ((x + t * v) * den * t)) - (lN num))), (12, .int (nI 0)), (10, .long (lN (x + t * v))), (8, .long (lN x)), (0, .ref q), (1, .long (lN num)), (3, .long (lN den)), (5, .long (lN t)), (7, .int (nI j))] 163 [.int (nI z)]
            have hp5 := Rl_p c160.1
            have hz : z ≤ 1 := c160.2.1
            refine v_iconst (v := nI 1) dX1_bell_163 (by decide) ?_
            refine v_icmp_ne (tgt := 181) dX1_bell_164 (by decide) (fun b164 => ?_) (fun b164 => ?_)
            · have b164 : ¬ (z = 1) := fun q => b164 ((nI_eq (by omega) (by decide)).mpr q)
              refine v_iinc (lv' := [(7, .int (nI (j + 1))), (13, .long ((lN ((x + t * v) * den * t)) - (lN num))), (12, .int (nI 0)), (10, .long (lN (x + t * v))), (8, .long (lN x)), (0, .ref q), (1, .long (lN num)), (3, .long (lN den)), (5, .long (lN t))]) (v := nI (j + 1)) 8 dX1_bell_181 rfl (nI_1 j) (by decide) rfl ?_
              refine v_goto (tgt := 36) dX1_bell_184 (by decide) ?_
              refine v_lv [5, 6, 7, 8, 0] rfl ?_
              exact ih p5 (j + 1) d5 (bell_adv2 b50 hk (by omega) hp2.2.1 c86.1 (by omega) hp5.2.1 hp5.2.2 (fun h => c160.1.1 (hq4.1 h))) hp5.2.1 hp5.2.2 (by omega) (fun u hu => hq u (ba_go c59.1 (bb_go c72.1 b75 (bc_go c86.1 (bd_no hp3.2.1 hp3.2.2 c98 (by omega) (be_go c160.1 b164 hu))))))
            · have b164 : z = 1 := (nI_eq (by omega) (by decide)).mp b164
              refine v_iload 1 dX1_bell_167 rfl ?_
              refine v_if_eq (tgt := 178) dX1_bell_169 (by decide) (fun b169 => ?_) (fun b169 => absurd (rfl) b169)
              refine v_lload 2 dX1_bell_178 rfl ?_
              exact v_lret hE dX1_bell_180 (2 * (x + t * v) + 0, p5, d5) (hq _ (by rw [show s = 0 by omega] at c98; exact ba_go c59.1 (bb_go c72.1 b75 (bc_go c86.1 (bd_no hp3.2.1 hp3.2.2 c98 (by omega) (be_out c160.1 b164)))))) (congrArg (fun z => some (Value.long z)) (blI_0 _)) rfl
          · have b116 : x + t * v = 0 := (z_eq (by omega) (by decide)).mp b116
            refine v_iload 0 dX1_bell_119 rfl ?_
            refine v_if_eq (tgt := 127) dX1_bell_121 (by decide) (fun b121 => ?_) (fun b121 => absurd (rfl) b121)
            refine v_lload 1 dX1_bell_127 rfl ?_
            refine v_lload_n 5 dX1_bell_129 rfl rfl ?_
            refine v_lmul dX1_bell_130 ?_
            refine v_topl (y := lN ((x + t * v) * den)) (lN_mul _ _) ?_
            refine v_lload 6 dX1_bell_131 rfl ?_
            refine v_lmul dX1_bell_133 ?_
            refine v_topl (y := lN ((x + t * v) * den * t)) (lN_mul _ _) ?_
            refine v_lload_n 4 dX1_bell_134 rfl rfl ?_
            refine v_lsub dX1_bell_135 ?_
            refine v_lstore (lv' := [(13, .long ((lN ((x + t * v) * den * t)) - (lN num))), (12, .int (nI 0)), (10, .long (lN (x + t * v))), (8, .long (lN x)), (0, .ref q), (1, .long (lN num)), (3, .long (lN den)), (5, .long (lN t)), (7, .int (nI j))]) dX1_bell_136 (by decide) rfl ?_
            refine v_aload_n 4 dX1_bell_138 rfl rfl ?_
            refine v_get f_Laws_9 0 rfl rfl dX1_bell_139 ?_
            refine v_lload 0 dX1_bell_142 rfl ?_
            refine v_lload 0 dX1_bell_144 rfl ?_
            refine v_lmul dX1_bell_146 ?_
            refine v_topl (y := lN (gapN num den t (x + t * v) * gapN num den t (x + t * v))) (gapN_sq num den t (x + t * v)) ?_
            refine v_ldc2 (v := lN 2) k_c_Laws_25 dX1_bell_147 ?_
            refine v_lload_n 5 dX1_bell_150 rfl rfl ?_
            refine v_lmul dX1_bell_151 ?_
            refine v_topl (y := lN (2 * num)) (lN_mul _ _) ?_
            refine v_lload_n 6 dX1_bell_152 rfl rfl ?_
            refine v_lmul dX1_bell_153 ?_
            refine v_topl (y := lN (2 * num * den)) (lN_mul _ _) ?_
            refine v_lload 7 dX1_bell_154 rfl ?_
            refine v_lmul dX1_bell_156 ?_
            refine v_topl (y := lN (2 * num * den * t)) (lN_mul _ _) ?_
            refine v_lload 7 dX1_bell_157 rfl ?_
            refine v_lmul dX1_bell_159 ?_
            refine v_topl (y := lN (2 * num * den * t * t)) (lN_mul _ _) ?_
            refine v_callV (as := [.long (lN (gapN num den t (x + t * v) * gapN num den t (x + t * v))), .long (lN (2 * num * den * t * t))]) (rest := []) (ws' := fun u => [(q, .inr (1, [.ref d])), (d, .inr (0, [.ref w, .int (nI fr), .int (nI u.2.1), .int (nI e), .int (dI u.2.2)])), (w, .inl (cI, n, .inl f))]) m_Laws_44 (kX0_exponentialCoin X.l (d := d) (w := w) (n := n) (f := f) (fr := fr) (p := p4) (e := e) (dr := d4) (num := (gapN num den t (x + t * v) * gapN num den t (x + t * v))) (den := (2 * num * den * t * t)) (by omega) he hn hd4 hbb.2.2.1 hbb.2.1 hbb.2.2.2) k_code_X0_exponentialCoin [1, 2] 1 rfl rfl rfl rfl dX1_bell_160 (Nat.le_of_ble_eq_true rfl) ⟨rfl, rfl, by decide, by decide⟩ ⟨Nat.zero_le _, Nat.zero_le _⟩ rfl rfl (fun _ => rfl) (fun _ => rfl) ?_
            intro u160 c160
            obtain ⟨z, p5, d5⟩ := u160
            try dsimp only at c160
            show V (gG D cI cJ cT) X (rmD 4) cX1_bell 15 RX1 [(q, .inr (1, [.ref d])), (d, .inr (0, [.ref w, .int (nI fr), .int (nI p5), .int (nI e), .int (dI d5)])), (w, .inl (cI, n, .inl f))] 0 0 [(13, .long ((lN ((x + t * v) * den * t)) - (lN num))), (12, .int (nI 0)), (10, .long (lN (x + t * v))), (8, .long (lN x)), (0, .ref q), (1, .long (lN num)), (3, .long (lN den)), (5, .long (lN t)), (7, .int (nI j))] 163 [.int (nI z)]
            have hp5 := Rl_p c160.1
            have hz : z ≤ 1 := c160.2.1
            refine v_iconst (v := nI 1) dX1_bell_163 (by decide) ?_
            refine v_icmp_ne (tgt := 181) dX1_bell_164 (by decide) (fun b164 => ?_) (fun b164 => ?_)
            · have b164 : ¬ (z = 1) := fun q => b164 ((nI_eq (by omega) (by decide)).mpr q)
              refine v_iinc (lv' := [(7, .int (nI (j + 1))), (13, .long ((lN ((x + t * v) * den * t)) - (lN num))), (12, .int (nI 0)), (10, .long (lN (x + t * v))), (8, .long (lN x)), (0, .ref q), (1, .long (lN num)), (3, .long (lN den)), (5, .long (lN t))]) (v := nI (j + 1)) 8 dX1_bell_181 rfl (nI_1 j) (by decide) rfl ?_
              refine v_goto (tgt := 36) dX1_bell_184 (by decide) ?_
              refine v_lv [5, 6, 7, 8, 0] rfl ?_
              exact ih p5 (j + 1) d5 (bell_adv2 b50 hk (by omega) hp2.2.1 c86.1 (by omega) hp5.2.1 hp5.2.2 (fun h => c160.1.1 (hq4.1 h))) hp5.2.1 hp5.2.2 (by omega) (fun u hu => hq u (ba_go c59.1 (bb_go c72.1 b75 (bc_go c86.1 (bd_no hp3.2.1 hp3.2.2 c98 (by omega) (be_go c160.1 b164 hu))))))
            · have b164 : z = 1 := (nI_eq (by omega) (by decide)).mp b164
              refine v_iload 1 dX1_bell_167 rfl ?_
              refine v_if_eq (tgt := 178) dX1_bell_169 (by decide) (fun b169 => ?_) (fun b169 => absurd (rfl) b169)
              refine v_lload 2 dX1_bell_178 rfl ?_
              exact v_lret hE dX1_bell_180 (2 * (x + t * v) + 0, p5, d5) (hq _ (by rw [show s = 0 by omega] at c98; exact ba_go c59.1 (bb_go c72.1 b75 (bc_go c86.1 (bd_no hp3.2.1 hp3.2.2 c98 (by omega) (be_out c160.1 b164)))))) (congrArg (fun z => some (Value.long z)) (blI_0 _)) rfl
        · have b102 : s = 1 := (nI_eq (by omega) (by decide)).mp b102
          refine v_iconst (v := nI 1) dX1_bell_105 (by decide) ?_
          refine v_goto (tgt := 110) dX1_bell_106 (by decide) ?_
          refine v_istore (lv' := [(12, .int (nI 1)), (10, .long (lN (x + t * v))), (8, .long (lN x)), (0, .ref q), (1, .long (lN num)), (3, .long (lN den)), (5, .long (lN t)), (7, .int (nI j))]) dX1_bell_110 (by decide) rfl ?_
          refine v_lload 1 dX1_bell_112 rfl ?_
          refine v_lconst (v := lN 0) dX1_bell_114 (by decide) ?_
          refine v_lcmp dX1_bell_115 ?_
          refine v_if_ne (tgt := 127) dX1_bell_116 (by decide) (fun b116 => ?_) (fun b116 => ?_)
          · have b116 : ¬ (x + t * v = 0) := fun q => b116 ((z_eq (by omega) (by decide)).mpr q)
            refine v_lload 1 dX1_bell_127 rfl ?_
            refine v_lload_n 5 dX1_bell_129 rfl rfl ?_
            refine v_lmul dX1_bell_130 ?_
            refine v_topl (y := lN ((x + t * v) * den)) (lN_mul _ _) ?_
            refine v_lload 6 dX1_bell_131 rfl ?_
            refine v_lmul dX1_bell_133 ?_
            refine v_topl (y := lN ((x + t * v) * den * t)) (lN_mul _ _) ?_
            refine v_lload_n 4 dX1_bell_134 rfl rfl ?_
            refine v_lsub dX1_bell_135 ?_
            refine v_lstore (lv' := [(13, .long ((lN ((x + t * v) * den * t)) - (lN num))), (12, .int (nI 1)), (10, .long (lN (x + t * v))), (8, .long (lN x)), (0, .ref q), (1, .long (lN num)), (3, .long (lN den)), (5, .long (lN t)), (7, .int (nI j))]) dX1_bell_136 (by decide) rfl ?_
            refine v_aload_n 4 dX1_bell_138 rfl rfl ?_
            refine v_get f_Laws_9 0 rfl rfl dX1_bell_139 ?_
            refine v_lload 0 dX1_bell_142 rfl ?_
            refine v_lload 0 dX1_bell_144 rfl ?_
            refine v_lmul dX1_bell_146 ?_
            refine v_topl (y := lN (gapN num den t (x + t * v) * gapN num den t (x + t * v))) (gapN_sq num den t (x + t * v)) ?_
            refine v_ldc2 (v := lN 2) k_c_Laws_25 dX1_bell_147 ?_
            refine v_lload_n 5 dX1_bell_150 rfl rfl ?_
            refine v_lmul dX1_bell_151 ?_
            refine v_topl (y := lN (2 * num)) (lN_mul _ _) ?_
            refine v_lload_n 6 dX1_bell_152 rfl rfl ?_
            refine v_lmul dX1_bell_153 ?_
            refine v_topl (y := lN (2 * num * den)) (lN_mul _ _) ?_
            refine v_lload 7 dX1_bell_154 rfl ?_
            refine v_lmul dX1_bell_156 ?_
            refine v_topl (y := lN (2 * num * den * t)) (lN_mul _ _) ?_
            refine v_lload 7 dX1_bell_157 rfl ?_
            refine v_lmul dX1_bell_159 ?_
            refine v_topl (y := lN (2 * num * den * t * t)) (lN_mul _ _) ?_
            refine v_callV (as := [.long (lN (gapN num den t (x + t * v) * gapN num den t (x + t * v))), .long (lN (2 * num * den * t * t))]) (rest := []) (ws' := fun u => [(q, .inr (1, [.ref d])), (d, .inr (0, [.ref w, .int (nI fr), .int (nI u.2.1), .int (nI e), .int (dI u.2.2)])), (w, .inl (cI, n, .inl f))]) m_Laws_44 (kX0_exponentialCoin X.l (d := d) (w := w) (n := n) (f := f) (fr := fr) (p := p4) (e := e) (dr := d4) (num := (gapN num den t (x + t * v) * gapN num den t (x + t * v))) (den := (2 * num * den * t * t)) (by omega) he hn hd4 hbb.2.2.1 hbb.2.1 hbb.2.2.2) k_code_X0_exponentialCoin [1, 2] 1 rfl rfl rfl rfl dX1_bell_160 (Nat.le_of_ble_eq_true rfl) ⟨rfl, rfl, by decide, by decide⟩ ⟨Nat.zero_le _, Nat.zero_le _⟩ rfl rfl (fun _ => rfl) (fun _ => rfl) ?_
            intro u160 c160
            obtain ⟨z, p5, d5⟩ := u160
            try dsimp only at c160
            show V (gG D cI cJ cT) X (rmD 4) cX1_bell 15 RX1 [(q, .inr (1, [.ref d])), (d, .inr (0, [.ref w, .int (nI fr), .int (nI p5), .int (nI e), .int (dI d5)])), (w, .inl (cI, n, .inl f))] 0 0 [(13, .long ((lN ((x + t * v) * den * t)) - (lN num))), (12, .int (nI 1)), (10, .long (lN (x + t * v))), (8, .long (lN x)), (0, .ref q), (1, .long (lN num)), (3, .long (lN den)), (5, .long (lN t)), (7, .int (nI j))] 163 [.int (nI z)]
            have hp5 := Rl_p c160.1
            have hz : z ≤ 1 := c160.2.1
            refine v_iconst (v := nI 1) dX1_bell_163 (by decide) ?_
            refine v_icmp_ne (tgt := 181) dX1_bell_164 (by decide) (fun b164 => ?_) (fun b164 => ?_)
            · have b164 : ¬ (z = 1) := fun q => b164 ((nI_eq (by omega) (by decide)).mpr q)
              refine v_iinc (lv' := [(7, .int (nI (j + 1))), (13, .long ((lN ((x + t * v) * den * t)) - (lN num))), (12, .int (nI 1)), (10, .long (lN (x + t * v))), (8, .long (lN x)), (0, .ref q), (1, .long (lN num)), (3, .long (lN den)), (5, .long (lN t))]) (v := nI (j + 1)) 8 dX1_bell_181 rfl (nI_1 j) (by decide) rfl ?_
              refine v_goto (tgt := 36) dX1_bell_184 (by decide) ?_
              refine v_lv [5, 6, 7, 8, 0] rfl ?_
              exact ih p5 (j + 1) d5 (bell_adv2 b50 hk (by omega) hp2.2.1 c86.1 (by omega) hp5.2.1 hp5.2.2 (fun h => c160.1.1 (hq4.1 h))) hp5.2.1 hp5.2.2 (by omega) (fun u hu => hq u (ba_go c59.1 (bb_go c72.1 b75 (bc_go c86.1 (bd_no hp3.2.1 hp3.2.2 c98 (by omega) (be_go c160.1 b164 hu))))))
            · have b164 : z = 1 := (nI_eq (by omega) (by decide)).mp b164
              refine v_iload 1 dX1_bell_167 rfl ?_
              refine v_if_eq (tgt := 178) dX1_bell_169 (by decide) (fun b169 => absurd b169 (by decide)) (fun b169 => ?_)
              refine v_lload 2 dX1_bell_172 rfl ?_
              refine v_lneg dX1_bell_174 ?_
              refine v_goto (tgt := 180) dX1_bell_175 (by decide) ?_
              exact v_lret hE dX1_bell_180 (2 * (x + t * v) + 1, p5, d5) (hq _ (by rw [show s = 1 by omega] at c98; exact ba_go c59.1 (bb_go c72.1 b75 (bc_go c86.1 (bd_no hp3.2.1 hp3.2.2 c98 (by omega) (be_out c160.1 b164)))))) (congrArg (fun z => some (Value.long z)) (blI_1 _)) rfl
          · have b116 : x + t * v = 0 := (z_eq (by omega) (by decide)).mp b116
            refine v_iload 0 dX1_bell_119 rfl ?_
            refine v_if_eq (tgt := 127) dX1_bell_121 (by decide) (fun b121 => absurd b121 (by decide)) (fun b121 => ?_)
            refine v_goto (tgt := 181) dX1_bell_124 (by decide) ?_
            refine v_iinc (lv' := [(7, .int (nI (j + 1))), (12, .int (nI 1)), (10, .long (lN (x + t * v))), (8, .long (lN x)), (0, .ref q), (1, .long (lN num)), (3, .long (lN den)), (5, .long (lN t))]) (v := nI (j + 1)) 7 dX1_bell_181 rfl (nI_1 j) (by decide) rfl ?_
            refine v_goto (tgt := 36) dX1_bell_184 (by decide) ?_
            refine v_lv [4, 5, 6, 7, 0] rfl ?_
            exact ih p4 (j + 1) d4 (bell_adv2 b50 hk (by omega) hp2.2.1 c86.1 hq4.2 hp4 hd4 hq4.1) hp4 hd4 (by omega) (fun u hu => hq u (ba_go c59.1 (bb_go c72.1 b75 (bc_go c86.1 (bd_yes hp3.2.1 hp3.2.2 c98 ⟨by omega, by omega⟩ hu)))))
      · have b75 : r2 = 0 := ((show nI r2 = 0 ↔ r2 = 0 from nI_eq (b := 0) (by omega) (by decide))).mp b75
        refine v_goto (tgt := 181) dX1_bell_78 (by decide) ?_
        refine v_iinc (lv' := [(7, .int (nI (j + 1))), (8, .long (lN x)), (0, .ref q), (1, .long (lN num)), (3, .long (lN den)), (5, .long (lN t))]) (v := nI (j + 1)) 5 dX1_bell_181 rfl (nI_1 j) (by decide) rfl ?_
        refine v_goto (tgt := 36) dX1_bell_184 (by decide) ?_
        refine v_lv [2, 3, 4, 5, 0] rfl ?_
        exact ih p2 (j + 1) d2 (bell_adv1 hx b50 hk hp1 c72.1 b75) hp2.2.1 hp2.2.2 (by omega) (fun u hu => hq u (ba_go c59.1 (bb_no c72.1 b75 hu)))
set_option maxRecDepth 100000 in
set_option maxHeartbeats 4000000 in
theorem kX1_bell_t {D : va_G} {cI cJ cT : ClassId} {X : vX} {q d w n : Nat} {f : Nat → Int32} {fr e : Nat} {num den T p : Nat} {dr : Bool} (he : e ≤ 32 * n) (hn : n ≤ 512) (hnum : num ≤ 1000) (hnum1 : 1 ≤ num) (hden : den ≤ 10) (hden1 : 1 ≤ den) (hT2 : T ≤ 32) (hT1 : 1 ≤ T) (hp : p ≤ e) (hdr : dr = true → p = e) {W0 : va_W} {post : Nat × Nat × Bool → Prop} (hE : vE (gG D cI cJ cT) X (some .long) W0 post (fun u => some (.long (blI u.1))) (fun u => [(q, .inr (1, [.ref d])), (d, .inr (0, [.ref w, .int (nI fr), .int (nI u.2.1), .int (nI e), .int (dI u.2.2)])), (w, .inl (cI, n, .inl f))])) (hq : ∀ u, Rl (sBelL (bitW f) e num den T (e - p + 2) p) e p dr u → post u) :
    ∀ (k t : Nat), 1 ≤ t → t ≤ num + 1 → num + 1 < t + k → beL num den k t = T → V (gG D cI cJ cT) X (rmD 4) cX1_bell 15 RX1 [(q, .inr (1, [.ref d])), (d, .inr (0, [.ref w, .int (nI fr), .int (nI p), .int (nI e), .int (dI dr)])), (w, .inl (cI, n, .inl f))] 0 0 [(0, .ref q), (1, .long (lN num)), (3, .long (lN den)), (5, .long (lN t))] 3 [] := by
  intro k
  induction k with
  | zero => intro t h1 h2 h3; omega
  | succ k ih =>
    intro t ht1 htn1 hk hT
    refine v_lload 3 dX1_bell_3 rfl ?_
    refine v_ldc2 (v := lN 1000000) k_c_Laws_42 dX1_bell_5 ?_
    refine v_lcmp dX1_bell_8 ?_
    refine v_if_ge (tgt := 33) dX1_bell_9 (by decide) (fun b9 => absurd b9 (fun q => absurd ((z_ge (by omega) (by decide)).mp q) (by omega))) (fun b9 => ?_)
    refine v_lload 3 dX1_bell_12 rfl ?_
    refine v_lload 3 dX1_bell_14 rfl ?_
    refine v_lmul dX1_bell_16 ?_
    have htt : t * t ≤ 1001 * 1001 := Nat.mul_le_mul (by omega) (by omega)
    have httd : t * t * den ≤ 1002001 * 10 := Nat.mul_le_mul (by omega) hden
    refine v_topl (y := lN (t * t)) (lN_mul _ _) ?_
    refine v_lload_n 2 dX1_bell_17 rfl rfl ?_
    refine v_lmul dX1_bell_18 ?_
    refine v_topl (y := lN (t * t * den)) (lN_mul _ _) ?_
    refine v_lload_n 1 dX1_bell_19 rfl rfl ?_
    refine v_lcmp dX1_bell_20 ?_
    refine v_if_gt (tgt := 33) dX1_bell_21 (by decide) (fun b21 => ?_) (fun b21 => ?_)
    · have b21 : num < t * t * den := (z_gt (by omega) (by omega)).mp b21
      refine v_iconst (v := nI 0) dX1_bell_33 (by decide) ?_
      refine v_istore (lv' := [(7, .int (nI 0)), (0, .ref q), (1, .long (lN num)), (3, .long (lN den)), (5, .long (lN t))]) dX1_bell_34 (by decide) rfl ?_
      refine v_lv [1, 2, 3, 4, 0] rfl ?_
      have hTT : t = T := by rw [← hT, beL, if_neg (by omega)]
      rw [hTT]
      exact kX1_bell_loop he hn hnum hnum1 hden hden1 hT2 hT1 hE (e - p + 2) p 0 dr (by split <;> omega) hp hdr (by omega) hq
    · have b21 : ¬ (num < t * t * den) := fun q => b21 ((z_gt (by omega) (by omega)).mpr q)
      have htn : t ≤ num := Nat.le_trans (Nat.le_trans (Nat.le_mul_of_pos_left t (by omega)) (Nat.le_mul_of_pos_right (t * t) hden1)) (by omega)
      refine v_lload 3 dX1_bell_24 rfl ?_
      refine v_lconst (v := lN 1) dX1_bell_26 (by decide) ?_
      refine v_ladd dX1_bell_27 ?_
      refine v_topl (y := lN (t + 1)) (lN_add _ _) ?_
      refine v_lstore (lv' := [(5, .long (lN (t + 1))), (0, .ref q), (1, .long (lN num)), (3, .long (lN den))]) dX1_bell_28 (by decide) rfl ?_
      refine v_goto (tgt := 3) dX1_bell_30 (by decide) ?_
      refine v_lv [1, 2, 3, 0] rfl ?_
      exact ih (t + 1) (by omega) (by omega) (by omega) (by rw [← hT, beL, if_pos (by omega)])
set_option maxRecDepth 100000 in
set_option maxHeartbeats 4000000 in
theorem kX1_bell {D : va_G} {cI cJ cT : ClassId} (l : Launch) {q d w n : Nat} {f : Nat → Int32} {fr p e : Nat} {dr : Bool} {num den : Nat} (hp : p ≤ e) (he : e ≤ 32 * n) (hn : n ≤ 512) (hdr : dr = true → p = e) (hnum : num ≤ 1000) (hnum1 : 1 ≤ num) (hden : den ≤ 10) (hden1 : 1 ≤ den) : Fn (S := Nat × Nat × Bool) (gG D cI cJ cT) l yX1_bell (.code yX1_bell cX1_bell 15 (some .long)) (rmD 4) [.ref q, .long (lN num), .long (lN den)] [(q, .inr (1, [.ref d])), (d, .inr (0, [.ref w, .int (nI fr), .int (nI p), .int (nI e), .int (dI dr)])), (w, .inl (cI, n, .inl f))] (fun u => Rl (sBell (bitW f) e num den p) e p dr u) (fun u => some (.long (blI u.1))) (fun u => [(q, .inr (1, [.ref d])), (d, .inr (0, [.ref w, .int (nI fr), .int (nI u.2.1), .int (nI e), .int (dI u.2.2)])), (w, .inl (cI, n, .inl f))]) := by
  refine Fn.intro (by decide) (Nat.le_of_ble_eq_true rfl) ?_
  intro X hX hE hin
  subst hX
  show V (gG D cI cJ cT) X _ cX1_bell 15 RX1 _ 0 0 [(0, .ref q), (1, .long (lN num)), (3, .long (lN den))] 0 []
  refine v_lconst (v := lN 1) dX1_bell_0 (by decide) ?_
  refine v_lstore (lv' := [(5, .long (lN 1)), (0, .ref q), (1, .long (lN num)), (3, .long (lN den))]) dX1_bell_1 (by decide) rfl ?_
  have hbt := beT_le (num := num) (den := den) hnum hden1
  refine v_lv [1, 2, 3, 0] rfl ?_
  exact kX1_bell_t he hn hnum hnum1 hden hden1 hbt.2 hbt.1 hp hdr hE (fun u hu => hu) (num + 1) 1 (by omega) (by omega) (by omega) rfl
