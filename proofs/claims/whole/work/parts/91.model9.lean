set_option maxRecDepth 100000 in
set_option maxHeartbeats 1000000 in
theorem kX9_within {D : va_G} {cI cJ cT : ClassId} (l : Launch) {v lo hi : Int64} : Fn (S := Unit) (gG D cI cJ cT) l yX9_within (.code yX9_within cX9_within 6 (some .boolean)) (rmD 0) [.long v, .long lo, .long hi] [] (fun _ => True) (fun u => some (.int (dI (wi v lo hi)))) (fun u => []) := by
  refine Fn.intro (by decide) (Nat.le_of_ble_eq_true rfl) ?_
  intro X hX hE hin
  subst hX
  show V (gG D cI cJ cT) X _ cX9_within 6 RX9 _ 0 0 [(0, .long v), (2, .long lo), (4, .long hi)] 0 []
  refine v_lload_n 0 dX9_within_0 rfl rfl ?_
  refine v_lload_n 1 dX9_within_1 rfl rfl ?_
  refine v_lcmp dX9_within_2 ?_
  refine v_if_lt (tgt := 17) dX9_within_3 (by decide) (fun b3 => ?_) (fun b3 => ?_)
  · have b3 : v < lo := (lg_cmp_lt _ _).mp b3
    refine v_iconst (v := 0) dX9_within_17 (by decide) ?_
    exact v_zret hE rfl dX9_within_18 () trivial (by simp [wi, dI, *]) rfl
  · have b3 : ¬ (v < lo) := fun q => b3 ((lg_cmp_lt _ _).mpr q)
    refine v_lload_n 0 dX9_within_6 rfl rfl ?_
    refine v_lload 2 dX9_within_7 rfl ?_
    refine v_lcmp dX9_within_9 ?_
    refine v_if_gt (tgt := 17) dX9_within_10 (by decide) (fun b10 => ?_) (fun b10 => ?_)
    · have b10 : hi < v := (lg_cmp_gt _ _).mp b10
      refine v_iconst (v := 0) dX9_within_17 (by decide) ?_
      exact v_zret hE rfl dX9_within_18 () trivial (by simp [wi, dI, *]) rfl
    · have b10 : ¬ (hi < v) := fun q => b10 ((lg_cmp_gt _ _).mpr q)
      refine v_iconst (v := 1) dX9_within_13 (by decide) ?_
      refine v_goto (tgt := 18) dX9_within_14 (by decide) ?_
      exact v_zret hE rfl dX9_within_18 () trivial (by simp [wi, dI, *]) rfl
theorem ra1 (x y : Int32) : ra x y 1 = (!decide (y < 1) && up x y) := by
  unfold ra up
  rw [Int64.one_mul]
  simp only [toL_lt]
  cases decide (x < 0) <;> cases decide (y < 1) <;> simp
set_option maxRecDepth 100000 in
set_option maxHeartbeats 1000000 in
theorem kX9_isChance {D : va_G} {cI cJ cT : ClassId} (l : Launch) {x y : Int32} : Fn (S := Unit) (gG D cI cJ cT) l yX9_isChance (.code yX9_isChance cX9_isChance 2 (some .boolean)) (rmD 1) [.int x, .int y] [] (fun _ => True) (fun u => some (.int (dI (ra x y 1)))) (fun u => []) := by
  refine Fn.intro (by decide) (Nat.le_of_ble_eq_true rfl) ?_
  intro X hX hE hin
  subst hX
  show V (gG D cI cJ cT) X _ cX9_isChance 2 RX9 _ 0 0 [(0, .int x), (1, .int y)] 0 []
  refine v_iload_n 1 dX9_isChance_0 rfl rfl ?_
  refine v_iconst (v := 1) dX9_isChance_1 (by decide) ?_
  refine v_icmp_lt (tgt := 20) dX9_isChance_2 (by decide) (fun b2 => ?_) (fun b2 => ?_)
  · refine v_iconst (v := 0) dX9_isChance_20 (by decide) ?_
    exact v_zret hE rfl dX9_isChance_21 () trivial (by rw [ra1]; simp [dI, *]) rfl
  · refine v_iload_n 0 dX9_isChance_5 rfl rfl ?_
    refine v_i2l (v := x.toInt64) dX9_isChance_6 (rfl) ?_
    refine v_lconst (v := 0) dX9_isChance_7 (by decide) ?_
    refine v_iload_n 1 dX9_isChance_8 rfl rfl ?_
    refine v_i2l (v := y.toInt64) dX9_isChance_9 (rfl) ?_
    refine v_callS (as := [.long x.toInt64, .long 0, .long y.toInt64]) (rest := []) (ws' := fun u => []) m_SampleDeskModel_58 (kX9_within X.l (v := x.toInt64) (lo := 0) (hi := y.toInt64)) k_code_X9_within [] rfl rfl dX9_isChance_10 (Nat.le_of_ble_eq_true rfl) ⟨rfl, rfl, by decide, by decide⟩ ⟨Nat.zero_le _, Nat.zero_le _⟩ rfl rfl (fun _ => rfl) (v_mgU rfl (fun _ => rfl)) ?_
    intro uu c10
    try dsimp only at c10
    show V (gG D cI cJ cT) X (rmD 1) cX9_isChance 2 RX9 [] 0 0 [(0, .int x), (1, .int y)] 13 [.int (dI (wi x.toInt64 0 y.toInt64))]
    refine v_topi (y := dI (up x y)) (by rw [wi_up]) ?_
    refine v_if_eq (tgt := 20) dX9_isChance_13 (by decide) (fun b13 => ?_) (fun b13 => ?_)
    · have b13 : (up x y) = false := (dI_0 _).mp b13
      refine v_iconst (v := 0) dX9_isChance_20 (by decide) ?_
      exact v_zret hE rfl dX9_isChance_21 () trivial (by rw [ra1]; simp [dI, *]) rfl
    · have b13 : ¬ ((up x y) = false) := fun q => b13 ((dI_0 _).mpr q)
      refine v_iconst (v := 1) dX9_isChance_16 (by decide) ?_
      refine v_goto (tgt := 21) dX9_isChance_17 (by decide) ?_
      exact v_zret hE rfl dX9_isChance_21 () trivial (by rw [ra1]; simp [dI, *]) rfl
theorem ok1 {a b : Int32} (ha : ¬ a < 0) (hb : up b 511 = true) : wd a b < 1 ↔ (¬ 0 < a) ∧ ¬ 0 < b := by
  obtain ⟨x, hx, rfl⟩ := nI_of ha
  obtain ⟨y, hy, rfl⟩ := up_of (M := 511) (by decide) (by decide) hb
  unfold wd
  rw [nI_l (by omega), nI_l (by omega), show (2147483648 : Int64) = lN 2147483648 by decide, show (1 : Int64) = lN 1 by decide, lN_mul, lN_add, pk_lLT (by omega) (by decide)]
  rw [show (0 : Int32) = nI 0 from rfl, nI_ltI (by decide) (by omega), nI_ltI (by decide) (by omega)]
  omega
theorem wi_lo (x M : Int32) : wi x.toInt64 1 M.toInt64 = (!decide (x < 1) && !decide (M < x)) := by
  unfold wi
  rw [show (1 : Int64) = (1 : Int32).toInt64 by decide]
  simp only [toL_lt]
theorem ra_b (x y : Int32) (m : Int64) : ra x y m = (!decide (y < 1) && (!decide (x < 0) && !decide (m * y.toInt64 < x.toInt64))) := by
  unfold ra
  cases decide (x < 0) <;> cases decide (y < 1) <;> simp
theorem up_1 (x M : Int32) : (!decide (x < 1) && up x M) = (!decide (x < 1) && !decide (M < x)) := by
  unfold up
  by_cases h : x < 0
  · have : x < 1 := by rw [Int32.lt_iff_toInt_lt] at h ⊢; have e1 : (1 : Int32).toInt = 1 := by decide
                       have e0 : (0 : Int32).toInt = 0 := by decide
                       omega
    simp [this]
  · simp [h]
set_option maxRecDepth 100000 in
set_option maxHeartbeats 1000000 in
theorem kX9_canBe_0 {D : va_G} {cI cJ cT : ClassId} (l : Launch) {a b c : Int32} : Fn (S := Unit) (gG D cI cJ cT) l yX9_canBe (.code yX9_canBe cX9_canBe 4 (some .boolean)) (rmD 2) [.int (nI 0), .int a, .int b, .int c] [] (fun _ => True) (fun u => some (.int (dI (okK 0 a b c)))) (fun u => []) := by
  refine Fn.intro (by decide) (Nat.le_of_ble_eq_true rfl) ?_
  intro X hX hE hin
  subst hX
  show V (gG D cI cJ cT) X _ cX9_canBe 4 RX9 _ 0 0 [(0, .int (nI 0)), (1, .int a), (2, .int b), (3, .int c)] 0 []
  refine v_iload_n 0 dX9_canBe_0 rfl rfl ?_
  refine v_tableIn (off := 71) (tgt := 72) dX9_canBe_1 (by decide) (by decide) (by decide) (by decide) ?_
  refine v_iload_n 1 dX9_canBe_72 rfl rfl ?_
  refine v_i2l (v := a.toInt64) dX9_canBe_73 (rfl) ?_
  refine v_lconst (v := 0) dX9_canBe_74 (by decide) ?_
  refine v_ldc2 (v := 7) k_c_SampleDeskModel_65 dX9_canBe_75 ?_
  refine v_callS (as := [.long a.toInt64, .long 0, .long 7]) (rest := []) (ws' := fun u => []) m_SampleDeskModel_58 (kX9_within X.l (v := a.toInt64) (lo := 0) (hi := 7)) k_code_X9_within [] rfl rfl dX9_canBe_78 (Nat.le_of_ble_eq_true rfl) ⟨rfl, rfl, by decide, by decide⟩ ⟨Nat.zero_le _, Nat.zero_le _⟩ rfl rfl (fun _ => rfl) (v_mgU rfl (fun _ => rfl)) ?_
  intro uu c78
  try dsimp only at c78
  show V (gG D cI cJ cT) X (rmD 2) cX9_canBe 4 RX9 [] 0 0 [(0, .int (nI 0)), (1, .int a), (2, .int b), (3, .int c)] 81 [.int (dI (wi a.toInt64 0 7))]
  refine v_topi (y := dI (up a 7)) (by rw [show (7 : Int64) = (7 : Int32).toInt64 by decide, wi_up]) ?_
  exact v_zret hE (dI_nar _) dX9_canBe_81 () trivial rfl rfl
set_option maxRecDepth 100000 in
set_option maxHeartbeats 1000000 in
theorem kX9_canBe_1 {D : va_G} {cI cJ cT : ClassId} (l : Launch) {a b c : Int32} : Fn (S := Unit) (gG D cI cJ cT) l yX9_canBe (.code yX9_canBe cX9_canBe 4 (some .boolean)) (rmD 2) [.int (nI 1), .int a, .int b, .int c] [] (fun _ => True) (fun u => some (.int (dI (okK 1 a b c)))) (fun u => []) := by
  refine Fn.intro (by decide) (Nat.le_of_ble_eq_true rfl) ?_
  intro X hX hE hin
  subst hX
  show V (gG D cI cJ cT) X _ cX9_canBe 4 RX9 _ 0 0 [(0, .int (nI 1)), (1, .int a), (2, .int b), (3, .int c)] 0 []
  refine v_iload_n 0 dX9_canBe_0 rfl rfl ?_
  refine v_tableIn (off := 81) (tgt := 82) dX9_canBe_1 (by decide) (by decide) (by decide) (by decide) ?_
  refine v_iload_n 1 dX9_canBe_82 rfl rfl ?_
  refine v_if_lt (tgt := 110) dX9_canBe_83 (by decide) (fun b83 => ?_) (fun b83 => ?_)
  · refine v_iconst (v := 0) dX9_canBe_110 (by decide) ?_
    exact v_zret hE rfl dX9_canBe_111 () trivial (by simp only [okK]; first | (rw [decide_eq_true b83]; rfl) | (rw [b95]; simp [dI]) | (have h9 := ok1 (b := b) b83 (by simpa using b95); simp [dI, *])) rfl
  · refine v_iload_n 2 dX9_canBe_86 rfl rfl ?_
    refine v_i2l (v := b.toInt64) dX9_canBe_87 (rfl) ?_
    refine v_lconst (v := 0) dX9_canBe_88 (by decide) ?_
    refine v_ldc2 (v := 511) k_c_SampleDeskModel_147 dX9_canBe_89 ?_
    refine v_callS (as := [.long b.toInt64, .long 0, .long 511]) (rest := []) (ws' := fun u => []) m_SampleDeskModel_58 (kX9_within X.l (v := b.toInt64) (lo := 0) (hi := 511)) k_code_X9_within [] rfl rfl dX9_canBe_92 (Nat.le_of_ble_eq_true rfl) ⟨rfl, rfl, by decide, by decide⟩ ⟨Nat.zero_le _, Nat.zero_le _⟩ rfl rfl (fun _ => rfl) (v_mgU rfl (fun _ => rfl)) ?_
    intro uu c92
    try dsimp only at c92
    show V (gG D cI cJ cT) X (rmD 2) cX9_canBe 4 RX9 [] 0 0 [(0, .int (nI 1)), (1, .int a), (2, .int b), (3, .int c)] 95 [.int (dI (wi b.toInt64 0 511))]
    refine v_topi (y := dI (up b 511)) (by rw [show (511 : Int64) = (511 : Int32).toInt64 by decide, wi_up]) ?_
    refine v_if_eq (tgt := 110) dX9_canBe_95 (by decide) (fun b95 => ?_) (fun b95 => ?_)
    · have b95 : (up b 511) = false := (dI_0 _).mp b95
      refine v_iconst (v := 0) dX9_canBe_110 (by decide) ?_
      exact v_zret hE rfl dX9_canBe_111 () trivial (by simp only [okK]; first | (rw [decide_eq_true b83]; rfl) | (rw [b95]; simp [dI]) | (have h9 := ok1 (b := b) b83 (by simpa using b95); simp [dI, *])) rfl
    · have b95 : ¬ ((up b 511) = false) := fun q => b95 ((dI_0 _).mpr q)
      refine v_iload_n 1 dX9_canBe_98 rfl rfl ?_
      refine v_if_gt (tgt := 106) dX9_canBe_99 (by decide) (fun b99 => ?_) (fun b99 => ?_)
      · refine v_iconst (v := 1) dX9_canBe_106 (by decide) ?_
        refine v_goto (tgt := 111) dX9_canBe_107 (by decide) ?_
        exact v_zret hE rfl dX9_canBe_111 () trivial (by simp only [okK]; first | (rw [decide_eq_true b83]; rfl) | (rw [b95]; simp [dI]) | (have h9 := ok1 (b := b) b83 (by simpa using b95); simp [dI, *])) rfl
      · refine v_iload_n 2 dX9_canBe_102 rfl rfl ?_
        refine v_if_le (tgt := 110) dX9_canBe_103 (by decide) (fun b103 => ?_) (fun b103 => ?_)
        · refine v_iconst (v := 0) dX9_canBe_110 (by decide) ?_
          exact v_zret hE rfl dX9_canBe_111 () trivial (by simp only [okK]; first | (rw [decide_eq_true b83]; rfl) | (rw [b95]; simp [dI]) | (have h9 := ok1 (b := b) b83 (by simpa using b95); simp [dI, *])) rfl
        · refine v_iconst (v := 1) dX9_canBe_106 (by decide) ?_
          refine v_goto (tgt := 111) dX9_canBe_107 (by decide) ?_
          exact v_zret hE rfl dX9_canBe_111 () trivial (by simp only [okK]; first | (rw [decide_eq_true b83]; rfl) | (rw [b95]; simp [dI]) | (have h9 := ok1 (b := b) b83 (by simpa using b95); simp [dI, *])) rfl
set_option maxRecDepth 100000 in
set_option maxHeartbeats 1000000 in
theorem kX9_canBe_2 {D : va_G} {cI cJ cT : ClassId} (l : Launch) {a b c : Int32} : Fn (S := Unit) (gG D cI cJ cT) l yX9_canBe (.code yX9_canBe cX9_canBe 4 (some .boolean)) (rmD 2) [.int (nI 2), .int a, .int b, .int c] [] (fun _ => True) (fun u => some (.int (dI (okK 2 a b c)))) (fun u => []) := by
  refine Fn.intro (by decide) (Nat.le_of_ble_eq_true rfl) ?_
  intro X hX hE hin
  subst hX
  show V (gG D cI cJ cT) X _ cX9_canBe 4 RX9 _ 0 0 [(0, .int (nI 2)), (1, .int a), (2, .int b), (3, .int c)] 0 []
  refine v_iload_n 0 dX9_canBe_0 rfl rfl ?_
  refine v_tableIn (off := 111) (tgt := 112) dX9_canBe_1 (by decide) (by decide) (by decide) (by decide) ?_
  refine v_iload_n 1 dX9_canBe_112 rfl rfl ?_
  refine v_iload_n 2 dX9_canBe_113 rfl rfl ?_
  refine v_callS (as := [.int a, .int b]) (rest := []) (ws' := fun u => []) m_SampleDeskModel_149 (kX9_isChance X.l (x := a) (y := b)) k_code_X9_isChance [] rfl rfl dX9_canBe_114 (Nat.le_of_ble_eq_true rfl) ⟨rfl, rfl, by decide, by decide⟩ ⟨Nat.zero_le _, Nat.zero_le _⟩ rfl rfl (fun _ => rfl) (v_mgU rfl (fun _ => rfl)) ?_
  intro uu c114
  try dsimp only at c114
  show V (gG D cI cJ cT) X (rmD 2) cX9_canBe 4 RX9 [] 0 0 [(0, .int (nI 2)), (1, .int a), (2, .int b), (3, .int c)] 117 [.int (dI (ra a b 1))]
  exact v_zret hE (dI_nar _) dX9_canBe_117 () trivial rfl rfl
set_option maxRecDepth 100000 in
set_option maxHeartbeats 1000000 in
theorem kX9_canBe_3 {D : va_G} {cI cJ cT : ClassId} (l : Launch) {a b c : Int32} : Fn (S := Unit) (gG D cI cJ cT) l yX9_canBe (.code yX9_canBe cX9_canBe 4 (some .boolean)) (rmD 2) [.int (nI 3), .int a, .int b, .int c] [] (fun _ => True) (fun u => some (.int (dI (okK 3 a b c)))) (fun u => []) := by
  refine Fn.intro (by decide) (Nat.le_of_ble_eq_true rfl) ?_
  intro X hX hE hin
  subst hX
  show V (gG D cI cJ cT) X _ cX9_canBe 4 RX9 _ 0 0 [(0, .int (nI 3)), (1, .int a), (2, .int b), (3, .int c)] 0 []
  refine v_iload_n 0 dX9_canBe_0 rfl rfl ?_
  refine v_tableIn (off := 117) (tgt := 118) dX9_canBe_1 (by decide) (by decide) (by decide) (by decide) ?_
  refine v_iload_n 1 dX9_canBe_118 rfl rfl ?_
  refine v_i2l (v := a.toInt64) dX9_canBe_119 (rfl) ?_
  refine v_lconst (v := 0) dX9_canBe_120 (by decide) ?_
  refine v_ldc2 (v := 1000) k_c_SampleDeskModel_153 dX9_canBe_121 ?_
  refine v_callS (as := [.long a.toInt64, .long 0, .long 1000]) (rest := []) (ws' := fun u => []) m_SampleDeskModel_58 (kX9_within X.l (v := a.toInt64) (lo := 0) (hi := 1000)) k_code_X9_within [] rfl rfl dX9_canBe_124 (Nat.le_of_ble_eq_true rfl) ⟨rfl, rfl, by decide, by decide⟩ ⟨Nat.zero_le _, Nat.zero_le _⟩ rfl rfl (fun _ => rfl) (v_mgU rfl (fun _ => rfl)) ?_
  intro uu c124
  try dsimp only at c124
  show V (gG D cI cJ cT) X (rmD 2) cX9_canBe 4 RX9 [] 0 0 [(0, .int (nI 3)), (1, .int a), (2, .int b), (3, .int c)] 127 [.int (dI (wi a.toInt64 0 1000))]
  refine v_topi (y := dI (up a 1000)) (by rw [show (1000 : Int64) = (1000 : Int32).toInt64 by decide, wi_up]) ?_
  refine v_if_eq (tgt := 142) dX9_canBe_127 (by decide) (fun b127 => ?_) (fun b127 => ?_)
  · have b127 : (up a 1000) = false := (dI_0 _).mp b127
    refine v_iconst (v := 0) dX9_canBe_142 (by decide) ?_
    exact v_zret hE rfl dX9_canBe_143 () trivial (by simp [okK, dI, *]) rfl
  · have b127 : ¬ ((up a 1000) = false) := fun q => b127 ((dI_0 _).mpr q)
    refine v_iload_n 2 dX9_canBe_130 rfl rfl ?_
    refine v_iload_n 3 dX9_canBe_131 rfl rfl ?_
    refine v_callS (as := [.int b, .int c]) (rest := []) (ws' := fun u => []) m_SampleDeskModel_149 (kX9_isChance X.l (x := b) (y := c)) k_code_X9_isChance [] rfl rfl dX9_canBe_132 (Nat.le_of_ble_eq_true rfl) ⟨rfl, rfl, by decide, by decide⟩ ⟨Nat.zero_le _, Nat.zero_le _⟩ rfl rfl (fun _ => rfl) (v_mgU rfl (fun _ => rfl)) ?_
    intro uu c132
    try dsimp only at c132
    show V (gG D cI cJ cT) X (rmD 2) cX9_canBe 4 RX9 [] 0 0 [(0, .int (nI 3)), (1, .int a), (2, .int b), (3, .int c)] 135 [.int (dI (ra b c 1))]
    refine v_if_eq (tgt := 142) dX9_canBe_135 (by decide) (fun b135 => ?_) (fun b135 => ?_)
    · have b135 : (ra b c 1) = false := (dI_0 _).mp b135
      refine v_iconst (v := 0) dX9_canBe_142 (by decide) ?_
      exact v_zret hE rfl dX9_canBe_143 () trivial (by simp [okK, dI, *]) rfl
    · have b135 : ¬ ((ra b c 1) = false) := fun q => b135 ((dI_0 _).mpr q)
      refine v_iconst (v := 1) dX9_canBe_138 (by decide) ?_
      refine v_goto (tgt := 143) dX9_canBe_139 (by decide) ?_
      exact v_zret hE rfl dX9_canBe_143 () trivial (by simp [okK, dI, *]) rfl
set_option maxRecDepth 100000 in
set_option maxHeartbeats 1000000 in
theorem kX9_canBe_4 {D : va_G} {cI cJ cT : ClassId} (l : Launch) {a b c : Int32} : Fn (S := Unit) (gG D cI cJ cT) l yX9_canBe (.code yX9_canBe cX9_canBe 4 (some .boolean)) (rmD 2) [.int (nI 4), .int a, .int b, .int c] [] (fun _ => True) (fun u => some (.int (dI (okK 4 a b c)))) (fun u => []) := by
  refine Fn.intro (by decide) (Nat.le_of_ble_eq_true rfl) ?_
  intro X hX hE hin
  subst hX
  show V (gG D cI cJ cT) X _ cX9_canBe 4 RX9 _ 0 0 [(0, .int (nI 4)), (1, .int a), (2, .int b), (3, .int c)] 0 []
  refine v_iload_n 0 dX9_canBe_0 rfl rfl ?_
  refine v_tableIn (off := 143) (tgt := 144) dX9_canBe_1 (by decide) (by decide) (by decide) (by decide) ?_
  refine v_iload_n 1 dX9_canBe_144 rfl rfl ?_
  refine v_iload_n 2 dX9_canBe_145 rfl rfl ?_
  refine v_callS (as := [.int a, .int b]) (rest := []) (ws' := fun u => []) m_SampleDeskModel_149 (kX9_isChance X.l (x := a) (y := b)) k_code_X9_isChance [] rfl rfl dX9_canBe_146 (Nat.le_of_ble_eq_true rfl) ⟨rfl, rfl, by decide, by decide⟩ ⟨Nat.zero_le _, Nat.zero_le _⟩ rfl rfl (fun _ => rfl) (v_mgU rfl (fun _ => rfl)) ?_
  intro uu c146
  try dsimp only at c146
  show V (gG D cI cJ cT) X (rmD 2) cX9_canBe 4 RX9 [] 0 0 [(0, .int (nI 4)), (1, .int a), (2, .int b), (3, .int c)] 149 [.int (dI (ra a b 1))]
  refine v_if_eq (tgt := 168) dX9_canBe_149 (by decide) (fun b149 => ?_) (fun b149 => ?_)
  · have b149 : (ra a b 1) = false := (dI_0 _).mp b149
    refine v_iconst (v := 0) dX9_canBe_168 (by decide) ?_
    exact v_zret hE rfl dX9_canBe_169 () trivial (by simp [okK, dI, *]) rfl
  · have b149 : ¬ ((ra a b 1) = false) := fun q => b149 ((dI_0 _).mpr q)
    refine v_iload_n 3 dX9_canBe_152 rfl rfl ?_
    refine v_i2l (v := c.toInt64) dX9_canBe_153 (rfl) ?_
    refine v_lconst (v := 0) dX9_canBe_154 (by decide) ?_
    refine v_ldc2 (v := 100000) k_c_SampleDeskModel_155 dX9_canBe_155 ?_
    refine v_callS (as := [.long c.toInt64, .long 0, .long 100000]) (rest := []) (ws' := fun u => []) m_SampleDeskModel_58 (kX9_within X.l (v := c.toInt64) (lo := 0) (hi := 100000)) k_code_X9_within [] rfl rfl dX9_canBe_158 (Nat.le_of_ble_eq_true rfl) ⟨rfl, rfl, by decide, by decide⟩ ⟨Nat.zero_le _, Nat.zero_le _⟩ rfl rfl (fun _ => rfl) (v_mgU rfl (fun _ => rfl)) ?_
    intro uu c158
    try dsimp only at c158
    show V (gG D cI cJ cT) X (rmD 2) cX9_canBe 4 RX9 [] 0 0 [(0, .int (nI 4)), (1, .int a), (2, .int b), (3, .int c)] 161 [.int (dI (wi c.toInt64 0 100000))]
    refine v_topi (y := dI (up c 100000)) (by rw [show (100000 : Int64) = (100000 : Int32).toInt64 by decide, wi_up]) ?_
    refine v_if_eq (tgt := 168) dX9_canBe_161 (by decide) (fun b161 => ?_) (fun b161 => ?_)
    · have b161 : (up c 100000) = false := (dI_0 _).mp b161
      refine v_iconst (v := 0) dX9_canBe_168 (by decide) ?_
      exact v_zret hE rfl dX9_canBe_169 () trivial (by simp [okK, dI, *]) rfl
    · have b161 : ¬ ((up c 100000) = false) := fun q => b161 ((dI_0 _).mpr q)
      refine v_iconst (v := 1) dX9_canBe_164 (by decide) ?_
      refine v_goto (tgt := 169) dX9_canBe_165 (by decide) ?_
      exact v_zret hE rfl dX9_canBe_169 () trivial (by simp [okK, dI, *]) rfl
set_option maxRecDepth 100000 in
set_option maxHeartbeats 1000000 in
theorem kX9_canBe_5 {D : va_G} {cI cJ cT : ClassId} (l : Launch) {a b c : Int32} : Fn (S := Unit) (gG D cI cJ cT) l yX9_canBe (.code yX9_canBe cX9_canBe 4 (some .boolean)) (rmD 2) [.int (nI 5), .int a, .int b, .int c] [] (fun _ => True) (fun u => some (.int (dI (okK 5 a b c)))) (fun u => []) := by
  refine Fn.intro (by decide) (Nat.le_of_ble_eq_true rfl) ?_
  intro X hX hE hin
  subst hX
  show V (gG D cI cJ cT) X _ cX9_canBe 4 RX9 _ 0 0 [(0, .int (nI 5)), (1, .int a), (2, .int b), (3, .int c)] 0 []
  refine v_iload_n 0 dX9_canBe_0 rfl rfl ?_
  refine v_tableIn (off := 169) (tgt := 170) dX9_canBe_1 (by decide) (by decide) (by decide) (by decide) ?_
  refine v_iload_n 2 dX9_canBe_170 rfl rfl ?_
  refine v_iconst (v := 1) dX9_canBe_171 (by decide) ?_
  refine v_icmp_lt (tgt := 194) dX9_canBe_172 (by decide) (fun b172 => ?_) (fun b172 => ?_)
  · refine v_iconst (v := 0) dX9_canBe_194 (by decide) ?_
    exact v_zret hE rfl dX9_canBe_195 () trivial (by show some (Value.int (dI (ra a b 64))) = _; rw [ra_b]; first | (rw [decide_eq_true b172]; rfl) | (rw [b187, Bool.and_false]; rfl) | (rw [eq_true_of_ne_false b187, decide_eq_false b172]; rfl)) rfl
  · refine v_iload_n 1 dX9_canBe_175 rfl rfl ?_
    refine v_i2l (v := a.toInt64) dX9_canBe_176 (rfl) ?_
    refine v_lconst (v := 0) dX9_canBe_177 (by decide) ?_
    refine v_ldc2 (v := 64) k_c_SampleDeskModel_157 dX9_canBe_178 ?_
    refine v_iload_n 2 dX9_canBe_181 rfl rfl ?_
    refine v_i2l (v := b.toInt64) dX9_canBe_182 (rfl) ?_
    refine v_lmul dX9_canBe_183 ?_
    refine v_callS (as := [.long a.toInt64, .long 0, .long (64 * b.toInt64)]) (rest := []) (ws' := fun u => []) m_SampleDeskModel_58 (kX9_within X.l (v := a.toInt64) (lo := 0) (hi := 64 * b.toInt64)) k_code_X9_within [] rfl rfl dX9_canBe_184 (Nat.le_of_ble_eq_true rfl) ⟨rfl, rfl, by decide, by decide⟩ ⟨Nat.zero_le _, Nat.zero_le _⟩ rfl rfl (fun _ => rfl) (v_mgU rfl (fun _ => rfl)) ?_
    intro uu c184
    try dsimp only at c184
    show V (gG D cI cJ cT) X (rmD 2) cX9_canBe 4 RX9 [] 0 0 [(0, .int (nI 5)), (1, .int a), (2, .int b), (3, .int c)] 187 [.int (dI (wi a.toInt64 0 (64 * b.toInt64)))]
    refine v_topi (y := dI (!decide (a < 0) && !decide (64 * b.toInt64 < a.toInt64))) (by exact congrArg dI (wi_0 _ _)) ?_
    refine v_if_eq (tgt := 194) dX9_canBe_187 (by decide) (fun b187 => ?_) (fun b187 => ?_)
    · have b187 : (!decide (a < 0) && !decide (64 * b.toInt64 < a.toInt64)) = false := (dI_0 _).mp b187
      refine v_iconst (v := 0) dX9_canBe_194 (by decide) ?_
      exact v_zret hE rfl dX9_canBe_195 () trivial (by show some (Value.int (dI (ra a b 64))) = _; rw [ra_b]; first | (rw [decide_eq_true b172]; rfl) | (rw [b187, Bool.and_false]; rfl) | (rw [eq_true_of_ne_false b187, decide_eq_false b172]; rfl)) rfl
    · have b187 : ¬ ((!decide (a < 0) && !decide (64 * b.toInt64 < a.toInt64)) = false) := fun q => b187 ((dI_0 _).mpr q)
      refine v_iconst (v := 1) dX9_canBe_190 (by decide) ?_
      refine v_goto (tgt := 195) dX9_canBe_191 (by decide) ?_
      exact v_zret hE rfl dX9_canBe_195 () trivial (by show some (Value.int (dI (ra a b 64))) = _; rw [ra_b]; first | (rw [decide_eq_true b172]; rfl) | (rw [b187, Bool.and_false]; rfl) | (rw [eq_true_of_ne_false b187, decide_eq_false b172]; rfl)) rfl
set_option maxRecDepth 100000 in
set_option maxHeartbeats 1000000 in
theorem kX9_canBe_6 {D : va_G} {cI cJ cT : ClassId} (l : Launch) {a b c : Int32} : Fn (S := Unit) (gG D cI cJ cT) l yX9_canBe (.code yX9_canBe cX9_canBe 4 (some .boolean)) (rmD 2) [.int (nI 6), .int a, .int b, .int c] [] (fun _ => True) (fun u => some (.int (dI (okK 6 a b c)))) (fun u => []) := by
  refine Fn.intro (by decide) (Nat.le_of_ble_eq_true rfl) ?_
  intro X hX hE hin
  subst hX
  show V (gG D cI cJ cT) X _ cX9_canBe 4 RX9 _ 0 0 [(0, .int (nI 6)), (1, .int a), (2, .int b), (3, .int c)] 0 []
  refine v_iload_n 0 dX9_canBe_0 rfl rfl ?_
  refine v_tableIn (off := 195) (tgt := 196) dX9_canBe_1 (by decide) (by decide) (by decide) (by decide) ?_
  refine v_iload_n 1 dX9_canBe_196 rfl rfl ?_
  refine v_i2l (v := a.toInt64) dX9_canBe_197 (rfl) ?_
  refine v_lconst (v := 0) dX9_canBe_198 (by decide) ?_
  refine v_ldc2 (v := 100000) k_c_SampleDeskModel_155 dX9_canBe_199 ?_
  refine v_callS (as := [.long a.toInt64, .long 0, .long 100000]) (rest := []) (ws' := fun u => []) m_SampleDeskModel_58 (kX9_within X.l (v := a.toInt64) (lo := 0) (hi := 100000)) k_code_X9_within [] rfl rfl dX9_canBe_202 (Nat.le_of_ble_eq_true rfl) ⟨rfl, rfl, by decide, by decide⟩ ⟨Nat.zero_le _, Nat.zero_le _⟩ rfl rfl (fun _ => rfl) (v_mgU rfl (fun _ => rfl)) ?_
  intro uu c202
  try dsimp only at c202
  show V (gG D cI cJ cT) X (rmD 2) cX9_canBe 4 RX9 [] 0 0 [(0, .int (nI 6)), (1, .int a), (2, .int b), (3, .int c)] 205 [.int (dI (wi a.toInt64 0 100000))]
  refine v_topi (y := dI (up a 100000)) (by rw [show (100000 : Int64) = (100000 : Int32).toInt64 by decide, wi_up]) ?_
  refine v_if_eq (tgt := 237) dX9_canBe_205 (by decide) (fun b205 => ?_) (fun b205 => ?_)
  · have b205 : (up a 100000) = false := (dI_0 _).mp b205
    refine v_iconst (v := 0) dX9_canBe_237 (by decide) ?_
    exact v_zret hE rfl dX9_canBe_238 () trivial (by simp [okK, dI, *]) rfl
  · have b205 : ¬ ((up a 100000) = false) := fun q => b205 ((dI_0 _).mpr q)
    refine v_iload_n 2 dX9_canBe_208 rfl rfl ?_
    refine v_i2l (v := b.toInt64) dX9_canBe_209 (rfl) ?_
    refine v_lconst (v := 0) dX9_canBe_210 (by decide) ?_
    refine v_ldc2 (v := 100000) k_c_SampleDeskModel_155 dX9_canBe_211 ?_
    refine v_callS (as := [.long b.toInt64, .long 0, .long 100000]) (rest := []) (ws' := fun u => []) m_SampleDeskModel_58 (kX9_within X.l (v := b.toInt64) (lo := 0) (hi := 100000)) k_code_X9_within [] rfl rfl dX9_canBe_214 (Nat.le_of_ble_eq_true rfl) ⟨rfl, rfl, by decide, by decide⟩ ⟨Nat.zero_le _, Nat.zero_le _⟩ rfl rfl (fun _ => rfl) (v_mgU rfl (fun _ => rfl)) ?_
    intro uu c214
    try dsimp only at c214
    show V (gG D cI cJ cT) X (rmD 2) cX9_canBe 4 RX9 [] 0 0 [(0, .int (nI 6)), (1, .int a), (2, .int b), (3, .int c)] 217 [.int (dI (wi b.toInt64 0 100000))]
    refine v_topi (y := dI (up b 100000)) (by rw [show (100000 : Int64) = (100000 : Int32).toInt64 by decide, wi_up]) ?_
    refine v_if_eq (tgt := 237) dX9_canBe_217 (by decide) (fun b217 => ?_) (fun b217 => ?_)
    · have b217 : (up b 100000) = false := (dI_0 _).mp b217
      refine v_iconst (v := 0) dX9_canBe_237 (by decide) ?_
      exact v_zret hE rfl dX9_canBe_238 () trivial (by simp [okK, dI, *]) rfl
    · have b217 : ¬ ((up b 100000) = false) := fun q => b217 ((dI_0 _).mpr q)
      refine v_iload_n 3 dX9_canBe_220 rfl rfl ?_
      refine v_i2l (v := c.toInt64) dX9_canBe_221 (rfl) ?_
      refine v_lconst (v := 0) dX9_canBe_222 (by decide) ?_
      refine v_iload_n 1 dX9_canBe_223 rfl rfl ?_
      refine v_iload_n 2 dX9_canBe_224 rfl rfl ?_
      refine v_iadd dX9_canBe_225 ?_
      refine v_i2l (v := (a + b).toInt64) dX9_canBe_226 (rfl) ?_
      refine v_callS (as := [.long c.toInt64, .long 0, .long ((a + b).toInt64)]) (rest := []) (ws' := fun u => []) m_SampleDeskModel_58 (kX9_within X.l (v := c.toInt64) (lo := 0) (hi := (a + b).toInt64)) k_code_X9_within [] rfl rfl dX9_canBe_227 (Nat.le_of_ble_eq_true rfl) ⟨rfl, rfl, by decide, by decide⟩ ⟨Nat.zero_le _, Nat.zero_le _⟩ rfl rfl (fun _ => rfl) (v_mgU rfl (fun _ => rfl)) ?_
      intro uu c227
      try dsimp only at c227
      show V (gG D cI cJ cT) X (rmD 2) cX9_canBe 4 RX9 [] 0 0 [(0, .int (nI 6)), (1, .int a), (2, .int b), (3, .int c)] 230 [.int (dI (wi c.toInt64 0 ((a + b).toInt64)))]
      refine v_topi (y := dI (up c (a + b))) (by rw [wi_up]) ?_
      refine v_if_eq (tgt := 237) dX9_canBe_230 (by decide) (fun b230 => ?_) (fun b230 => ?_)
      · have b230 : (up c (a + b)) = false := (dI_0 _).mp b230
        refine v_iconst (v := 0) dX9_canBe_237 (by decide) ?_
        exact v_zret hE rfl dX9_canBe_238 () trivial (by simp [okK, dI, *]) rfl
      · have b230 : ¬ ((up c (a + b)) = false) := fun q => b230 ((dI_0 _).mpr q)
        refine v_iconst (v := 1) dX9_canBe_233 (by decide) ?_
        refine v_goto (tgt := 238) dX9_canBe_234 (by decide) ?_
        exact v_zret hE rfl dX9_canBe_238 () trivial (by simp [okK, dI, *]) rfl
set_option maxRecDepth 100000 in
set_option maxHeartbeats 1000000 in
theorem kX9_canBe_7 {D : va_G} {cI cJ cT : ClassId} (l : Launch) {a b c : Int32} : Fn (S := Unit) (gG D cI cJ cT) l yX9_canBe (.code yX9_canBe cX9_canBe 4 (some .boolean)) (rmD 2) [.int (nI 7), .int a, .int b, .int c] [] (fun _ => True) (fun u => some (.int (dI (okK 7 a b c)))) (fun u => []) := by
  refine Fn.intro (by decide) (Nat.le_of_ble_eq_true rfl) ?_
  intro X hX hE hin
  subst hX
  show V (gG D cI cJ cT) X _ cX9_canBe 4 RX9 _ 0 0 [(0, .int (nI 7)), (1, .int a), (2, .int b), (3, .int c)] 0 []
  refine v_iload_n 0 dX9_canBe_0 rfl rfl ?_
  refine v_tableIn (off := 238) (tgt := 239) dX9_canBe_1 (by decide) (by decide) (by decide) (by decide) ?_
  refine v_iload_n 1 dX9_canBe_239 rfl rfl ?_
  refine v_i2l (v := a.toInt64) dX9_canBe_240 (rfl) ?_
  refine v_lconst (v := 1) dX9_canBe_241 (by decide) ?_
  refine v_ldc2 (v := 1000) k_c_SampleDeskModel_153 dX9_canBe_242 ?_
  refine v_callS (as := [.long a.toInt64, .long 1, .long 1000]) (rest := []) (ws' := fun u => []) m_SampleDeskModel_58 (kX9_within X.l (v := a.toInt64) (lo := 1) (hi := 1000)) k_code_X9_within [] rfl rfl dX9_canBe_245 (Nat.le_of_ble_eq_true rfl) ⟨rfl, rfl, by decide, by decide⟩ ⟨Nat.zero_le _, Nat.zero_le _⟩ rfl rfl (fun _ => rfl) (v_mgU rfl (fun _ => rfl)) ?_
  intro uu c245
  try dsimp only at c245
  show V (gG D cI cJ cT) X (rmD 2) cX9_canBe 4 RX9 [] 0 0 [(0, .int (nI 7)), (1, .int a), (2, .int b), (3, .int c)] 248 [.int (dI (wi a.toInt64 1 1000))]
  refine v_topi (y := dI (!decide (a < 1) && !decide (1000 < a))) (by rw [show (1000 : Int64) = (1000 : Int32).toInt64 by decide, wi_lo]) ?_
  refine v_if_eq (tgt := 267) dX9_canBe_248 (by decide) (fun b248 => ?_) (fun b248 => ?_)
  · have b248 : (!decide (a < 1) && !decide (1000 < a)) = false := (dI_0 _).mp b248
    refine v_iconst (v := 0) dX9_canBe_267 (by decide) ?_
    exact v_zret hE rfl dX9_canBe_268 () trivial (by simp only [okK]; rw [Bool.and_assoc (!decide (a < 1) && up a 1000), up_1, up_1]; simp only [dI, *]; try rfl) rfl
  · have b248 : ¬ ((!decide (a < 1) && !decide (1000 < a)) = false) := fun q => b248 ((dI_0 _).mpr q)
    refine v_iload_n 2 dX9_canBe_251 rfl rfl ?_
    refine v_i2l (v := b.toInt64) dX9_canBe_252 (rfl) ?_
    refine v_lconst (v := 1) dX9_canBe_253 (by decide) ?_
    refine v_ldc2 (v := 10) k_c_SampleDeskModel_159 dX9_canBe_254 ?_
    refine v_callS (as := [.long b.toInt64, .long 1, .long 10]) (rest := []) (ws' := fun u => []) m_SampleDeskModel_58 (kX9_within X.l (v := b.toInt64) (lo := 1) (hi := 10)) k_code_X9_within [] rfl rfl dX9_canBe_257 (Nat.le_of_ble_eq_true rfl) ⟨rfl, rfl, by decide, by decide⟩ ⟨Nat.zero_le _, Nat.zero_le _⟩ rfl rfl (fun _ => rfl) (v_mgU rfl (fun _ => rfl)) ?_
    intro uu c257
    try dsimp only at c257
    show V (gG D cI cJ cT) X (rmD 2) cX9_canBe 4 RX9 [] 0 0 [(0, .int (nI 7)), (1, .int a), (2, .int b), (3, .int c)] 260 [.int (dI (wi b.toInt64 1 10))]
    refine v_topi (y := dI (!decide (b < 1) && !decide (10 < b))) (by rw [show (10 : Int64) = (10 : Int32).toInt64 by decide, wi_lo]) ?_
    refine v_if_eq (tgt := 267) dX9_canBe_260 (by decide) (fun b260 => ?_) (fun b260 => ?_)
    · have b260 : (!decide (b < 1) && !decide (10 < b)) = false := (dI_0 _).mp b260
      refine v_iconst (v := 0) dX9_canBe_267 (by decide) ?_
      exact v_zret hE rfl dX9_canBe_268 () trivial (by simp only [okK]; rw [Bool.and_assoc (!decide (a < 1) && up a 1000), up_1, up_1]; simp only [dI, *]; try rfl) rfl
    · have b260 : ¬ ((!decide (b < 1) && !decide (10 < b)) = false) := fun q => b260 ((dI_0 _).mpr q)
      refine v_iconst (v := 1) dX9_canBe_263 (by decide) ?_
      refine v_goto (tgt := 268) dX9_canBe_264 (by decide) ?_
      exact v_zret hE rfl dX9_canBe_268 () trivial (by simp only [okK]; rw [Bool.and_assoc (!decide (a < 1) && up a 1000), up_1, up_1]; simp only [dI, *]; try rfl) rfl
set_option maxRecDepth 100000 in
set_option maxHeartbeats 1000000 in
theorem kX9_canBe_8 {D : va_G} {cI cJ cT : ClassId} (l : Launch) {a b c : Int32} : Fn (S := Unit) (gG D cI cJ cT) l yX9_canBe (.code yX9_canBe cX9_canBe 4 (some .boolean)) (rmD 2) [.int (nI 8), .int a, .int b, .int c] [] (fun _ => True) (fun u => some (.int (dI (okK 8 a b c)))) (fun u => []) := by
  refine Fn.intro (by decide) (Nat.le_of_ble_eq_true rfl) ?_
  intro X hX hE hin
  subst hX
  show V (gG D cI cJ cT) X _ cX9_canBe 4 RX9 _ 0 0 [(0, .int (nI 8)), (1, .int a), (2, .int b), (3, .int c)] 0 []
  refine v_iload_n 0 dX9_canBe_0 rfl rfl ?_
  refine v_tableIn (off := 268) (tgt := 269) dX9_canBe_1 (by decide) (by decide) (by decide) (by decide) ?_
  refine v_iload_n 2 dX9_canBe_269 rfl rfl ?_
  refine v_iconst (v := 1) dX9_canBe_270 (by decide) ?_
  refine v_icmp_lt (tgt := 293) dX9_canBe_271 (by decide) (fun b271 => ?_) (fun b271 => ?_)
  · refine v_iconst (v := 0) dX9_canBe_293 (by decide) ?_
    exact v_zret hE rfl dX9_canBe_294 () trivial (by show some (Value.int (dI (ra a b 1000))) = _; rw [ra_b]; first | (rw [decide_eq_true b271]; rfl) | (rw [b286, Bool.and_false]; rfl) | (rw [eq_true_of_ne_false b286, decide_eq_false b271]; rfl)) rfl
  · refine v_iload_n 1 dX9_canBe_274 rfl rfl ?_
    refine v_i2l (v := a.toInt64) dX9_canBe_275 (rfl) ?_
    refine v_lconst (v := 0) dX9_canBe_276 (by decide) ?_
    refine v_ldc2 (v := 1000) k_c_SampleDeskModel_153 dX9_canBe_277 ?_
    refine v_iload_n 2 dX9_canBe_280 rfl rfl ?_
    refine v_i2l (v := b.toInt64) dX9_canBe_281 (rfl) ?_
    refine v_lmul dX9_canBe_282 ?_
    refine v_callS (as := [.long a.toInt64, .long 0, .long (1000 * b.toInt64)]) (rest := []) (ws' := fun u => []) m_SampleDeskModel_58 (kX9_within X.l (v := a.toInt64) (lo := 0) (hi := 1000 * b.toInt64)) k_code_X9_within [] rfl rfl dX9_canBe_283 (Nat.le_of_ble_eq_true rfl) ⟨rfl, rfl, by decide, by decide⟩ ⟨Nat.zero_le _, Nat.zero_le _⟩ rfl rfl (fun _ => rfl) (v_mgU rfl (fun _ => rfl)) ?_
    intro uu c283
    try dsimp only at c283
    show V (gG D cI cJ cT) X (rmD 2) cX9_canBe 4 RX9 [] 0 0 [(0, .int (nI 8)), (1, .int a), (2, .int b), (3, .int c)] 286 [.int (dI (wi a.toInt64 0 (1000 * b.toInt64)))]
    refine v_topi (y := dI (!decide (a < 0) && !decide (1000 * b.toInt64 < a.toInt64))) (by exact congrArg dI (wi_0 _ _)) ?_
    refine v_if_eq (tgt := 293) dX9_canBe_286 (by decide) (fun b286 => ?_) (fun b286 => ?_)
    · have b286 : (!decide (a < 0) && !decide (1000 * b.toInt64 < a.toInt64)) = false := (dI_0 _).mp b286
      refine v_iconst (v := 0) dX9_canBe_293 (by decide) ?_
      exact v_zret hE rfl dX9_canBe_294 () trivial (by show some (Value.int (dI (ra a b 1000))) = _; rw [ra_b]; first | (rw [decide_eq_true b271]; rfl) | (rw [b286, Bool.and_false]; rfl) | (rw [eq_true_of_ne_false b286, decide_eq_false b271]; rfl)) rfl
    · have b286 : ¬ ((!decide (a < 0) && !decide (1000 * b.toInt64 < a.toInt64)) = false) := fun q => b286 ((dI_0 _).mpr q)
      refine v_iconst (v := 1) dX9_canBe_289 (by decide) ?_
      refine v_goto (tgt := 294) dX9_canBe_290 (by decide) ?_
      exact v_zret hE rfl dX9_canBe_294 () trivial (by show some (Value.int (dI (ra a b 1000))) = _; rw [ra_b]; first | (rw [decide_eq_true b271]; rfl) | (rw [b286, Bool.and_false]; rfl) | (rw [eq_true_of_ne_false b286, decide_eq_false b271]; rfl)) rfl
set_option maxRecDepth 100000 in
set_option maxHeartbeats 1000000 in
theorem kX9_canBe_9 {D : va_G} {cI cJ cT : ClassId} (l : Launch) {a b c : Int32} : Fn (S := Unit) (gG D cI cJ cT) l yX9_canBe (.code yX9_canBe cX9_canBe 4 (some .boolean)) (rmD 2) [.int (nI 9), .int a, .int b, .int c] [] (fun _ => True) (fun u => some (.int (dI (okK 9 a b c)))) (fun u => []) := by
  refine Fn.intro (by decide) (Nat.le_of_ble_eq_true rfl) ?_
  intro X hX hE hin
  subst hX
  show V (gG D cI cJ cT) X _ cX9_canBe 4 RX9 _ 0 0 [(0, .int (nI 9)), (1, .int a), (2, .int b), (3, .int c)] 0 []
  refine v_iload_n 0 dX9_canBe_0 rfl rfl ?_
  refine v_tableIn (off := 294) (tgt := 295) dX9_canBe_1 (by decide) (by decide) (by decide) (by decide) ?_
  refine v_iload_n 1 dX9_canBe_295 rfl rfl ?_
  refine v_i2l (v := a.toInt64) dX9_canBe_296 (rfl) ?_
  refine v_lconst (v := 0) dX9_canBe_297 (by decide) ?_
  refine v_ldc2 (v := 256) k_c_SampleDeskModel_161 dX9_canBe_298 ?_
  refine v_callS (as := [.long a.toInt64, .long 0, .long 256]) (rest := []) (ws' := fun u => []) m_SampleDeskModel_58 (kX9_within X.l (v := a.toInt64) (lo := 0) (hi := 256)) k_code_X9_within [] rfl rfl dX9_canBe_301 (Nat.le_of_ble_eq_true rfl) ⟨rfl, rfl, by decide, by decide⟩ ⟨Nat.zero_le _, Nat.zero_le _⟩ rfl rfl (fun _ => rfl) (v_mgU rfl (fun _ => rfl)) ?_
  intro uu c301
  try dsimp only at c301
  show V (gG D cI cJ cT) X (rmD 2) cX9_canBe 4 RX9 [] 0 0 [(0, .int (nI 9)), (1, .int a), (2, .int b), (3, .int c)] 304 [.int (dI (wi a.toInt64 0 256))]
  refine v_topi (y := dI (up a 256)) (by rw [show (256 : Int64) = (256 : Int32).toInt64 by decide, wi_up]) ?_
  exact v_zret hE (dI_nar _) dX9_canBe_304 () trivial rfl rfl
set_option maxRecDepth 100000 in
set_option maxHeartbeats 1000000 in
theorem kX9_canBe_10 {D : va_G} {cI cJ cT : ClassId} (l : Launch) {a b c : Int32} : Fn (S := Unit) (gG D cI cJ cT) l yX9_canBe (.code yX9_canBe cX9_canBe 4 (some .boolean)) (rmD 2) [.int (nI 10), .int a, .int b, .int c] [] (fun _ => True) (fun u => some (.int (dI (okK 10 a b c)))) (fun u => []) := by
  refine Fn.intro (by decide) (Nat.le_of_ble_eq_true rfl) ?_
  intro X hX hE hin
  subst hX
  show V (gG D cI cJ cT) X _ cX9_canBe 4 RX9 _ 0 0 [(0, .int (nI 10)), (1, .int a), (2, .int b), (3, .int c)] 0 []
  refine v_iload_n 0 dX9_canBe_0 rfl rfl ?_
  refine v_tableIn (off := 304) (tgt := 305) dX9_canBe_1 (by decide) (by decide) (by decide) (by decide) ?_
  refine v_iload_n 1 dX9_canBe_305 rfl rfl ?_
  refine v_i2l (v := a.toInt64) dX9_canBe_306 (rfl) ?_
  refine v_lconst (v := 0) dX9_canBe_307 (by decide) ?_
  refine v_ldc2 (v := 256) k_c_SampleDeskModel_161 dX9_canBe_308 ?_
  refine v_callS (as := [.long a.toInt64, .long 0, .long 256]) (rest := []) (ws' := fun u => []) m_SampleDeskModel_58 (kX9_within X.l (v := a.toInt64) (lo := 0) (hi := 256)) k_code_X9_within [] rfl rfl dX9_canBe_311 (Nat.le_of_ble_eq_true rfl) ⟨rfl, rfl, by decide, by decide⟩ ⟨Nat.zero_le _, Nat.zero_le _⟩ rfl rfl (fun _ => rfl) (v_mgU rfl (fun _ => rfl)) ?_
  intro uu c311
  try dsimp only at c311
  show V (gG D cI cJ cT) X (rmD 2) cX9_canBe 4 RX9 [] 0 0 [(0, .int (nI 10)), (1, .int a), (2, .int b), (3, .int c)] 314 [.int (dI (wi a.toInt64 0 256))]
  refine v_topi (y := dI (up a 256)) (by rw [show (256 : Int64) = (256 : Int32).toInt64 by decide, wi_up]) ?_
  refine v_if_eq (tgt := 332) dX9_canBe_314 (by decide) (fun b314 => ?_) (fun b314 => ?_)
  · have b314 : (up a 256) = false := (dI_0 _).mp b314
    refine v_iconst (v := 0) dX9_canBe_332 (by decide) ?_
    exact v_zret hE rfl dX9_canBe_333 () trivial (by simp [okK, dI, *]) rfl
  · have b314 : ¬ ((up a 256) = false) := fun q => b314 ((dI_0 _).mpr q)
    refine v_iload_n 2 dX9_canBe_317 rfl rfl ?_
    refine v_i2l (v := b.toInt64) dX9_canBe_318 (rfl) ?_
    refine v_lconst (v := 0) dX9_canBe_319 (by decide) ?_
    refine v_iload_n 1 dX9_canBe_320 rfl rfl ?_
    refine v_i2l (v := a.toInt64) dX9_canBe_321 (rfl) ?_
    refine v_callS (as := [.long b.toInt64, .long 0, .long a.toInt64]) (rest := []) (ws' := fun u => []) m_SampleDeskModel_58 (kX9_within X.l (v := b.toInt64) (lo := 0) (hi := a.toInt64)) k_code_X9_within [] rfl rfl dX9_canBe_322 (Nat.le_of_ble_eq_true rfl) ⟨rfl, rfl, by decide, by decide⟩ ⟨Nat.zero_le _, Nat.zero_le _⟩ rfl rfl (fun _ => rfl) (v_mgU rfl (fun _ => rfl)) ?_
    intro uu c322
    try dsimp only at c322
    show V (gG D cI cJ cT) X (rmD 2) cX9_canBe 4 RX9 [] 0 0 [(0, .int (nI 10)), (1, .int a), (2, .int b), (3, .int c)] 325 [.int (dI (wi b.toInt64 0 a.toInt64))]
    refine v_topi (y := dI (up b a)) (by rw [wi_up]) ?_
    refine v_if_eq (tgt := 332) dX9_canBe_325 (by decide) (fun b325 => ?_) (fun b325 => ?_)
    · have b325 : (up b a) = false := (dI_0 _).mp b325
      refine v_iconst (v := 0) dX9_canBe_332 (by decide) ?_
      exact v_zret hE rfl dX9_canBe_333 () trivial (by simp [okK, dI, *]) rfl
    · have b325 : ¬ ((up b a) = false) := fun q => b325 ((dI_0 _).mpr q)
      refine v_iconst (v := 1) dX9_canBe_328 (by decide) ?_
      refine v_goto (tgt := 333) dX9_canBe_329 (by decide) ?_
      exact v_zret hE rfl dX9_canBe_333 () trivial (by simp [okK, dI, *]) rfl
set_option maxRecDepth 100000 in
set_option maxHeartbeats 1000000 in
theorem kX9_canBe_11 {D : va_G} {cI cJ cT : ClassId} (l : Launch) {a b c : Int32} : Fn (S := Unit) (gG D cI cJ cT) l yX9_canBe (.code yX9_canBe cX9_canBe 4 (some .boolean)) (rmD 2) [.int (nI 11), .int a, .int b, .int c] [] (fun _ => True) (fun u => some (.int (dI (okK 11 a b c)))) (fun u => []) := by
  refine Fn.intro (by decide) (Nat.le_of_ble_eq_true rfl) ?_
  intro X hX hE hin
  subst hX
  show V (gG D cI cJ cT) X _ cX9_canBe 4 RX9 _ 0 0 [(0, .int (nI 11)), (1, .int a), (2, .int b), (3, .int c)] 0 []
  refine v_iload_n 0 dX9_canBe_0 rfl rfl ?_
  refine v_tableIn (off := 333) (tgt := 334) dX9_canBe_1 (by decide) (by decide) (by decide) (by decide) ?_
  refine v_iload_n 1 dX9_canBe_334 rfl rfl ?_
  refine v_i2l (v := a.toInt64) dX9_canBe_335 (rfl) ?_
  refine v_lconst (v := 0) dX9_canBe_336 (by decide) ?_
  refine v_ldc2 (v := 128) k_c_SampleDeskModel_163 dX9_canBe_337 ?_
  refine v_callS (as := [.long a.toInt64, .long 0, .long 128]) (rest := []) (ws' := fun u => []) m_SampleDeskModel_58 (kX9_within X.l (v := a.toInt64) (lo := 0) (hi := 128)) k_code_X9_within [] rfl rfl dX9_canBe_340 (Nat.le_of_ble_eq_true rfl) ⟨rfl, rfl, by decide, by decide⟩ ⟨Nat.zero_le _, Nat.zero_le _⟩ rfl rfl (fun _ => rfl) (v_mgU rfl (fun _ => rfl)) ?_
  intro uu c340
  try dsimp only at c340
  show V (gG D cI cJ cT) X (rmD 2) cX9_canBe 4 RX9 [] 0 0 [(0, .int (nI 11)), (1, .int a), (2, .int b), (3, .int c)] 343 [.int (dI (wi a.toInt64 0 128))]
  refine v_topi (y := dI (up a 128)) (by rw [show (128 : Int64) = (128 : Int32).toInt64 by decide, wi_up]) ?_
  exact v_zret hE (dI_nar _) dX9_canBe_343 () trivial rfl rfl
set_option maxRecDepth 100000 in
set_option maxHeartbeats 1000000 in
theorem kX9_canBe_12 {D : va_G} {cI cJ cT : ClassId} (l : Launch) {a b c : Int32} : Fn (S := Unit) (gG D cI cJ cT) l yX9_canBe (.code yX9_canBe cX9_canBe 4 (some .boolean)) (rmD 2) [.int (nI 12), .int a, .int b, .int c] [] (fun _ => True) (fun u => some (.int (dI (okK 12 a b c)))) (fun u => []) := by
  refine Fn.intro (by decide) (Nat.le_of_ble_eq_true rfl) ?_
  intro X hX hE hin
  subst hX
  show V (gG D cI cJ cT) X _ cX9_canBe 4 RX9 _ 0 0 [(0, .int (nI 12)), (1, .int a), (2, .int b), (3, .int c)] 0 []
  refine v_iload_n 0 dX9_canBe_0 rfl rfl ?_
  refine v_tableIn (off := 343) (tgt := 344) dX9_canBe_1 (by decide) (by decide) (by decide) (by decide) ?_
  refine v_iload_n 1 dX9_canBe_344 rfl rfl ?_
  refine v_i2l (v := a.toInt64) dX9_canBe_345 (rfl) ?_
  refine v_lconst (v := 0) dX9_canBe_346 (by decide) ?_
  refine v_ldc2 (v := 128) k_c_SampleDeskModel_163 dX9_canBe_347 ?_
  refine v_callS (as := [.long a.toInt64, .long 0, .long 128]) (rest := []) (ws' := fun u => []) m_SampleDeskModel_58 (kX9_within X.l (v := a.toInt64) (lo := 0) (hi := 128)) k_code_X9_within [] rfl rfl dX9_canBe_350 (Nat.le_of_ble_eq_true rfl) ⟨rfl, rfl, by decide, by decide⟩ ⟨Nat.zero_le _, Nat.zero_le _⟩ rfl rfl (fun _ => rfl) (v_mgU rfl (fun _ => rfl)) ?_
  intro uu c350
  try dsimp only at c350
  show V (gG D cI cJ cT) X (rmD 2) cX9_canBe 4 RX9 [] 0 0 [(0, .int (nI 12)), (1, .int a), (2, .int b), (3, .int c)] 353 [.int (dI (wi a.toInt64 0 128))]
  refine v_topi (y := dI (up a 128)) (by rw [show (128 : Int64) = (128 : Int32).toInt64 by decide, wi_up]) ?_
  exact v_zret hE (dI_nar _) dX9_canBe_353 () trivial rfl rfl
set_option maxRecDepth 100000 in
set_option maxHeartbeats 1000000 in
theorem kX9_canBe_13 {D : va_G} {cI cJ cT : ClassId} (l : Launch) {a b c : Int32} : Fn (S := Unit) (gG D cI cJ cT) l yX9_canBe (.code yX9_canBe cX9_canBe 4 (some .boolean)) (rmD 2) [.int (nI 13), .int a, .int b, .int c] [] (fun _ => True) (fun u => some (.int (dI (okK 13 a b c)))) (fun u => []) := by
  refine Fn.intro (by decide) (Nat.le_of_ble_eq_true rfl) ?_
  intro X hX hE hin
  subst hX
  show V (gG D cI cJ cT) X _ cX9_canBe 4 RX9 _ 0 0 [(0, .int (nI 13)), (1, .int a), (2, .int b), (3, .int c)] 0 []
  refine v_iload_n 0 dX9_canBe_0 rfl rfl ?_
  refine v_tableIn (off := 353) (tgt := 354) dX9_canBe_1 (by decide) (by decide) (by decide) (by decide) ?_
  refine v_iload_n 1 dX9_canBe_354 rfl rfl ?_
  refine v_i2l (v := a.toInt64) dX9_canBe_355 (rfl) ?_
  refine v_lconst (v := 0) dX9_canBe_356 (by decide) ?_
  refine v_ldc2 (v := 256) k_c_SampleDeskModel_161 dX9_canBe_357 ?_
  refine v_callS (as := [.long a.toInt64, .long 0, .long 256]) (rest := []) (ws' := fun u => []) m_SampleDeskModel_58 (kX9_within X.l (v := a.toInt64) (lo := 0) (hi := 256)) k_code_X9_within [] rfl rfl dX9_canBe_360 (Nat.le_of_ble_eq_true rfl) ⟨rfl, rfl, by decide, by decide⟩ ⟨Nat.zero_le _, Nat.zero_le _⟩ rfl rfl (fun _ => rfl) (v_mgU rfl (fun _ => rfl)) ?_
  intro uu c360
  try dsimp only at c360
  show V (gG D cI cJ cT) X (rmD 2) cX9_canBe 4 RX9 [] 0 0 [(0, .int (nI 13)), (1, .int a), (2, .int b), (3, .int c)] 363 [.int (dI (wi a.toInt64 0 256))]
  refine v_topi (y := dI (up a 256)) (by rw [show (256 : Int64) = (256 : Int32).toInt64 by decide, wi_up]) ?_
  refine v_if_eq (tgt := 381) dX9_canBe_363 (by decide) (fun b363 => ?_) (fun b363 => ?_)
  · have b363 : (up a 256) = false := (dI_0 _).mp b363
    refine v_iconst (v := 0) dX9_canBe_381 (by decide) ?_
    exact v_zret hE rfl dX9_canBe_382 () trivial (by simp [okK, dI, *]) rfl
  · have b363 : ¬ ((up a 256) = false) := fun q => b363 ((dI_0 _).mpr q)
    refine v_iload_n 2 dX9_canBe_366 rfl rfl ?_
    refine v_iconst (v := 1) dX9_canBe_367 (by decide) ?_
    refine v_icmp_lt (tgt := 381) dX9_canBe_368 (by decide) (fun b368 => ?_) (fun b368 => ?_)
    · refine v_iconst (v := 0) dX9_canBe_381 (by decide) ?_
      exact v_zret hE rfl dX9_canBe_382 () trivial (by simp [okK, dI, *]) rfl
    · refine v_iload_n 1 dX9_canBe_371 rfl rfl ?_
      refine v_iload_n 2 dX9_canBe_372 rfl rfl ?_
      refine v_irem dX9_canBe_373 (fun q => absurd b368 (by rw [q]; decide)) ?_
      refine v_if_ne (tgt := 381) dX9_canBe_374 (by decide) (fun b374 => ?_) (fun b374 => ?_)
      · refine v_iconst (v := 0) dX9_canBe_381 (by decide) ?_
        exact v_zret hE rfl dX9_canBe_382 () trivial (by simp [okK, dI, *]) rfl
      · refine v_iconst (v := 1) dX9_canBe_377 (by decide) ?_
        refine v_goto (tgt := 382) dX9_canBe_378 (by decide) ?_
        exact v_zret hE rfl dX9_canBe_382 () trivial (by simp [okK, dI, *]) rfl
set_option maxRecDepth 100000 in
set_option maxHeartbeats 1000000 in
theorem kX9_canBe_x {D : va_G} {cI cJ cT : ClassId} (l : Launch) {kd a b c : Int32} (hk : kd.toInt < 0 ∨ 13 < kd.toInt) : Fn (S := Unit) (gG D cI cJ cT) l yX9_canBe (.code yX9_canBe cX9_canBe 4 (some .boolean)) (rmD 2) [.int kd, .int a, .int b, .int c] [] (fun _ => True) (fun u => some (.int (dI false))) (fun u => []) := by
  refine Fn.intro (by decide) (Nat.le_of_ble_eq_true rfl) ?_
  intro X hX hE hin
  subst hX
  show V (gG D cI cJ cT) X _ cX9_canBe 4 RX9 _ 0 0 [(0, .int kd), (1, .int a), (2, .int b), (3, .int c)] 0 []
  refine v_iload_n 0 dX9_canBe_0 rfl rfl ?_
  refine v_tableOut (tgt := 383) dX9_canBe_1 (hk) (by decide) ?_
  refine v_iconst (v := 0) dX9_canBe_383 (by decide) ?_
  exact v_zret hE rfl dX9_canBe_384 () trivial rfl rfl
theorem kX9_canBe {D : va_G} {cI cJ cT : ClassId} (l : Launch) {kd a b c : Int32} : Fn (S := Unit) (gG D cI cJ cT) l yX9_canBe (.code yX9_canBe cX9_canBe 4 (some .boolean)) (rmD 2) [.int kd, .int a, .int b, .int c] [] (fun _ => True) (fun u => some (.int (dI (okD kd a b c)))) (fun u => []) := by
  rcases sw14 kd with h | ⟨k, hk, rfl⟩
  · rw [show okD kd a b c = false from if_pos h]
    exact kX9_canBe_x l h
  · rcases (show k = 0 ∨ k = 1 ∨ k = 2 ∨ k = 3 ∨ k = 4 ∨ k = 5 ∨ k = 6 ∨ k = 7 ∨ k = 8 ∨ k = 9 ∨ k = 10 ∨ k = 11 ∨ k = 12 ∨ k = 13 by omega) with rfl | rfl | rfl | rfl | rfl | rfl | rfl | rfl | rfl | rfl | rfl | rfl | rfl | rfl
    · rw [okD_k (by decide)]; exact kX9_canBe_0 l
    · rw [okD_k (by decide)]; exact kX9_canBe_1 l
    · rw [okD_k (by decide)]; exact kX9_canBe_2 l
    · rw [okD_k (by decide)]; exact kX9_canBe_3 l
    · rw [okD_k (by decide)]; exact kX9_canBe_4 l
    · rw [okD_k (by decide)]; exact kX9_canBe_5 l
    · rw [okD_k (by decide)]; exact kX9_canBe_6 l
    · rw [okD_k (by decide)]; exact kX9_canBe_7 l
    · rw [okD_k (by decide)]; exact kX9_canBe_8 l
    · rw [okD_k (by decide)]; exact kX9_canBe_9 l
    · rw [okD_k (by decide)]; exact kX9_canBe_10 l
    · rw [okD_k (by decide)]; exact kX9_canBe_11 l
    · rw [okD_k (by decide)]; exact kX9_canBe_12 l
    · rw [okD_k (by decide)]; exact kX9_canBe_13 l
set_option maxRecDepth 100000 in
set_option maxHeartbeats 1000000 in
theorem kX9_fail {D : va_G} {cI cJ cT : ClassId} (l : Launch) {m mt mw mb ml mq mz ms mr mi mk mj mn : Nat} {th fd0 pc0 dw0 lt0 ic0 tr0 sg0 ln0 at0 rd0 dr0 ma0 en0 : Int32} {cd : Int32}  : Fn (S := Unit) (gG D cI cJ cT) l yX9_fail (.code yX9_fail cX9_fail 2 (some .int)) (rmD 0) [.ref m, .int cd] [(m, .inr (9, [.int th, .int fd0, .int pc0, .int dw0, .int lt0, .ref mt, .ref mw, .ref mb, .ref ml, .ref mq, .ref mz, .ref ms, .ref mr, .int ic0, .ref mi, .int tr0, .int sg0, .int ln0, .int at0, .int rd0, .int dr0, .int ma0, .ref mk, .int en0, .ref mj, .ref mn]))] (fun _ => True) (fun u => some (.int (nI 0))) (fun u => [(m, .inr (9, [.int cd, .int fd0, .int pc0, .int dw0, .int lt0, .ref mt, .ref mw, .ref mb, .ref ml, .ref mq, .ref mz, .ref ms, .ref mr, .int ic0, .ref mi, .int tr0, .int sg0, .int ln0, .int at0, .int rd0, .int dr0, .int ma0, .ref mk, .int en0, .ref mj, .ref mn]))]) := by
  refine Fn.intro (by decide) (Nat.le_of_ble_eq_true rfl) ?_
  intro X hX hE hin
  subst hX
  show V (gG D cI cJ cT) X _ cX9_fail 2 RX9 _ 0 0 [(0, .ref m), (1, .int cd)] 0 []
  refine v_aload_n 0 dX9_fail_0 rfl rfl ?_
  refine v_iload_n 1 dX9_fail_1 rfl rfl ?_
  refine v_put (ws' := [(m, .inr (9, [.int cd, .int fd0, .int pc0, .int dw0, .int lt0, .ref mt, .ref mw, .ref mb, .ref ml, .ref mq, .ref mz, .ref ms, .ref mr, .int ic0, .ref mi, .int tr0, .int sg0, .int ln0, .int at0, .int rd0, .int dr0, .int ma0, .ref mk, .int en0, .ref mj, .ref mn]))]) fw_SampleDeskModel_47 0 rfl (rfl) (rfl) (Nat.le_of_ble_eq_true rfl) dX9_fail_2 rfl ?_
  refine v_iconst (v := nI 0) dX9_fail_5 (by decide) ?_
  exact v_iret hE dX9_fail_6 () (trivial) rfl rfl
set_option maxRecDepth 100000 in
set_option maxHeartbeats 1000000 in
theorem kX9_thrown {D : va_G} {cI cJ cT : ClassId} (l : Launch) {m mt mw mb ml mq mz ms mr mi mk mj mn : Nat} {th fd0 pc0 dw0 lt0 ic0 tr0 sg0 ln0 at0 rd0 dr0 ma0 en0 : Int32}   : Fn (S := Unit) (gG D cI cJ cT) l yX9_thrown (.code yX9_thrown cX9_thrown 1 (some .int)) (rmD 0) [.ref m] [(m, .inr (9, [.int th, .int fd0, .int pc0, .int dw0, .int lt0, .ref mt, .ref mw, .ref mb, .ref ml, .ref mq, .ref mz, .ref ms, .ref mr, .int ic0, .ref mi, .int tr0, .int sg0, .int ln0, .int at0, .int rd0, .int dr0, .int ma0, .ref mk, .int en0, .ref mj, .ref mn]))] (fun _ => True) (fun u => some (.int th)) (fun u => [(m, .inr (9, [.int th, .int fd0, .int pc0, .int dw0, .int lt0, .ref mt, .ref mw, .ref mb, .ref ml, .ref mq, .ref mz, .ref ms, .ref mr, .int ic0, .ref mi, .int tr0, .int sg0, .int ln0, .int at0, .int rd0, .int dr0, .int ma0, .ref mk, .int en0, .ref mj, .ref mn]))]) := by
  refine Fn.intro (by decide) (Nat.le_of_ble_eq_true rfl) ?_
  intro X hX hE hin
  subst hX
  show V (gG D cI cJ cT) X _ cX9_thrown 1 RX9 _ 0 0 [(0, .ref m)] 0 []
  refine v_aload_n 0 dX9_thrown_0 rfl rfl ?_
  refine v_get f_SampleDeskModel_47 0 rfl rfl dX9_thrown_1 ?_
  exact v_iret hE dX9_thrown_4 () (trivial) rfl rfl
def rdM (kd : Int32) (M : Nat) : Bool := !decide (kd = 0) || !decide (M ≤ 0)
set_option maxRecDepth 100000 in
set_option maxHeartbeats 1000000 in
theorem kX9_isReady {D : va_G} {cI cJ cT : ClassId} (l : Launch) {m mt mw mb ml mq mz ms mr mi mk mj mn : Nat} {th fd0 pc0 dw0 lt0 ic0 tr0 sg0 ln0 at0 rd0 dr0 ma0 en0 : Int32} {kd a : Int32} {y M : Nat} {gB : Nat → Int32} (hz : kd = 0 → a = nI y ∧ y < 8 ∧ gB y = nI M) (hM : M ≤ 2) : Fn (S := Unit) (gG D cI cJ cT) l yX9_isReady (.code yX9_isReady cX9_isReady 3 (some .boolean)) (rmD 0) [.ref m, .int kd, .int a] [(m, .inr (9, [.int th, .int fd0, .int pc0, .int dw0, .int lt0, .ref mt, .ref mw, .ref mb, .ref ml, .ref mq, .ref mz, .ref ms, .ref mr, .int ic0, .ref mi, .int tr0, .int sg0, .int ln0, .int at0, .int rd0, .int dr0, .int ma0, .ref mk, .int en0, .ref mj, .ref mn])), (mb, .inl (cI, 8, .inl gB))] (fun _ => True) (fun u => some (.int (dI (rdM kd M)))) (fun u => [(m, .inr (9, [.int th, .int fd0, .int pc0, .int dw0, .int lt0, .ref mt, .ref mw, .ref mb, .ref ml, .ref mq, .ref mz, .ref ms, .ref mr, .int ic0, .ref mi, .int tr0, .int sg0, .int ln0, .int at0, .int rd0, .int dr0, .int ma0, .ref mk, .int en0, .ref mj, .ref mn])), (mb, .inl (cI, 8, .inl gB))]) := by
  refine Fn.intro (by decide) (Nat.le_of_ble_eq_true rfl) ?_
  intro X hX hE hin
  subst hX
  show V (gG D cI cJ cT) X _ cX9_isReady 3 RX9 _ 0 0 [(0, .ref m), (1, .int kd), (2, .int a)] 0 []
  refine v_iload_n 1 dX9_isReady_0 rfl rfl ?_
  refine v_if_ne (tgt := 13) dX9_isReady_1 (by decide) (fun b1 => ?_) (fun b1 => ?_)
  · refine v_iconst (v := 1) dX9_isReady_13 (by decide) ?_
    refine v_goto (tgt := 18) dX9_isReady_14 (by decide) ?_
    exact v_zret hE rfl dX9_isReady_18 () trivial (by simp [rdM, dI, *]) rfl
  · obtain ⟨ea, hy, hg⟩ := hz b1
    subst ea
    refine v_aload_n 0 dX9_isReady_4 rfl rfl ?_
    refine v_get f_SampleDeskModel_17 0 rfl rfl dX9_isReady_5 ?_
    refine v_iload_n 2 dX9_isReady_8 rfl rfl ?_
    refine v_iald 0 1 rfl rfl (by omega) (by omega) dX9_isReady_9 ?_
    refine v_topi (y := nI M) (hg) ?_
    refine v_if_le (tgt := 17) dX9_isReady_10 (by decide) (fun b10 => ?_) (fun b10 => ?_)
    · have b10 : M ≤ 0 := ((show nI M ≤ 0 ↔ M ≤ 0 from nI_leI (b := 0) (by omega) (by decide))).mp b10
      refine v_iconst (v := 0) dX9_isReady_17 (by decide) ?_
      exact v_zret hE rfl dX9_isReady_18 () trivial (by simp [rdM, dI, *]) rfl
    · have b10 : ¬ (M ≤ 0) := fun q => b10 (((show nI M ≤ 0 ↔ M ≤ 0 from nI_leI (b := 0) (by omega) (by decide))).mpr q)
      refine v_iconst (v := 1) dX9_isReady_13 (by decide) ?_
      refine v_goto (tgt := 18) dX9_isReady_14 (by decide) ?_
      exact v_zret hE rfl dX9_isReady_18 () trivial (by simp [rdM, dI, *]) rfl
