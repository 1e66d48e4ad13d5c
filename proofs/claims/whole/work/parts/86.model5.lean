/-! THE REFERENCE: aliases -/
theorem lim_step {n S q j v y : Nat} {s : Nat → Nat} {D : Nat → Bool} {g : Nat → Int64} (hq : q < n) (hqs : s q < S) (hj : S ≤ s j) (hD : ∀ i, i < n → D i = true → s i < S) (h : ∀ x, x < n → g (64 * y + x) = lN (if D x then s x else S)) : ∀ x, x < n → vp_updL g (64 * y + q) (lN (s q)) (64 * y + x) = lN (if (if x = q then true else D x) then fU s j v x else S) := by
  intro x hx
  unfold vp_updL
  by_cases e : x = q
  · subst e
    rw [if_pos rfl, if_pos rfl, if_pos rfl]
    congr 1
    unfold fU
    rw [if_neg (fun e2 => by rw [e2] at hqs; omega)]
  · rw [if_neg (by omega), if_neg e, h x hx]
    cases hDx : D x
    · simp
    · have := hD x hx hDx
      simp only [if_true]
      congr 1
      unfold fU
      rw [if_neg (fun e2 => by rw [e2] at this; omega)]
theorem ali_step {n q j y : Nat} {A : Nat → Nat} {g : Nat → Int32} (h : ∀ x, x < n → g (64 * y + x) = nI (A x)) : ∀ x, x < n → upd g (64 * y + q) (nI j) (64 * y + x) = nI (fU A q j x) := by
  intro x hx
  unfold upd fU
  by_cases e : x = q
  · subst e; simp
  · rw [if_neg (by omega), if_neg e, h x hx]
theorem row_step {cnt j : Nat} {Q : Nat → Nat} {g : Nat → Int32} (h : ∀ d, d < cnt → g d = nI (Q d)) : ∀ d, d < cnt + 1 → upd g cnt (nI j) d = nI (fU Q cnt j d) := by
  intro d hd
  unfold upd fU
  by_cases e : d = cnt
  · simp [e]
  · simp [e, h d (by omega)]
theorem outL {y q : Nat} {g g0 : Nat → Int64} {v : Int64} (hq : q < 64) (h : ∀ z, ¬ (64 * y ≤ z ∧ z < 64 * y + 64) → g z = g0 z) : ∀ z, ¬ (64 * y ≤ z ∧ z < 64 * y + 64) → vp_updL g (64 * y + q) v z = g0 z := by
  intro z hz
  unfold vp_updL
  rw [if_neg (by omega)]
  exact h z hz
theorem outI {y q : Nat} {g g0 : Nat → Int32} {v : Int32} (hq : q < 64) (h : ∀ z, ¬ (64 * y ≤ z ∧ z < 64 * y + 64) → g z = g0 z) : ∀ z, ¬ (64 * y ≤ z ∧ z < 64 * y + 64) → upd g (64 * y + q) v z = g0 z := by
  intro z hz
  unfold upd
  rw [if_neg (by omega)]
  exact h z hz
set_option maxRecDepth 100000 in
set_option maxHeartbeats 400000 in
theorem kX9_al_first {D : va_G} {cI cJ cT : ClassId} {X : vX} {m mt mw mb ml mq mz ms mr mi mk mj mn : Nat} {th fd0 pc0 dw0 lt0 ic0 tr0 sg0 ln0 at0 rd0 dr0 ma0 en0 : Int32} {y n sm cnt dn qq jl : Nat} {gW gS gL : Nat → Int64} {gQ gR gZ : Nat → Int32} {s : Nat → Nat} (hn : n ≤ 64) (hsm : sm < 2 ^ 40) (hgs : ∀ x, x < n → gS x = lN (s x)) (hsb : ∀ x, x < n → s x < 2 ^ 40) (hjl : jl < n) (hl : ∀ x, x < jl → s x < sm) (hge : sm ≤ s jl) (hq : V (gG D cI cJ cT) X (rmD 1) cX9_findAliases 9 RX9 [(m, .inr (9, [.int th, .int fd0, .int pc0, .int dw0, .int lt0, .ref mt, .ref mw, .ref mb, .ref ml, .ref mq, .ref mz, .ref ms, .ref mr, .int ic0, .ref mi, .int tr0, .int sg0, .int ln0, .int at0, .int rd0, .int dr0, .int ma0, .ref mk, .int en0, .ref mj, .ref mn])), (mw, .inl (cJ, 512, .inr (.inl gW))), (ms, .inl (cJ, 64, .inr (.inl gS))), (ml, .inl (cJ, 512, .inr (.inl gL))), (mq, .inl (cI, 512, .inl gQ)), (mz, .inl (cI, 8, .inl gZ)), (mr, .inl (cI, 512, .inl gR))] 0 0 [(0, .ref m), (1, .int (nI y)), (2, .long (lN sm)), (4, .int (nI n)), (5, .int (nI cnt)), (6, .int (nI dn)), (7, .int (nI qq)), (8, .int (nI jl))] 194 [])  :
    ∀ (k : Nat) (j : Nat), jl - j < k → j ≤ jl → V (gG D cI cJ cT) X (rmD 1) cX9_findAliases 9 RX9 [(m, .inr (9, [.int th, .int fd0, .int pc0, .int dw0, .int lt0, .ref mt, .ref mw, .ref mb, .ref ml, .ref mq, .ref mz, .ref ms, .ref mr, .int ic0, .ref mi, .int tr0, .int sg0, .int ln0, .int at0, .int rd0, .int dr0, .int ma0, .ref mk, .int en0, .ref mj, .ref mn])), (mw, .inl (cJ, 512, .inr (.inl gW))), (ms, .inl (cJ, 64, .inr (.inl gS))), (ml, .inl (cJ, 512, .inr (.inl gL))), (mq, .inl (cI, 512, .inl gQ)), (mz, .inl (cI, 8, .inl gZ)), (mr, .inl (cI, 512, .inl gR))] 0 0 [(0, .ref m), (1, .int (nI y)), (2, .long (lN sm)), (4, .int (nI n)), (5, .int (nI cnt)), (6, .int (nI dn)), (7, .int (nI qq)), (8, .int (nI j))] 176 [] := by
  intro k
  induction k with
  | zero => intro j hk hj; omega
  | succ k ih =>
    intro j hk hj
    refine v_aload_n 0 dX9_findAliases_176 rfl rfl ?_
    refine v_get f_SampleDeskModel_29 0 rfl rfl dX9_findAliases_177 ?_
    refine v_iload 7 dX9_findAliases_180 rfl ?_
    refine v_lald 1 2 rfl rfl (by omega) (by omega) dX9_findAliases_182 ?_
    have hjn : j < n := by omega
    have hsj := hsb j hjn
    refine v_topl (y := lN (s j)) (hgs j hjn) ?_
    refine v_lload_n 2 dX9_findAliases_183 rfl rfl ?_
    refine v_lcmp dX9_findAliases_184 ?_
    refine v_if_ge (tgt := 194) dX9_findAliases_185 (by decide) (fun b185 => ?_) (fun b185 => ?_)
    · have b185 : sm ≤ s j := (z_ge (by omega) (by omega)).mp b185
      have hje : j = jl := (Nat.lt_or_ge j jl).elim (fun h9 => absurd (hl j h9) (by omega)) (fun h9 => by omega)
      subst hje
      refine v_lv [0, 1, 2, 3, 4, 5, 6, 7] rfl ?_
      exact hq
    · have b185 : ¬ (sm ≤ s j) := fun q => b185 ((z_ge (by omega) (by omega)).mpr q)
      refine v_iinc (lv' := [(8, .int (nI (j + 1))), (0, .ref m), (1, .int (nI y)), (2, .long (lN sm)), (4, .int (nI n)), (5, .int (nI cnt)), (6, .int (nI dn)), (7, .int (nI qq))]) (v := nI (j + 1)) 7 dX9_findAliases_188 rfl (nI_1 j) (by decide) rfl ?_
      refine v_goto (tgt := 176) dX9_findAliases_191 (by decide) ?_
      have hne : ¬ j = jl := fun e9 => by rw [e9] at b185; omega
      refine v_lv [1, 2, 3, 4, 5, 6, 7, 0] rfl ?_
      exact ih (j + 1) (by omega) (by omega)
set_option maxRecDepth 100000 in
set_option maxHeartbeats 400000 in
theorem kX9_al_loop {D : va_G} {cI cJ cT : ClassId} {X : vX} {m mt mw mb ml mq mz ms mr mi mk mj mn : Nat} {th fd0 pc0 dw0 lt0 ic0 tr0 sg0 ln0 at0 rd0 dr0 ma0 en0 : Int32} {y n sm : Nat} {gW gL0 : Nat → Int64} {gQ0 gZ : Nat → Int32} {RES : (Nat → Nat) × (Nat → Nat)} (hy : y < 8) (hn : n ≤ 64) (hsm : sm < 2 ^ 40) {W0 : va_W} {post : (Nat → Int64) × (Nat → Int64) × (Nat → Int32) × (Nat → Int32) → Prop} (hq : ∀ u : (Nat → Int64) × (Nat → Int64) × (Nat → Int32) × (Nat → Int32), ((∀ x, x < n → u.2.1 (64 * y + x) = lN (RES.1 x)) ∧ (∀ x, x < n → u.2.2.1 (64 * y + x) = nI (RES.2 x)) ∧ (∀ z, ¬ (64 * y ≤ z ∧ z < 64 * y + 64) → u.2.1 z = gL0 z) ∧ ∀ z, ¬ (64 * y ≤ z ∧ z < 64 * y + 64) → u.2.2.1 z = gQ0 z) → post u) (hE : vE (gG D cI cJ cT) X none W0 post (fun u => none) (fun u => [(m, .inr (9, [.int th, .int fd0, .int pc0, .int dw0, .int lt0, .ref mt, .ref mw, .ref mb, .ref ml, .ref mq, .ref mz, .ref ms, .ref mr, .int ic0, .ref mi, .int tr0, .int sg0, .int ln0, .int at0, .int rd0, .int dr0, .int ma0, .ref mk, .int en0, .ref mj, .ref mn])), (mw, .inl (cJ, 512, .inr (.inl gW))), (ms, .inl (cJ, 64, .inr (.inl u.1))), (ml, .inl (cJ, 512, .inr (.inl u.2.1))), (mq, .inl (cI, 512, .inl u.2.2.1)), (mz, .inl (cI, 8, .inl gZ)), (mr, .inl (cI, 512, .inl u.2.2.2))])) :
    ∀ (k : Nat) (s : Nat → Nat) (A : Nat → Nat) (Q : Nat → Nat) (dn : Nat) (cnt : Nat) (Dn : Nat → Bool) (gS : Nat → Int64) (gL : Nat → Int64) (gQ : Nat → Int32) (gR : Nat → Int32), n - dn < k → AI n sm s Q dn cnt Dn → cnt ≤ n → (∀ x, x < n → s x < 2 ^ 40) → (∀ d, d < cnt → gR d = nI (Q d)) → (∀ x, x < n → gS x = lN (s x)) → (∀ x, x < n → gL (64 * y + x) = lN (if Dn x then s x else sm)) → (∀ x, x < n → gQ (64 * y + x) = nI (A x)) → (∀ z, ¬ (64 * y ≤ z ∧ z < 64 * y + 64) → gL z = gL0 z) → (∀ z, ¬ (64 * y ≤ z ∧ z < 64 * y + 64) → gQ z = gQ0 z) → alL n sm k s A Q dn cnt = RES → V (gG D cI cJ cT) X (rmD 1) cX9_findAliases 9 RX9 [(m, .inr (9, [.int th, .int fd0, .int pc0, .int dw0, .int lt0, .ref mt, .ref mw, .ref mb, .ref ml, .ref mq, .ref mz, .ref ms, .ref mr, .int ic0, .ref mi, .int tr0, .int sg0, .int ln0, .int at0, .int rd0, .int dr0, .int ma0, .ref mk, .int en0, .ref mj, .ref mn])), (mw, .inl (cJ, 512, .inr (.inl gW))), (ms, .inl (cJ, 64, .inr (.inl gS))), (ml, .inl (cJ, 512, .inr (.inl gL))), (mq, .inl (cI, 512, .inl gQ)), (mz, .inl (cI, 8, .inl gZ)), (mr, .inl (cI, 512, .inl gR))] 0 0 [(0, .ref m), (1, .int (nI y)), (2, .long (lN sm)), (4, .int (nI n)), (5, .int (nI cnt)), (6, .int (nI dn))] 157 [] := by
  intro k
  induction k with
  | zero => intro s A Q dn cnt Dn gS gL gQ gR hk hAI hcn hsb hgr hgs hgl hgq hoL hoQ hres; have := hAI.2.2.2.2.2.2; omega
  | succ k ih =>
    intro s A Q dn cnt Dn gS gL gQ gR hk hAI hcn hsb hgr hgs hgl hgq hoL hoQ hres
    have hdc := hAI.2.2.2.2.2.2
    refine v_iload 5 dX9_findAliases_157 rfl ?_
    refine v_iload 4 dX9_findAliases_159 rfl ?_
    refine v_icmp_ge (tgt := 276) dX9_findAliases_161 (by decide) (fun b161 => ?_) (fun b161 => ?_)
    · have b161 : cnt ≤ dn := (nI_leI (by omega) (by omega)).mp b161
      have hen := AI_end hAI (by omega)
      have hr2 : RES = (s, A) := by rw [← hres, alL, if_neg (by omega)]
      exact v_vret hE dX9_findAliases_276 (gS, gL, gQ, gR) (hq _ (by rw [hr2]; exact ⟨fun x hx => by show gL (64 * y + x) = lN (s x); rw [hgl x hx]; cases hDx : Dn x <;> simp [hen x hx, hDx], hgq, hoL, hoQ⟩)) rfl rfl
    · have b161 : ¬ (cnt ≤ dn) := fun q => b161 ((nI_leI (by omega) (by omega)).mpr q)
      refine v_aload_n 0 dX9_findAliases_164 rfl rfl ?_
      refine v_get f_SampleDeskModel_32 0 rfl rfl dX9_findAliases_165 ?_
      refine v_iload 5 dX9_findAliases_168 rfl ?_
      refine v_iald 0 6 rfl rfl (by omega) (by omega) dX9_findAliases_170 ?_
      have hlt := AI_large hAI (by omega)
      obtain ⟨k1, k2, k3⟩ := hAI.1 dn (Nat.le_refl _) (by omega)
      have hfl := flF_spec sm s n
      have hge := hfl.2.2 hlt
      have hsj := hsb _ hlt
      have hst := AI_step hAI (by omega) _ rfl
      generalize hjl : flF sm s n = jl at *
      refine v_topi (y := nI (Q dn)) (hgr dn (by omega)) ?_
      refine v_istore (lv' := [(7, .int (nI (Q dn))), (0, .ref m), (1, .int (nI y)), (2, .long (lN sm)), (4, .int (nI n)), (5, .int (nI cnt)), (6, .int (nI dn))]) dX9_findAliases_171 (by decide) rfl ?_
      refine v_iconst (v := nI 0) dX9_findAliases_173 (by decide) ?_
      refine v_istore (lv' := [(8, .int (nI 0)), (7, .int (nI (Q dn))), (0, .ref m), (1, .int (nI y)), (2, .long (lN sm)), (4, .int (nI n)), (5, .int (nI cnt)), (6, .int (nI dn))]) dX9_findAliases_174 (by decide) rfl ?_
      refine v_lv [2, 3, 4, 5, 6, 7, 1, 0] rfl ?_
      refine kX9_al_first hn hsm hgs hsb hlt hfl.2.1 hge ?_ (jl + 1) 0 (by omega) (by omega)
      show V (gG D cI cJ cT) X (rmD 1) cX9_findAliases 9 RX9 [(m, .inr (9, [.int th, .int fd0, .int pc0, .int dw0, .int lt0, .ref mt, .ref mw, .ref mb, .ref ml, .ref mq, .ref mz, .ref ms, .ref mr, .int ic0, .ref mi, .int tr0, .int sg0, .int ln0, .int at0, .int rd0, .int dr0, .int ma0, .ref mk, .int en0, .ref mj, .ref mn])), (mw, .inl (cJ, 512, .inr (.inl gW))), (ms, .inl (cJ, 64, .inr (.inl gS))), (ml, .inl (cJ, 512, .inr (.inl gL))), (mq, .inl (cI, 512, .inl gQ)), (mz, .inl (cI, 8, .inl gZ)), (mr, .inl (cI, 512, .inl gR))] 0 0 [(0, .ref m), (1, .int (nI y)), (2, .long (lN sm)), (4, .int (nI n)), (5, .int (nI cnt)), (6, .int (nI dn)), (7, .int (nI (Q dn))), (8, .int (nI jl))] 194 []
      refine v_aload_n 0 dX9_findAliases_194 rfl rfl ?_
      refine v_get f_SampleDeskModel_20 0 rfl rfl dX9_findAliases_195 ?_
      refine v_bipush (v := nI 64) dX9_findAliases_198 (by decide) ?_
      refine v_iload_n 1 dX9_findAliases_200 rfl rfl ?_
      refine v_imul dX9_findAliases_201 ?_
      refine v_topi (y := nI (64 * y)) (pk_mul _ _) ?_
      refine v_iload 6 dX9_findAliases_202 rfl ?_
      refine v_iadd dX9_findAliases_204 ?_
      refine v_topi (y := nI (64 * y + Q dn)) (nI_add _ _) ?_
      refine v_aload_n 0 dX9_findAliases_205 rfl rfl ?_
      refine v_get f_SampleDeskModel_29 0 rfl rfl dX9_findAliases_206 ?_
      refine v_iload 6 dX9_findAliases_209 rfl ?_
      refine v_lald 1 2 rfl rfl (by omega) (by omega) dX9_findAliases_211 ?_
      refine v_topl (y := lN (s (Q dn))) (hgs _ k1) ?_
      refine v_last (ws' := [(m, .inr (9, [.int th, .int fd0, .int pc0, .int dw0, .int lt0, .ref mt, .ref mw, .ref mb, .ref ml, .ref mq, .ref mz, .ref ms, .ref mr, .int ic0, .ref mi, .int tr0, .int sg0, .int ln0, .int at0, .int rd0, .int dr0, .int ma0, .ref mk, .int en0, .ref mj, .ref mn])), (mw, .inl (cJ, 512, .inr (.inl gW))), (ms, .inl (cJ, 64, .inr (.inl gS))), (ml, .inl (cJ, 512, .inr (.inl (vp_updL gL ((64 * y + Q dn)) (lN (s (Q dn))))))), (mq, .inl (cI, 512, .inl gQ)), (mz, .inl (cI, 8, .inl gZ)), (mr, .inl (cI, 512, .inl gR))]) 1 3 rfl rfl (by omega) (by omega) dX9_findAliases_212 rfl ?_
      refine v_aload_n 0 dX9_findAliases_213 rfl rfl ?_
      refine v_get f_SampleDeskModel_23 0 rfl rfl dX9_findAliases_214 ?_
      refine v_bipush (v := nI 64) dX9_findAliases_217 (by decide) ?_
      refine v_iload_n 1 dX9_findAliases_219 rfl rfl ?_
      refine v_imul dX9_findAliases_220 ?_
      refine v_topi (y := nI (64 * y)) (pk_mul _ _) ?_
      refine v_iload 6 dX9_findAliases_221 rfl ?_
      refine v_iadd dX9_findAliases_223 ?_
      refine v_topi (y := nI (64 * y + Q dn)) (nI_add _ _) ?_
      refine v_iload 7 dX9_findAliases_224 rfl ?_
      refine v_iast (ws' := [(m, .inr (9, [.int th, .int fd0, .int pc0, .int dw0, .int lt0, .ref mt, .ref mw, .ref mb, .ref ml, .ref mq, .ref mz, .ref ms, .ref mr, .int ic0, .ref mi, .int tr0, .int sg0, .int ln0, .int at0, .int rd0, .int dr0, .int ma0, .ref mk, .int en0, .ref mj, .ref mn])), (mw, .inl (cJ, 512, .inr (.inl gW))), (ms, .inl (cJ, 64, .inr (.inl gS))), (ml, .inl (cJ, 512, .inr (.inl (vp_updL gL ((64 * y + Q dn)) (lN (s (Q dn))))))), (mq, .inl (cI, 512, .inl (upd gQ ((64 * y + Q dn)) (nI jl)))), (mz, .inl (cI, 8, .inl gZ)), (mr, .inl (cI, 512, .inl gR))]) 0 4 rfl rfl (by omega) (by omega) dX9_findAliases_226 rfl ?_
      refine v_aload_n 0 dX9_findAliases_227 rfl rfl ?_
      refine v_get f_SampleDeskModel_29 0 rfl rfl dX9_findAliases_228 ?_
      refine v_iload 7 dX9_findAliases_231 rfl ?_
      refine v_dup2_11 dX9_findAliases_233 rfl rfl ?_
      refine v_lald 1 2 rfl rfl (by omega) (by omega) dX9_findAliases_234 ?_
      refine v_topl (y := lN (s jl)) (hgs _ hlt) ?_
      refine v_lload_n 2 dX9_findAliases_235 rfl rfl ?_
      refine v_aload_n 0 dX9_findAliases_236 rfl rfl ?_
      refine v_get f_SampleDeskModel_29 0 rfl rfl dX9_findAliases_237 ?_
      refine v_iload 6 dX9_findAliases_240 rfl ?_
      refine v_lald 1 2 rfl rfl (by omega) (by omega) dX9_findAliases_242 ?_
      refine v_topl (y := lN (s (Q dn))) (hgs _ k1) ?_
      refine v_lsub dX9_findAliases_243 ?_
      refine v_topl (y := lN (sm - s (Q dn))) (lN_sub (by omega)) ?_
      refine v_lsub dX9_findAliases_244 ?_
      refine v_topl (y := lN (s jl - (sm - s (Q dn)))) (lN_sub (by omega)) ?_
      refine v_last (ws' := [(m, .inr (9, [.int th, .int fd0, .int pc0, .int dw0, .int lt0, .ref mt, .ref mw, .ref mb, .ref ml, .ref mq, .ref mz, .ref ms, .ref mr, .int ic0, .ref mi, .int tr0, .int sg0, .int ln0, .int at0, .int rd0, .int dr0, .int ma0, .ref mk, .int en0, .ref mj, .ref mn])), (mw, .inl (cJ, 512, .inr (.inl gW))), (ms, .inl (cJ, 64, .inr (.inl (vp_updL gS jl (lN (s jl - (sm - s (Q dn)))))))), (ml, .inl (cJ, 512, .inr (.inl (vp_updL gL ((64 * y + Q dn)) (lN (s (Q dn))))))), (mq, .inl (cI, 512, .inl (upd gQ ((64 * y + Q dn)) (nI jl)))), (mz, .inl (cI, 8, .inl gZ)), (mr, .inl (cI, 512, .inl gR))]) 1 2 rfl rfl (by omega) (by omega) dX9_findAliases_245 rfl ?_
      refine v_aload_n 0 dX9_findAliases_246 rfl rfl ?_
      refine v_get f_SampleDeskModel_29 0 rfl rfl dX9_findAliases_247 ?_
      refine v_iload 7 dX9_findAliases_250 rfl ?_
      refine v_lald 1 2 rfl rfl (by omega) (by omega) dX9_findAliases_252 ?_
      refine v_topl (y := lN (s jl - (sm - s (Q dn)))) (pk_uLs) ?_
      refine v_lload_n 2 dX9_findAliases_253 rfl rfl ?_
      refine v_lcmp dX9_findAliases_254 ?_
      refine v_if_ge (tgt := 270) dX9_findAliases_255 (by decide) (fun b255 => ?_) (fun b255 => ?_)
      · have b255 : sm ≤ s jl - (sm - s (Q dn)) := (z_ge (by omega) (by omega)).mp b255
        refine v_iinc (lv' := [(6, .int (nI (dn + 1))), (0, .ref m), (1, .int (nI y)), (2, .long (lN sm)), (4, .int (nI n)), (5, .int (nI cnt)), (7, .int (nI (Q dn))), (8, .int (nI jl))]) (v := nI (dn + 1)) 5 dX9_findAliases_270 rfl (nI_1 dn) (by decide) rfl ?_
        refine v_goto (tgt := 157) dX9_findAliases_273 (by decide) ?_
        have hDs := hAI.2.2.2.1
        refine v_lv [1, 2, 3, 4, 5, 0] rfl ?_
        exact ih (fU s jl (s jl - (sm - s (Q dn)))) (fU A (Q dn) jl) Q (dn + 1) cnt _ _ _ _ _ (by omega) (hst.2 (by omega)) hcn (fun x hx => by unfold fU; exact if q9 : x = jl then by rw [if_pos q9]; omega else by rw [if_neg q9]; exact hsb x hx) hgr (updL_ok hgs) (lim_step k1 k2 hge hDs hgl) (ali_step hgq) (outL (by omega) hoL) (outI (by omega) hoQ) (by rw [← hres, alL, if_pos (by omega), hjl, if_neg (by omega)])
      · have b255 : ¬ (sm ≤ s jl - (sm - s (Q dn))) := fun q => b255 ((z_ge (by omega) (by omega)).mpr q)
        obtain ⟨hAI2, hcn2⟩ := hst.1 (by omega)
        refine v_aload_n 0 dX9_findAliases_258 rfl rfl ?_
        refine v_get f_SampleDeskModel_32 0 rfl rfl dX9_findAliases_259 ?_
        refine v_iload 4 dX9_findAliases_262 rfl ?_
        refine v_iload 7 dX9_findAliases_264 rfl ?_
        refine v_iast (ws' := [(m, .inr (9, [.int th, .int fd0, .int pc0, .int dw0, .int lt0, .ref mt, .ref mw, .ref mb, .ref ml, .ref mq, .ref mz, .ref ms, .ref mr, .int ic0, .ref mi, .int tr0, .int sg0, .int ln0, .int at0, .int rd0, .int dr0, .int ma0, .ref mk, .int en0, .ref mj, .ref mn])), (mw, .inl (cJ, 512, .inr (.inl gW))), (ms, .inl (cJ, 64, .inr (.inl (vp_updL gS jl (lN (s jl - (sm - s (Q dn)))))))), (ml, .inl (cJ, 512, .inr (.inl (vp_updL gL ((64 * y + Q dn)) (lN (s (Q dn))))))), (mq, .inl (cI, 512, .inl (upd gQ ((64 * y + Q dn)) (nI jl)))), (mz, .inl (cI, 8, .inl gZ)), (mr, .inl (cI, 512, .inl (upd gR cnt (nI jl))))]) 0 6 rfl rfl (by omega) (by omega) dX9_findAliases_266 rfl ?_
        refine v_iinc (lv' := [(5, .int (nI (cnt + 1))), (0, .ref m), (1, .int (nI y)), (2, .long (lN sm)), (4, .int (nI n)), (6, .int (nI dn)), (7, .int (nI (Q dn))), (8, .int (nI jl))]) (v := nI (cnt + 1)) 4 dX9_findAliases_267 rfl (nI_1 cnt) (by decide) rfl ?_
        refine v_iinc (lv' := [(6, .int (nI (dn + 1))), (5, .int (nI (cnt + 1))), (0, .ref m), (1, .int (nI y)), (2, .long (lN sm)), (4, .int (nI n)), (7, .int (nI (Q dn))), (8, .int (nI jl))]) (v := nI (dn + 1)) 5 dX9_findAliases_270 rfl (nI_1 dn) (by decide) rfl ?_
        refine v_goto (tgt := 157) dX9_findAliases_273 (by decide) ?_
        have hDs := hAI.2.2.2.1
        refine v_lv [2, 3, 4, 5, 1, 0] rfl ?_
        exact ih (fU s jl (s jl - (sm - s (Q dn)))) (fU A (Q dn) jl) (fU Q cnt jl) (dn + 1) (cnt + 1) _ _ _ _ _ (by omega) hAI2 (by omega) (fun x hx => by unfold fU; exact if q9 : x = jl then by rw [if_pos q9]; omega else by rw [if_neg q9]; exact hsb x hx) (row_step hgr) (updL_ok hgs) (lim_step k1 k2 hge hDs hgl) (ali_step hgq) (outL (by omega) hoL) (outI (by omega) hoQ) (by rw [← hres, alL, if_pos (by omega), hjl, if_pos (by omega)])
theorem smQ_yes {S i : Nat} {s : Nat → Nat} (h : s i < S) : smQ S s (i + 1) = (fU (smQ S s i).1 (smQ S s i).2 i, (smQ S s i).2 + 1) := by simp only [smQ]; rw [if_pos h]
theorem smQ_no {S i : Nat} {s : Nat → Nat} (h : ¬ s i < S) : smQ S s (i + 1) = smQ S s i := by simp only [smQ]; rw [if_neg h]
set_option maxRecDepth 100000 in
set_option maxHeartbeats 400000 in
theorem kX9_al_shares {D : va_G} {cI cJ cT : ClassId} {X : vX} {m mt mw mb ml mq mz ms mr mi mk mj mn : Nat} {th fd0 pc0 dw0 lt0 ic0 tr0 sg0 ln0 at0 rd0 dr0 ma0 en0 : Int32} {y n sm : Nat} {gW gL0 : Nat → Int64} {gQ0 gZ : Nat → Int32} {W : Nat → Nat} (hW : ∀ x, x < 64 → gW (64 * y + x) = lN (W x)) (hWb : ∀ x, x < 64 → W x < 2 ^ 31) (hy : y < 8) (hn : n ≤ 64) (hsm : sm < 2 ^ 40) (hsum : sumN (fun x => n * W x) n = n * sm) {W0 : va_W} {post : (Nat → Int64) × (Nat → Int64) × (Nat → Int32) × (Nat → Int32) → Prop} (hq : ∀ u : (Nat → Int64) × (Nat → Int64) × (Nat → Int32) × (Nat → Int32), ((∀ x, x < n → u.2.1 (64 * y + x) = lN ((alS W n sm).1 x)) ∧ (∀ x, x < n → u.2.2.1 (64 * y + x) = nI ((alS W n sm).2 x)) ∧ (∀ z, ¬ (64 * y ≤ z ∧ z < 64 * y + 64) → u.2.1 z = gL0 z) ∧ ∀ z, ¬ (64 * y ≤ z ∧ z < 64 * y + 64) → u.2.2.1 z = gQ0 z) → post u) (hE : vE (gG D cI cJ cT) X none W0 post (fun u => none) (fun u => [(m, .inr (9, [.int th, .int fd0, .int pc0, .int dw0, .int lt0, .ref mt, .ref mw, .ref mb, .ref ml, .ref mq, .ref mz, .ref ms, .ref mr, .int ic0, .ref mi, .int tr0, .int sg0, .int ln0, .int at0, .int rd0, .int dr0, .int ma0, .ref mk, .int en0, .ref mj, .ref mn])), (mw, .inl (cJ, 512, .inr (.inl gW))), (ms, .inl (cJ, 64, .inr (.inl u.1))), (ml, .inl (cJ, 512, .inr (.inl u.2.1))), (mq, .inl (cI, 512, .inl u.2.2.1)), (mz, .inl (cI, 8, .inl gZ)), (mr, .inl (cI, 512, .inl u.2.2.2))])) :
    ∀ (k : Nat) (i : Nat) (gS : Nat → Int64) (gL : Nat → Int64) (gQ : Nat → Int32) (gR : Nat → Int32), n - i < k → i ≤ n → (∀ x, x < i → gS x = lN (n * W x)) → (∀ d, d < (smQ sm (fun x => n * W x) i).2 → gR d = nI ((smQ sm (fun x => n * W x) i).1 d)) → (∀ x, x < i → gL (64 * y + x) = lN sm) → (∀ x, x < i → gQ (64 * y + x) = nI x) → (∀ z, ¬ (64 * y ≤ z ∧ z < 64 * y + 64) → gL z = gL0 z) → (∀ z, ¬ (64 * y ≤ z ∧ z < 64 * y + 64) → gQ z = gQ0 z) → V (gG D cI cJ cT) X (rmD 1) cX9_findAliases 9 RX9 [(m, .inr (9, [.int th, .int fd0, .int pc0, .int dw0, .int lt0, .ref mt, .ref mw, .ref mb, .ref ml, .ref mq, .ref mz, .ref ms, .ref mr, .int ic0, .ref mi, .int tr0, .int sg0, .int ln0, .int at0, .int rd0, .int dr0, .int ma0, .ref mk, .int en0, .ref mj, .ref mn])), (mw, .inl (cJ, 512, .inr (.inl gW))), (ms, .inl (cJ, 64, .inr (.inl gS))), (ml, .inl (cJ, 512, .inr (.inl gL))), (mq, .inl (cI, 512, .inl gQ)), (mz, .inl (cI, 8, .inl gZ)), (mr, .inl (cI, 512, .inl gR))] 0 0 [(0, .ref m), (1, .int (nI y)), (2, .long (lN sm)), (4, .int (nI n)), (5, .int (nI (smQ sm (fun x => n * W x) i).2)), (6, .int (nI i))] 67 [] := by
  intro k
  induction k with
  | zero => intro i gS gL gQ gR hk hi hgs hgr hgl hgq hoL hoQ; omega
  | succ k ih =>
    intro i gS gL gQ gR hk hi hgs hgr hgl hgq hoL hoQ
    refine v_iload 5 dX9_findAliases_67 rfl ?_
    refine v_iload 3 dX9_findAliases_69 rfl ?_
    refine v_icmp_ge (tgt := 154) dX9_findAliases_71 (by decide) (fun b71 => ?_) (fun b71 => ?_)
    · have b71 : n ≤ i := (nI_leI (by omega) (by omega)).mp b71
      refine v_iconst (v := nI 0) dX9_findAliases_154 (by decide) ?_
      refine v_istore (lv' := [(6, .int (nI 0)), (0, .ref m), (1, .int (nI y)), (2, .long (lN sm)), (4, .int (nI n)), (5, .int (nI (smQ sm (fun x => n * W x) i).2))]) dX9_findAliases_155 (by decide) rfl ?_
      have hin2 : i = n := by omega
      subst hin2
      have hqs := smQ_spec sm (fun x => i * W x) i
      have hqn : cntN (fun j => decide ((fun x => i * W x) j < sm)) i ≤ i := cntN_le _ _
      refine v_lv [1, 2, 3, 4, 5, 0] rfl ?_
      exact kX9_al_loop hy hn hsm hq hE (i + 1) (fun x => i * W x) (fun x => x) (smQ sm (fun x => i * W x) i).1 0 (smQ sm (fun x => i * W x) i).2 (fun _ => false) gS gL gQ gR (by omega) (AI_start hsum) (by rw [hqs.1]; exact hqn) (fun x hx => by have h9 := hWb x (by omega); have h8 : i * W x ≤ 64 * 2 ^ 31 := Nat.mul_le_mul hn (Nat.le_of_lt h9); show i * W x < 2 ^ 40; omega) hgr hgs (fun x hx => by rw [hgl x hx]; rfl) hgq hoL hoQ rfl
    · have b71 : ¬ (n ≤ i) := fun q => b71 ((nI_leI (by omega) (by omega)).mpr q)
      have hwi := hWb i (by omega)
      have hnw : n * W i ≤ 64 * 2 ^ 31 := Nat.mul_le_mul hn (Nat.le_of_lt hwi)
      have hsq := (smQ_spec sm (fun x => n * W x) i).1
      have hsl : (smQ sm (fun x => n * W x) i).2 ≤ i := by rw [hsq]; exact cntN_le _ _
      refine v_aload_n 0 dX9_findAliases_74 rfl rfl ?_
      refine v_get f_SampleDeskModel_29 0 rfl rfl dX9_findAliases_75 ?_
      refine v_iload 5 dX9_findAliases_78 rfl ?_
      refine v_iload 3 dX9_findAliases_80 rfl ?_
      refine v_i2l (v := lN n) dX9_findAliases_82 (nI_l (by omega)) ?_
      refine v_aload_n 0 dX9_findAliases_83 rfl rfl ?_
      refine v_get f_SampleDeskModel_13 0 rfl rfl dX9_findAliases_84 ?_
      refine v_bipush (v := nI 64) dX9_findAliases_87 (by decide) ?_
      refine v_iload_n 1 dX9_findAliases_89 rfl rfl ?_
      refine v_imul dX9_findAliases_90 ?_
      refine v_topi (y := nI (64 * y)) (pk_mul _ _) ?_
      refine v_iload 5 dX9_findAliases_91 rfl ?_
      refine v_iadd dX9_findAliases_93 ?_
      refine v_topi (y := nI (64 * y + i)) (nI_add _ _) ?_
      refine v_lald 1 1 rfl rfl (by omega) (by omega) dX9_findAliases_94 ?_
      refine v_topl (y := lN (W i)) (hW i (by omega)) ?_
      refine v_lmul dX9_findAliases_95 ?_
      refine v_topl (y := lN (n * W i)) (lN_mul _ _) ?_
      refine v_last (ws' := [(m, .inr (9, [.int th, .int fd0, .int pc0, .int dw0, .int lt0, .ref mt, .ref mw, .ref mb, .ref ml, .ref mq, .ref mz, .ref ms, .ref mr, .int ic0, .ref mi, .int tr0, .int sg0, .int ln0, .int at0, .int rd0, .int dr0, .int ma0, .ref mk, .int en0, .ref mj, .ref mn])), (mw, .inl (cJ, 512, .inr (.inl gW))), (ms, .inl (cJ, 64, .inr (.inl (vp_updL gS i (lN (n * W i)))))), (ml, .inl (cJ, 512, .inr (.inl gL))), (mq, .inl (cI, 512, .inl gQ)), (mz, .inl (cI, 8, .inl gZ)), (mr, .inl (cI, 512, .inl gR))]) 1 2 rfl rfl (by omega) (by omega) dX9_findAliases_96 rfl ?_
      refine v_aload_n 0 dX9_findAliases_97 rfl rfl ?_
      refine v_get f_SampleDeskModel_20 0 rfl rfl dX9_findAliases_98 ?_
      refine v_bipush (v := nI 64) dX9_findAliases_101 (by decide) ?_
      refine v_iload_n 1 dX9_findAliases_103 rfl rfl ?_
      refine v_imul dX9_findAliases_104 ?_
      refine v_topi (y := nI (64 * y)) (pk_mul _ _) ?_
      refine v_iload 5 dX9_findAliases_105 rfl ?_
      refine v_iadd dX9_findAliases_107 ?_
      refine v_topi (y := nI (64 * y + i)) (nI_add _ _) ?_
      refine v_lload_n 2 dX9_findAliases_108 rfl rfl ?_
      refine v_last (ws' := [(m, .inr (9, [.int th, .int fd0, .int pc0, .int dw0, .int lt0, .ref mt, .ref mw, .ref mb, .ref ml, .ref mq, .ref mz, .ref ms, .ref mr, .int ic0, .ref mi, .int tr0, .int sg0, .int ln0, .int at0, .int rd0, .int dr0, .int ma0, .ref mk, .int en0, .ref mj, .ref mn])), (mw, .inl (cJ, 512, .inr (.inl gW))), (ms, .inl (cJ, 64, .inr (.inl (vp_updL gS i (lN (n * W i)))))), (ml, .inl (cJ, 512, .inr (.inl (vp_updL gL ((64 * y + i)) (lN sm))))), (mq, .inl (cI, 512, .inl gQ)), (mz, .inl (cI, 8, .inl gZ)), (mr, .inl (cI, 512, .inl gR))]) 1 3 rfl rfl (by omega) (by omega) dX9_findAliases_109 rfl ?_
      refine v_aload_n 0 dX9_findAliases_110 rfl rfl ?_
      refine v_get f_SampleDeskModel_23 0 rfl rfl dX9_findAliases_111 ?_
      refine v_bipush (v := nI 64) dX9_findAliases_114 (by decide) ?_
      refine v_iload_n 1 dX9_findAliases_116 rfl rfl ?_
      refine v_imul dX9_findAliases_117 ?_
      refine v_topi (y := nI (64 * y)) (pk_mul _ _) ?_
      refine v_iload 5 dX9_findAliases_118 rfl ?_
      refine v_iadd dX9_findAliases_120 ?_
      refine v_topi (y := nI (64 * y + i)) (nI_add _ _) ?_
      refine v_iload 5 dX9_findAliases_121 rfl ?_
      refine v_iast (ws' := [(m, .inr (9, [.int th, .int fd0, .int pc0, .int dw0, .int lt0, .ref mt, .ref mw, .ref mb, .ref ml, .ref mq, .ref mz, .ref ms, .ref mr, .int ic0, .ref mi, .int tr0, .int sg0, .int ln0, .int at0, .int rd0, .int dr0, .int ma0, .ref mk, .int en0, .ref mj, .ref mn])), (mw, .inl (cJ, 512, .inr (.inl gW))), (ms, .inl (cJ, 64, .inr (.inl (vp_updL gS i (lN (n * W i)))))), (ml, .inl (cJ, 512, .inr (.inl (vp_updL gL ((64 * y + i)) (lN sm))))), (mq, .inl (cI, 512, .inl (upd gQ ((64 * y + i)) (nI i)))), (mz, .inl (cI, 8, .inl gZ)), (mr, .inl (cI, 512, .inl gR))]) 0 4 rfl rfl (by omega) (by omega) dX9_findAliases_123 rfl ?_
      refine v_aload_n 0 dX9_findAliases_124 rfl rfl ?_
      refine v_get f_SampleDeskModel_29 0 rfl rfl dX9_findAliases_125 ?_
      refine v_iload 5 dX9_findAliases_128 rfl ?_
      refine v_lald 1 2 rfl rfl (by omega) (by omega) dX9_findAliases_130 ?_
      refine v_topl (y := lN (n * W i)) (pk_uLs) ?_
      refine v_lload_n 2 dX9_findAliases_131 rfl rfl ?_
      refine v_lcmp dX9_findAliases_132 ?_
      refine v_if_ge (tgt := 148) dX9_findAliases_133 (by decide) (fun b133 => ?_) (fun b133 => ?_)
      · have b133 : sm ≤ n * W i := (z_ge (by omega) (by omega)).mp b133
        refine v_iinc (lv' := [(6, .int (nI (i + 1))), (0, .ref m), (1, .int (nI y)), (2, .long (lN sm)), (4, .int (nI n)), (5, .int (nI (smQ sm (fun x => n * W x) i).2))]) (v := nI (i + 1)) 5 dX9_findAliases_148 rfl (nI_1 i) (by decide) rfl ?_
        refine v_goto (tgt := 67) dX9_findAliases_151 (by decide) ?_
        refine v_lv [1, 2, 3, 4, 5, 0] rfl ?_
        have e9 : nI (smQ sm (fun x => n * W x) i).2 = nI (smQ sm (fun x => n * W x) (i + 1)).2 := by rw [smQ_no (s := fun x => n * W x) (by omega)]
        refine v_lv (lv' := [(0, .ref m), (1, .int (nI y)), (2, .long (lN sm)), (4, .int (nI n)), (5, .int (nI (smQ sm (fun x => n * W x) (i + 1)).2)), (6, .int (nI (i + 1)))]) [0, 1, 2, 3, 4, 5] (by rw [← e9]; rfl) ?_
        exact ih (i + 1) _ _ _ _ (by omega) (by omega) (fun x hx => sh_ok (s := fun x => n * W x) hgs x hx) (fun d hd => by rw [smQ_no (by omega)] at hd ⊢; exact hgr d hd) (fun x hx => by unfold vp_updL; exact if q9 : x = i then by rw [q9, if_pos rfl] else by rw [if_neg (by omega)]; exact hgl x (by omega)) (fun x hx => by unfold upd; exact if q9 : x = i then by rw [q9, if_pos rfl] else by rw [if_neg (by omega)]; exact hgq x (by omega)) (outL (by omega) hoL) (outI (by omega) hoQ)
      · have b133 : ¬ (sm ≤ n * W i) := fun q => b133 ((z_ge (by omega) (by omega)).mpr q)
        refine v_aload_n 0 dX9_findAliases_136 rfl rfl ?_
        refine v_get f_SampleDeskModel_32 0 rfl rfl dX9_findAliases_137 ?_
        refine v_iload 4 dX9_findAliases_140 rfl ?_
        refine v_iload 5 dX9_findAliases_142 rfl ?_
        refine v_iast (ws' := [(m, .inr (9, [.int th, .int fd0, .int pc0, .int dw0, .int lt0, .ref mt, .ref mw, .ref mb, .ref ml, .ref mq, .ref mz, .ref ms, .ref mr, .int ic0, .ref mi, .int tr0, .int sg0, .int ln0, .int at0, .int rd0, .int dr0, .int ma0, .ref mk, .int en0, .ref mj, .ref mn])), (mw, .inl (cJ, 512, .inr (.inl gW))), (ms, .inl (cJ, 64, .inr (.inl (vp_updL gS i (lN (n * W i)))))), (ml, .inl (cJ, 512, .inr (.inl (vp_updL gL ((64 * y + i)) (lN sm))))), (mq, .inl (cI, 512, .inl (upd gQ ((64 * y + i)) (nI i)))), (mz, .inl (cI, 8, .inl gZ)), (mr, .inl (cI, 512, .inl (upd gR ((smQ sm (fun x => n * W x) i).2) (nI i))))]) 0 6 rfl rfl (by omega) (by omega) dX9_findAliases_144 rfl ?_
        refine v_iinc (lv' := [(5, .int (nI ((smQ sm (fun x => n * W x) i).2 + 1))), (0, .ref m), (1, .int (nI y)), (2, .long (lN sm)), (4, .int (nI n)), (6, .int (nI i))]) (v := nI ((smQ sm (fun x => n * W x) i).2 + 1)) 4 dX9_findAliases_145 rfl (nI_1 _) (by decide) rfl ?_
        refine v_iinc (lv' := [(6, .int (nI (i + 1))), (5, .int (nI ((smQ sm (fun x => n * W x) i).2 + 1))), (0, .ref m), (1, .int (nI y)), (2, .long (lN sm)), (4, .int (nI n))]) (v := nI (i + 1)) 5 dX9_findAliases_148 rfl (nI_1 i) (by decide) rfl ?_
        refine v_goto (tgt := 67) dX9_findAliases_151 (by decide) ?_
        refine v_lv [2, 3, 4, 5, 1, 0] rfl ?_
        have e9 : nI ((smQ sm (fun x => n * W x) i).2 + 1) = nI (smQ sm (fun x => n * W x) (i + 1)).2 := by rw [smQ_yes (s := fun x => n * W x) (by omega)]
        refine v_lv (lv' := [(0, .ref m), (1, .int (nI y)), (2, .long (lN sm)), (4, .int (nI n)), (5, .int (nI (smQ sm (fun x => n * W x) (i + 1)).2)), (6, .int (nI (i + 1)))]) [0, 1, 2, 3, 4, 5] (by rw [← e9]; rfl) ?_
        exact ih (i + 1) _ _ _ _ (by omega) (by omega) (fun x hx => sh_ok (s := fun x => n * W x) hgs x hx) (fun d hd => by rw [smQ_yes (by omega)] at hd ⊢; exact row_step hgr d hd) (fun x hx => by unfold vp_updL; exact if q9 : x = i then by rw [q9, if_pos rfl] else by rw [if_neg (by omega)]; exact hgl x (by omega)) (fun x hx => by unfold upd; exact if q9 : x = i then by rw [q9, if_pos rfl] else by rw [if_neg (by omega)]; exact hgq x (by omega)) (outL (by omega) hoL) (outI (by omega) hoQ)
theorem topN_yes {F : Nat → Nat} {i : Nat} (h : ¬ F i = 0) : topN F (i + 1) = i + 1 := by simp [topN, h]
theorem topN_no {F : Nat → Nat} {i : Nat} (h : F i = 0) : topN F (i + 1) = topN F i := by simp [topN, h]
set_option maxRecDepth 100000 in
set_option maxHeartbeats 400000 in
theorem kX9_al_top {D : va_G} {cI cJ cT : ClassId} {X : vX} {m mt mw mb ml mq mz ms mr mi mk mj mn : Nat} {th fd0 pc0 dw0 lt0 ic0 tr0 sg0 ln0 at0 rd0 dr0 ma0 en0 : Int32} {y : Nat} {gW gL gS : Nat → Int64} {gQ gR gZ : Nat → Int32} {W : Nat → Nat} (hW : ∀ x, x < 64 → gW (64 * y + x) = lN (W x)) (hWb : ∀ x, x < 64 → W x < 2 ^ 31) (hy : y < 8) {W0 : va_W} {post : (Nat → Int64) × (Nat → Int64) × (Nat → Int32) × (Nat → Int32) → Prop} (hq : ∀ u : (Nat → Int64) × (Nat → Int64) × (Nat → Int32) × (Nat → Int32), ((∀ x, x < topN W 64 → u.2.1 (64 * y + x) = lN ((alS W (topN W 64) (sumN W 64)).1 x)) ∧ (∀ x, x < topN W 64 → u.2.2.1 (64 * y + x) = nI ((alS W (topN W 64) (sumN W 64)).2 x)) ∧ (∀ z, ¬ (64 * y ≤ z ∧ z < 64 * y + 64) → u.2.1 z = gL z) ∧ ∀ z, ¬ (64 * y ≤ z ∧ z < 64 * y + 64) → u.2.2.1 z = gQ z) → post u) (hE : vE (gG D cI cJ cT) X none W0 post (fun u => none) (fun u => [(m, .inr (9, [.int th, .int fd0, .int pc0, .int dw0, .int lt0, .ref mt, .ref mw, .ref mb, .ref ml, .ref mq, .ref mz, .ref ms, .ref mr, .int ic0, .ref mi, .int tr0, .int sg0, .int ln0, .int at0, .int rd0, .int dr0, .int ma0, .ref mk, .int en0, .ref mj, .ref mn])), (mw, .inl (cJ, 512, .inr (.inl gW))), (ms, .inl (cJ, 64, .inr (.inl u.1))), (ml, .inl (cJ, 512, .inr (.inl u.2.1))), (mq, .inl (cI, 512, .inl u.2.2.1)), (mz, .inl (cI, 8, .inl (upd gZ y (nI (topN W 64))))), (mr, .inl (cI, 512, .inl u.2.2.2))])) :
    ∀ (k : Nat) (i : Nat), 64 - i < k → i ≤ 64 → V (gG D cI cJ cT) X (rmD 1) cX9_findAliases 9 RX9 [(m, .inr (9, [.int th, .int fd0, .int pc0, .int dw0, .int lt0, .ref mt, .ref mw, .ref mb, .ref ml, .ref mq, .ref mz, .ref ms, .ref mr, .int ic0, .ref mi, .int tr0, .int sg0, .int ln0, .int at0, .int rd0, .int dr0, .int ma0, .ref mk, .int en0, .ref mj, .ref mn])), (mw, .inl (cJ, 512, .inr (.inl gW))), (ms, .inl (cJ, 64, .inr (.inl gS))), (ml, .inl (cJ, 512, .inr (.inl gL))), (mq, .inl (cI, 512, .inl gQ)), (mz, .inl (cI, 8, .inl gZ)), (mr, .inl (cI, 512, .inl gR))] 0 0 [(0, .ref m), (1, .int (nI y)), (2, .long (lN (sumN W 64))), (4, .int (nI (topN W i))), (5, .int (nI i))] 12 [] := by
  intro k
  induction k with
  | zero => intro i hk hi; omega
  | succ k ih =>
    intro i hk hi
    refine v_iload 4 dX9_findAliases_12 rfl ?_
    refine v_bipush (v := nI 64) dX9_findAliases_14 (by decide) ?_
    refine v_icmp_ge (tgt := 53) dX9_findAliases_16 (by decide) (fun b16 => ?_) (fun b16 => ?_)
    · have b16 : 64 ≤ i := (nI_leI (by decide) (by omega)).mp b16
      have hi64 : i = 64 := by omega
      subst hi64
      have htl := topN_le W 64
      refine v_aload_n 0 dX9_findAliases_53 rfl rfl ?_
      refine v_get f_SampleDeskModel_26 0 rfl rfl dX9_findAliases_54 ?_
      refine v_iload_n 1 dX9_findAliases_57 rfl rfl ?_
      refine v_iload 3 dX9_findAliases_58 rfl ?_
      refine v_iast (ws' := [(m, .inr (9, [.int th, .int fd0, .int pc0, .int dw0, .int lt0, .ref mt, .ref mw, .ref mb, .ref ml, .ref mq, .ref mz, .ref ms, .ref mr, .int ic0, .ref mi, .int tr0, .int sg0, .int ln0, .int at0, .int rd0, .int dr0, .int ma0, .ref mk, .int en0, .ref mj, .ref mn])), (mw, .inl (cJ, 512, .inr (.inl gW))), (ms, .inl (cJ, 64, .inr (.inl gS))), (ml, .inl (cJ, 512, .inr (.inl gL))), (mq, .inl (cI, 512, .inl gQ)), (mz, .inl (cI, 8, .inl (upd gZ y (nI (topN W 64))))), (mr, .inl (cI, 512, .inl gR))]) 0 5 rfl rfl (by omega) (by omega) dX9_findAliases_60 rfl ?_
      refine v_iconst (v := nI 0) dX9_findAliases_61 (by decide) ?_
      refine v_istore (lv' := [(5, .int (nI 0)), (0, .ref m), (1, .int (nI y)), (2, .long (lN (sumN W 64))), (4, .int (nI (topN W 64)))]) dX9_findAliases_62 (by decide) rfl ?_
      refine v_iconst (v := nI 0) dX9_findAliases_64 (by decide) ?_
      refine v_istore (lv' := [(6, .int (nI 0)), (5, .int (nI 0)), (0, .ref m), (1, .int (nI y)), (2, .long (lN (sumN W 64))), (4, .int (nI (topN W 64)))]) dX9_findAliases_65 (by decide) rfl ?_
      refine v_lv [2, 3, 4, 5, 1, 0] rfl ?_
      exact kX9_al_shares hW hWb hy (topN_le W 64) (sum_lt hWb) sum_top hq hE (topN W 64 + 1) 0 gS gL gQ gR (by omega) (by omega) (fun x hx => absurd hx (Nat.not_lt_zero x)) (fun x hx => absurd hx (Nat.not_lt_zero x)) (fun x hx => absurd hx (Nat.not_lt_zero x)) (fun x hx => absurd hx (Nat.not_lt_zero x)) (fun _ _ => rfl) (fun _ _ => rfl)
    · have b16 : ¬ (64 ≤ i) := fun q => b16 ((nI_leI (by decide) (by omega)).mpr q)
      refine v_aload_n 0 dX9_findAliases_19 rfl rfl ?_
      refine v_get f_SampleDeskModel_13 0 rfl rfl dX9_findAliases_20 ?_
      refine v_bipush (v := nI 64) dX9_findAliases_23 (by decide) ?_
      refine v_iload_n 1 dX9_findAliases_25 rfl rfl ?_
      refine v_imul dX9_findAliases_26 ?_
      refine v_topi (y := nI (64 * y)) (pk_mul _ _) ?_
      refine v_iload 4 dX9_findAliases_27 rfl ?_
      refine v_iadd dX9_findAliases_29 ?_
      refine v_topi (y := nI (64 * y + i)) (nI_add _ _) ?_
      refine v_lald 1 1 rfl rfl (by omega) (by omega) dX9_findAliases_30 ?_
      refine v_topl (y := lN (W i)) (hW i (by omega)) ?_
      have hwi := hWb i (by omega)
      refine v_lconst (v := lN 0) dX9_findAliases_31 (by decide) ?_
      refine v_lcmp dX9_findAliases_32 ?_
      refine v_if_le (tgt := 43) dX9_findAliases_33 (by decide) (fun b33 => ?_) (fun b33 => ?_)
      · have b33 : W i ≤ 0 := (z_le (by omega) (by decide)).mp b33
        refine v_iload 3 dX9_findAliases_43 rfl ?_
        refine v_istore (lv' := [(4, .int (nI (topN W i))), (0, .ref m), (1, .int (nI y)), (2, .long (lN (sumN W 64))), (5, .int (nI i))]) dX9_findAliases_45 (by decide) rfl ?_
        refine v_iinc (lv' := [(5, .int (nI (i + 1))), (4, .int (nI (topN W i))), (0, .ref m), (1, .int (nI y)), (2, .long (lN (sumN W 64)))]) (v := nI (i + 1)) 4 dX9_findAliases_47 rfl (nI_1 i) (by decide) rfl ?_
        refine v_goto (tgt := 12) dX9_findAliases_50 (by decide) ?_
        refine v_lv [2, 3, 4, 1, 0] rfl ?_
        have e9 : nI (topN W i) = nI (topN W (i + 1)) := by rw [topN_no (by omega)]
        refine v_lv (lv' := [(0, .ref m), (1, .int (nI y)), (2, .long (lN (sumN W 64))), (4, .int (nI (topN W (i + 1)))), (5, .int (nI (i + 1)))]) [0, 1, 2, 3, 4] (by rw [← e9]; rfl) ?_
        exact ih (i + 1) (by omega) (by omega)
      · have b33 : ¬ (W i ≤ 0) := fun q => b33 ((z_le (by omega) (by decide)).mpr q)
        refine v_iload 4 dX9_findAliases_36 rfl ?_
        refine v_iconst (v := nI 1) dX9_findAliases_38 (by decide) ?_
        refine v_iadd dX9_findAliases_39 ?_
        refine v_topi (y := nI (i + 1)) (nI_add _ _) ?_
        refine v_goto (tgt := 45) dX9_findAliases_40 (by decide) ?_
        refine v_istore (lv' := [(4, .int (nI (i + 1))), (0, .ref m), (1, .int (nI y)), (2, .long (lN (sumN W 64))), (5, .int (nI i))]) dX9_findAliases_45 (by decide) rfl ?_
        refine v_iinc (lv' := [(5, .int (nI (i + 1))), (4, .int (nI (i + 1))), (0, .ref m), (1, .int (nI y)), (2, .long (lN (sumN W 64)))]) (v := nI (i + 1)) 4 dX9_findAliases_47 rfl (nI_1 i) (by decide) rfl ?_
        refine v_goto (tgt := 12) dX9_findAliases_50 (by decide) ?_
        refine v_lv [2, 3, 4, 1, 0] rfl ?_
        have e9 : nI (i + 1) = nI (topN W (i + 1)) := by rw [topN_yes (by omega)]
        refine v_lv (lv' := [(0, .ref m), (1, .int (nI y)), (2, .long (lN (sumN W 64))), (4, .int (nI (topN W (i + 1)))), (5, .int (nI (i + 1)))]) [0, 1, 2, 3, 4] (by rw [← e9]; rfl) ?_
        exact ih (i + 1) (by omega) (by omega)
set_option maxRecDepth 100000 in
set_option maxHeartbeats 400000 in
theorem kX9_findAliases {D : va_G} {cI cJ cT : ClassId} (l : Launch) {m mt mw mb ml mq mz ms mr mi mk mj mn : Nat} {th fd0 pc0 dw0 lt0 ic0 tr0 sg0 ln0 at0 rd0 dr0 ma0 en0 : Int32} {y : Nat} {gW gL gS : Nat → Int64} {gQ gR gZ : Nat → Int32} {W : Nat → Nat} (hW : ∀ x, x < 64 → gW (64 * y + x) = lN (W x)) (hWb : ∀ x, x < 64 → W x < 2 ^ 31) (hy : y < 8) : Fn (S := (Nat → Int64) × (Nat → Int64) × (Nat → Int32) × (Nat → Int32)) (gG D cI cJ cT) l yX9_findAliases (.code yX9_findAliases cX9_findAliases 9 none) (rmD 1) [.ref m, .int (nI y)] [(m, .inr (9, [.int th, .int fd0, .int pc0, .int dw0, .int lt0, .ref mt, .ref mw, .ref mb, .ref ml, .ref mq, .ref mz, .ref ms, .ref mr, .int ic0, .ref mi, .int tr0, .int sg0, .int ln0, .int at0, .int rd0, .int dr0, .int ma0, .ref mk, .int en0, .ref mj, .ref mn])), (mw, .inl (cJ, 512, .inr (.inl gW))), (ms, .inl (cJ, 64, .inr (.inl gS))), (ml, .inl (cJ, 512, .inr (.inl gL))), (mq, .inl (cI, 512, .inl gQ)), (mz, .inl (cI, 8, .inl gZ)), (mr, .inl (cI, 512, .inl gR))] (fun u => ((∀ x, x < topN W 64 → u.2.1 (64 * y + x) = lN ((alS W (topN W 64) (sumN W 64)).1 x)) ∧ (∀ x, x < topN W 64 → u.2.2.1 (64 * y + x) = nI ((alS W (topN W 64) (sumN W 64)).2 x)) ∧ (∀ z, ¬ (64 * y ≤ z ∧ z < 64 * y + 64) → u.2.1 z = gL z) ∧ ∀ z, ¬ (64 * y ≤ z ∧ z < 64 * y + 64) → u.2.2.1 z = gQ z)) (fun u => none) (fun u => [(m, .inr (9, [.int th, .int fd0, .int pc0, .int dw0, .int lt0, .ref mt, .ref mw, .ref mb, .ref ml, .ref mq, .ref mz, .ref ms, .ref mr, .int ic0, .ref mi, .int tr0, .int sg0, .int ln0, .int at0, .int rd0, .int dr0, .int ma0, .ref mk, .int en0, .ref mj, .ref mn])), (mw, .inl (cJ, 512, .inr (.inl gW))), (ms, .inl (cJ, 64, .inr (.inl u.1))), (ml, .inl (cJ, 512, .inr (.inl u.2.1))), (mq, .inl (cI, 512, .inl u.2.2.1)), (mz, .inl (cI, 8, .inl (upd gZ y (nI (topN W 64))))), (mr, .inl (cI, 512, .inl u.2.2.2))]) := by
  refine Fn.intro (by decide) (Nat.le_of_ble_eq_true rfl) ?_
  intro X hX hE hin
  subst hX
  show V (gG D cI cJ cT) X _ cX9_findAliases 9 RX9 _ 0 0 [(0, .ref m), (1, .int (nI y))] 0 []
  refine v_aload_n 0 dX9_findAliases_0 rfl rfl ?_
  refine v_iload_n 1 dX9_findAliases_1 rfl rfl ?_
  refine v_callV (as := [.int (nI y)]) (rest := []) (ws' := fun u => [(m, .inr (9, [.int th, .int fd0, .int pc0, .int dw0, .int lt0, .ref mt, .ref mw, .ref mb, .ref ml, .ref mq, .ref mz, .ref ms, .ref mr, .int ic0, .ref mi, .int tr0, .int sg0, .int ln0, .int at0, .int rd0, .int dr0, .int ma0, .ref mk, .int en0, .ref mj, .ref mn])), (mw, .inl (cJ, 512, .inr (.inl gW))), (ms, .inl (cJ, 64, .inr (.inl gS))), (ml, .inl (cJ, 512, .inr (.inl gL))), (mq, .inl (cI, 512, .inl gQ)), (mz, .inl (cI, 8, .inl gZ)), (mr, .inl (cI, 512, .inl gR))]) m_SampleDeskModel_69 (kX9_sum X.l (m := m) (mt := mt) (mw := mw) (mb := mb) (ml := ml) (mq := mq) (mz := mz) (ms := ms) (mr := mr) (mi := mi) (mk := mk) (mj := mj) (mn := mn) (th := th) (fd0 := fd0) (pc0 := pc0) (dw0 := dw0) (lt0 := lt0) (ic0 := ic0) (tr0 := tr0) (sg0 := sg0) (ln0 := ln0) (at0 := at0) (rd0 := rd0) (dr0 := dr0) (ma0 := ma0) (en0 := en0) (y := y) (gW := gW) (W := W) hW hWb hy) k_code_X9_sum [0, 1] 0 rfl rfl rfl rfl dX9_findAliases_2 (Nat.le_of_ble_eq_true rfl) ⟨rfl, rfl, by decide, by decide⟩ ⟨Nat.zero_le _, Nat.zero_le _⟩ rfl rfl (fun _ => rfl) (v_mgU rfl (fun _ => rfl)) ?_
  intro uu c2
  try dsimp only at c2
  show V (gG D cI cJ cT) X (rmD 1) cX9_findAliases 9 RX9 [(m, .inr (9, [.int th, .int fd0, .int pc0, .int dw0, .int lt0, .ref mt, .ref mw, .ref mb, .ref ml, .ref mq, .ref mz, .ref ms, .ref mr, .int ic0, .ref mi, .int tr0, .int sg0, .int ln0, .int at0, .int rd0, .int dr0, .int ma0, .ref mk, .int en0, .ref mj, .ref mn])), (mw, .inl (cJ, 512, .inr (.inl gW))), (ms, .inl (cJ, 64, .inr (.inl gS))), (ml, .inl (cJ, 512, .inr (.inl gL))), (mq, .inl (cI, 512, .inl gQ)), (mz, .inl (cI, 8, .inl gZ)), (mr, .inl (cI, 512, .inl gR))] 0 0 [(0, .ref m), (1, .int (nI y))] 5 [.long (lN (sumN W 64))]
  refine v_lstore_n (lv' := [(2, .long (lN (sumN W 64))), (0, .ref m), (1, .int (nI y))]) dX9_findAliases_5 rfl (by decide) rfl ?_
  refine v_iconst (v := nI 0) dX9_findAliases_6 (by decide) ?_
  refine v_istore (lv' := [(4, .int (nI 0)), (2, .long (lN (sumN W 64))), (0, .ref m), (1, .int (nI y))]) dX9_findAliases_7 (by decide) rfl ?_
  refine v_iconst (v := nI 0) dX9_findAliases_9 (by decide) ?_
  refine v_istore (lv' := [(5, .int (nI 0)), (4, .int (nI 0)), (2, .long (lN (sumN W 64))), (0, .ref m), (1, .int (nI y))]) dX9_findAliases_10 (by decide) rfl ?_
  refine v_lv [3, 4, 2, 1, 0] rfl ?_
  exact kX9_al_top hW hWb hy (fun u hu => hu) hE 65 0 (by omega) (by omega)
