/-! THE LAW, from its entry: what the start gives -/
theorem k_cast0 : Cond.castable "java/lang/IllegalStateException" "java/lang/IllegalStateException" ∈ lw_tbl := List.mem_append_right _ (vt_r2 (List.mem_of_getElem? (i := 20) rfl))
theorem k_cast1 : Cond.castable "java/lang/IndexOutOfBoundsException" "java/lang/IndexOutOfBoundsException" ∈ lw_tbl := List.mem_append_right _ (vt_r2 (List.mem_of_getElem? (i := 97) rfl))
theorem k_cast2 : Cond.castable "java/lang/IllegalArgumentException" "java/lang/IllegalArgumentException" ∈ lw_tbl := List.mem_append_right _ (vt_r2 (List.mem_of_getElem? (i := 112) rfl))
theorem k_cast3 : Cond.castable "java/util/NoSuchElementException" "java/util/NoSuchElementException" ∈ lw_tbl := List.mem_append_right _ (vt_r3 (List.mem_of_getElem? (i := 105) rfl))
theorem k_decl0 : Cond.declares (Bundle.init0 "java/lang/RuntimeException") ∈ lw_tbl := List.mem_append_right _ (vt_r2 (List.mem_of_getElem? (i := 21) rfl))
theorem k_decl1 : Cond.declares (Bundle.init0 "java/lang/Exception") ∈ lw_tbl := List.mem_append_right _ (vt_r2 (List.mem_of_getElem? (i := 23) rfl))
theorem k_decl2 : Cond.declares (Bundle.init0 "java/lang/Throwable") ∈ lw_tbl := List.mem_append_right _ (vt_r2 (List.mem_of_getElem? (i := 25) rfl))
theorem k_lay0 : Cond.laysStatic Bundle.tN "UNASSIGNED_STACK" Bundle.steD ∈ lw_tbl := List.mem_append_right _ (vt_r2 (List.mem_of_getElem? (i := 45) rfl))
theorem k_lay1 : Cond.laysStatic Bundle.tN "SUPPRESSED_SENTINEL" Bundle.listD ∈ lw_tbl := List.mem_append_right _ (vt_r2 (List.mem_of_getElem? (i := 47) rfl))
theorem k_nc01 : Cond.not (.castable "java/lang/IllegalStateException" "java/lang/IndexOutOfBoundsException") ∈ flatC (Jvm.Cond.and given_1 narrow_1) := by decide +kernel
theorem k_nc02 : Cond.not (.castable "java/lang/IllegalStateException" "java/lang/IllegalArgumentException") ∈ flatC (Jvm.Cond.and given_1 narrow_1) := by decide +kernel
theorem k_nc03 : Cond.not (.castable "java/lang/IllegalStateException" "java/util/NoSuchElementException") ∈ flatC (Jvm.Cond.and given_1 narrow_1) := by decide +kernel
theorem k_nc10 : Cond.not (.castable "java/lang/IndexOutOfBoundsException" "java/lang/IllegalStateException") ∈ flatC (Jvm.Cond.and given_1 narrow_1) := by decide +kernel
theorem k_nc12 : Cond.not (.castable "java/lang/IndexOutOfBoundsException" "java/lang/IllegalArgumentException") ∈ flatC (Jvm.Cond.and given_1 narrow_1) := by decide +kernel
theorem k_nc13 : Cond.not (.castable "java/lang/IndexOutOfBoundsException" "java/util/NoSuchElementException") ∈ flatC (Jvm.Cond.and given_1 narrow_1) := by decide +kernel
theorem k_nc20 : Cond.not (.castable "java/lang/IllegalArgumentException" "java/lang/IllegalStateException") ∈ flatC (Jvm.Cond.and given_1 narrow_1) := by decide +kernel
theorem k_nc21 : Cond.not (.castable "java/lang/IllegalArgumentException" "java/lang/IndexOutOfBoundsException") ∈ flatC (Jvm.Cond.and given_1 narrow_1) := by decide +kernel
theorem k_nc23 : Cond.not (.castable "java/lang/IllegalArgumentException" "java/util/NoSuchElementException") ∈ flatC (Jvm.Cond.and given_1 narrow_1) := by decide +kernel
theorem k_nc30 : Cond.not (.castable "java/util/NoSuchElementException" "java/lang/IllegalStateException") ∈ flatC (Jvm.Cond.and given_1 narrow_1) := by decide +kernel
theorem k_nc31 : Cond.not (.castable "java/util/NoSuchElementException" "java/lang/IndexOutOfBoundsException") ∈ flatC (Jvm.Cond.and given_1 narrow_1) := by decide +kernel
theorem k_nc32 : Cond.not (.castable "java/util/NoSuchElementException" "java/lang/IllegalArgumentException") ∈ flatC (Jvm.Cond.and given_1 narrow_1) := by decide +kernel
theorem k_ref0 : Cond.isRef (.static Bundle.tN "UNASSIGNED_STACK" Bundle.steD) ∈ flatC (Jvm.Cond.and given_1 narrow_1) := by decide +kernel
theorem k_ref1 : Cond.isRef (.static Bundle.tN "SUPPRESSED_SENTINEL" Bundle.listD) ∈ flatC (Jvm.Cond.and given_1 narrow_1) := by decide +kernel
theorem st_E {args : Array Value} {s : State} (hts : ∀ w ∈ lw_tbl, w.before args s = true) (hgv : (Jvm.Cond.and given_1 narrow_1).before args s = true) : vz_E s := by
  have hf := flat_of_before _ hgv
  refine ⟨?_, ?_, ?_⟩
  · exact List.forall_mem_cons.mpr ⟨va_Nw.of rfl (hts _ k_cast0), List.forall_mem_cons.mpr ⟨va_Nw.of rfl (hts _ k_cast1), List.forall_mem_cons.mpr ⟨va_Nw.of rfl (hts _ k_cast2), List.forall_mem_cons.mpr ⟨va_Nw.of rfl (hts _ k_cast3), fun _ h => absurd h List.not_mem_nil⟩⟩⟩⟩
  · refine List.forall_mem_cons.mpr ⟨?_, List.forall_mem_cons.mpr ⟨?_, List.forall_mem_cons.mpr ⟨?_, List.forall_mem_cons.mpr ⟨?_, fun _ h => absurd h List.not_mem_nil⟩⟩⟩⟩
    · exact List.forall_mem_cons.mpr ⟨fun h => absurd rfl h, List.forall_mem_cons.mpr ⟨fun _ => va_Nc.of (hf _ k_nc01), List.forall_mem_cons.mpr ⟨fun _ => va_Nc.of (hf _ k_nc02), List.forall_mem_cons.mpr ⟨fun _ => va_Nc.of (hf _ k_nc03), fun _ h => absurd h List.not_mem_nil⟩⟩⟩⟩
    · exact List.forall_mem_cons.mpr ⟨fun _ => va_Nc.of (hf _ k_nc10), List.forall_mem_cons.mpr ⟨fun h => absurd rfl h, List.forall_mem_cons.mpr ⟨fun _ => va_Nc.of (hf _ k_nc12), List.forall_mem_cons.mpr ⟨fun _ => va_Nc.of (hf _ k_nc13), fun _ h => absurd h List.not_mem_nil⟩⟩⟩⟩
    · exact List.forall_mem_cons.mpr ⟨fun _ => va_Nc.of (hf _ k_nc20), List.forall_mem_cons.mpr ⟨fun _ => va_Nc.of (hf _ k_nc21), List.forall_mem_cons.mpr ⟨fun h => absurd rfl h, List.forall_mem_cons.mpr ⟨fun _ => va_Nc.of (hf _ k_nc23), fun _ h => absurd h List.not_mem_nil⟩⟩⟩⟩
    · exact List.forall_mem_cons.mpr ⟨fun _ => va_Nc.of (hf _ k_nc30), List.forall_mem_cons.mpr ⟨fun _ => va_Nc.of (hf _ k_nc31), List.forall_mem_cons.mpr ⟨fun _ => va_Nc.of (hf _ k_nc32), List.forall_mem_cons.mpr ⟨fun h => absurd rfl h, fun _ h => absurd h List.not_mem_nil⟩⟩⟩⟩
  · exact List.forall_mem_cons.mpr ⟨va_Nw.of rfl (hts _ k_decl0), List.forall_mem_cons.mpr ⟨va_Nw.of rfl (hts _ k_decl1), List.forall_mem_cons.mpr ⟨va_Nw.of rfl (hts _ k_decl2), fun _ h => absurd h List.not_mem_nil⟩⟩⟩
theorem st_T {args : Array Value} {s : State} (hts : ∀ w ∈ lw_tbl, w.before args s = true) (hgv : (Jvm.Cond.and given_1 narrow_1).before args s = true) : vz_T (fun q => s.heap.size ≤ q) s s.heap := by
  have hf := flat_of_before _ hgv
  have hi : (Cond.initialized Bundle.tN).before args s = true := hts _ (List.mem_filter.mp k_ini_java_lang_Throwable).1
  exact ⟨vx_Zqof (hts _ k_lay0) hi (hf _ k_ref0) (fun a h => Nat.not_le.mpr h), vx_Zqof (hts _ k_lay1) hi (hf _ k_ref1) (fun a h => Nat.not_le.mpr h)⟩
theorem whole_start {p : Program} {e : Env} {s : State} {m : MethodId} {below : List Frame} {meth : Method} {c : Code} (l : Launch) (hst : l.stackTraces = false) {b L : Nat} {xs : Nat → Int32} (hL : L ≤ 3584) (C0 : lw_At p s m meth c b L xs) : W p l e room_1 s m #[Value.ref b] below meth c s.heap [] 0 0 (lw_Z below #[Value.ref b] s) (entryFrame m ([Value.ref b] : List Value).toArray 8) := by
  obtain ⟨hx, hb, hr, hml, hown, hts, hX, hbl, hlocks, hgv⟩ := C0
  have hv : ∀ w ∈ vT, w.before #[Value.ref b] s = true := fun w hw => hts w (List.mem_filter.mp hw).1
  obtain ⟨c0, i0, u0⟩ := u_known hv inV0 (hv _ k_inst_Dice)
  obtain ⟨c1, i1, u1⟩ := u_known hv inV1 (hv _ k_inst_Laws)
  obtain ⟨c2, i2, u2⟩ := u_known hv inV2 (hv _ k_inst_Log)
  obtain ⟨c3, i3, u3⟩ := u_known hv inV3 (hv _ k_inst_Order)
  obtain ⟨c4, i4, u4⟩ := u_known hv inV4 (hv _ k_inst_Rows)
  obtain ⟨c5, i5, u5⟩ := u_known hv inV5 (hv _ k_inst_Sampler)
  obtain ⟨c6, i6, u6⟩ := u_known hv inV6 (hv _ k_inst_Table)
  obtain ⟨c7, i7, u7⟩ := u_known hv inV7 (hv _ k_inst_Tape)
  obtain ⟨c8, i8, u8⟩ := u_known hv inV8 (hv _ k_inst_SampleDesk)
  obtain ⟨c9, i9, u9⟩ := u_known hv inV9 (hv _ k_inst_SampleDeskModel)
  obtain ⟨cI, kI, mI, a1, a2, a3⟩ := Cond.arrayClass_spec (hv _ k_arr_int)
  obtain ⟨cJ, kJ, mJ, b1, b2, b3⟩ := Cond.arrayClass_spec (hv _ k_arr_long)
  obtain ⟨mT, cT, kT, d1, d2, d3, d4, d5⟩ := Cond.arrayOver_spec (hts _ k_ao_Table)
  have hK : va_K ((fun k => [c0, c1, c2, c3, c4, c5, c6, c7, c8, c9].getD k c0), (fun k => [i0, i1, i2, i3, i4, i5, i6, i7, i8, i9].getD k i0)) vwCl [(cI, .int), (cJ, .long), (cT, .object RX6)] s := by
    refine ⟨fun k q hk => ?_, fun k q hk => ?_⟩
    · have hlt : k < 10 := (List.getElem?_eq_some_iff.mp hk).1
      rcases (show k = 0 ∨ k = 1 ∨ k = 2 ∨ k = 3 ∨ k = 4 ∨ k = 5 ∨ k = 6 ∨ k = 7 ∨ k = 8 ∨ k = 9 by omega) with rfl | rfl | rfl | rfl | rfl | rfl | rfl | rfl | rfl | rfl
      · cases hk; exact u0
      · cases hk; exact u1
      · cases hk; exact u2
      · cases hk; exact u3
      · cases hk; exact u4
      · cases hk; exact u5
      · cases hk; exact u6
      · cases hk; exact u7
      · cases hk; exact u8
      · cases hk; exact u9
    · have hlt : k < 3 := (List.getElem?_eq_some_iff.mp hk).1
      rcases (show k = 0 ∨ k = 1 ∨ k = 2 by omega) with rfl | rfl | rfl
      · cases hk; exact ⟨fun N z => ⟨fun k h => (by cases h), kI, a2, mI, a3⟩, a1⟩
      · cases hk; exact ⟨fun N z => ⟨fun k h => (by cases h), kJ, b2, mJ, b3⟩, b1⟩
      · cases hk; exact ⟨fun N z => ⟨fun k h => (by cases h), kT, d3, mT, d4⟩, kT, mT, d3, d4, d1, d5⟩
  have hi : iP0 s := ⟨va_AO.of (hts _ k_ao_Table), va_Nw.of rfl (hts _ k_mn_SampleDesk_11), va_Nw.of rfl (hts _ k_mn_SampleDesk_14), va_Nw.of rfl (hts _ k_mn_SampleDesk_17), va_Nw.of rfl (hts _ k_mn_SampleDesk_45), va_Nw.of rfl (hts _ k_mn_SampleDesk_52)⟩
  have hl := lv_entry ([Value.ref b] : List Value) (n := 8) (Nat.le_of_ble_eq_true rfl)
  rw [lg_entry_eq]
  exact law_entry (cI := cI) (cJ := cJ) (cT := cT) (X := (p, l, e, s, m, #[Value.ref b], below, meth, c, lw_Z below #[Value.ref b] s, fun q => s.heap.size ≤ q)) ⟨st_E hts hgv, st_T hts hgv, hst⟩ hX hbl (Nat.not_le.mpr hbl) hL rfl rfl (fun _ h => h) hr (fun U hW => iP0_w hW hi) ⟨hx, hb, hml, hown, hv, hK, fun _ h => h, hlocks⟩ s.heap [] _ (fun k q h => by simp at h) ⟨fun i j p q h => by simp at h, fun k q h => by simp at h⟩ va_S.rf hl
