/-! the caller's world behind a call, laid in one pass -/
def v_pk (k : Nat) (c : Nat × va_E) : List Nat → va_W → Nat × va_E
  | i :: is, w :: w1 => match Nat.beq i k with
    | true => w
    | false => v_pk k c is w1
  | _, _ => c
def v_mg : Nat → va_W → List Nat → va_W → va_W
  | _, [], _, _ => []
  | k, c :: ws, is, w1 => v_pk k c is w1 :: v_mg (k + 1) ws is w1
theorem v_mg_at : ∀ (ws : va_W) (j k : Nat) (is : List Nat) (w1 : va_W), (v_mg j ws is w1)[k]? = (ws[k]?).map (fun c => v_pk (j + k) c is w1) := by
  intro ws
  induction ws with
  | nil => intro j k is w1; simp [v_mg]
  | cons c ws ih =>
    intro j k is w1
    cases k with
    | zero => simp [v_mg]
    | succ k => simp only [v_mg, List.getElem?_cons_succ]; rw [ih, show j + 1 + k = j + (k + 1) by omega]
theorem v_pk_no {k : Nat} {c : Nat × va_E} : ∀ (is : List Nat) (w1 : va_W), k ∉ is → v_pk k c is w1 = c := by
  intro is
  induction is with
  | nil => intro w1 _; rfl
  | cons i is ih =>
    intro w1 h
    cases w1 with
    | nil => rfl
    | cons w w1 =>
      have h1 : ¬ i = k := fun q => h (by simp [q])
      have h2 : Nat.beq i k = false := by
        cases hb : Nat.beq i k
        · rfl
        · exact absurd (Nat.eq_of_beq_eq_true hb) h1
      simp only [v_pk, h2]
      exact ih w1 (fun q => h (List.mem_cons_of_mem _ q))
theorem v_upds_mg {k : Nat} : ∀ (is : List Nat) (ws w1 : va_W), is.Nodup → (v_upds ws is w1)[k]? = (ws[k]?).map (fun c => v_pk k c is w1) := by
  intro is
  induction is with
  | nil => intro ws w1 _; simp [v_upds, v_pk]
  | cons i is ih =>
    intro ws w1 hn
    have hn2 := List.nodup_cons.mp hn
    cases w1 with
    | nil => simp [v_upds, v_pk]
    | cons w w1 =>
      simp only [v_upds]
      rw [ih _ _ hn2.2]
      by_cases hk : i = k
      · subst hk
        have hb : Nat.beq i i = true := Nat.beq_refl i
        simp only [v_pk, hb]
        by_cases hl : i < ws.length
        · rw [List.getElem?_set_self hl, List.getElem?_eq_getElem hl]
          simp [v_pk_no is w1 hn2.1]
        · rw [List.getElem?_eq_none (by simp; omega), List.getElem?_eq_none (by omega)]
          rfl
      · have h2 : Nat.beq i k = false := by
          cases hb : Nat.beq i k
          · rfl
          · exact absurd (Nat.eq_of_beq_eq_true hb) hk
        rw [List.getElem?_set_ne hk]
        simp only [v_pk, h2]
theorem v_nd : ∀ (l : List Nat), va_nd l = true → l.Nodup := by
  intro l
  induction l with
  | nil => intro _; exact List.nodup_nil
  | cons a l ih =>
    intro h
    simp only [va_nd, Bool.and_eq_true, decide_eq_true_eq] at h
    exact List.nodup_cons.mpr ⟨h.1, ih h.2⟩
theorem v_mgU {S : Type} {ws : va_W} {is : List Nat} {W1 ws' : S → va_W} (hn : va_nd is = true) (h : ∀ u, v_mg 0 ws is (W1 u) = ws' u) : ∀ u, v_upds ws is (W1 u) = ws' u := by
  intro u
  rw [← h u]
  apply List.ext_getElem?
  intro k
  rw [v_upds_mg is ws (W1 u) (v_nd is hn), v_mg_at, Nat.zero_add]
