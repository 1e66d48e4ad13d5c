/-! what each kind answers -/
abbrev sR : Type := Int64 × Nat × (Nat → Nat)
def oM (o : Option (Nat × Nat)) (g : Nat → Int64) : Option (sR × Nat) := match o with
  | none => none
  | some q => some ((g q.1, 0, fun _ => 0), q.2)
def oF (o : Option ((Nat → Nat) × Nat)) (n : Nat) : Option (sR × Nat) := match o with
  | none => none
  | some q => some ((lN n, n, q.1), q.2)
def oS (o : Option ((Nat × (Nat → Nat)) × Nat)) : Option (sR × Nat) := match o with
  | none => none
  | some q => some ((lN q.1.1, q.1.1, q.1.2), q.2)
def sAns (b : Nat → Nat) (e k x y z : Nat) (W : Nat → Nat) (mm p : Nat) : Option (sR × Nat) := match k with
  | 0 => oM (sTab b e W mm p) lN
  | 1 => oM (sUni b e (x + 2147483648 * y) p) lN
  | 2 => oM (sCoin b e x y p) lN
  | 3 => oM (sBin b e y z x 0 p) lN
  | 4 => oM (sGeo b e x y z 0 p) lN
  | 5 => oM (sPoisson b e x y p) lN
  | 6 => oM (sHyp b e z x y 0 p) lN
  | 7 => oM (sBell b e x y p) blI
  | 8 => oM (sExp b e x y p) lN
  | 9 => oF (sShu b e x p) x
  | 10 => oS (sSub b e x y p)
  | 11 => oF (sPat b e x p) (2 * x)
  | 12 => oF (sTre b e x p) x
  | _ => oF (sStr b e x y p) x
/-- what a machine's answer has to do with it -/
def mA (an : Int64) (sz : Nat) (gi : Nat → Int32) : sR → Prop := fun x => an = x.1 ∧ sz = x.2.1 ∧ ∀ y, y < sz → gi y = nI (x.2.2 y)
theorem Rl_oM {o : Option (Nat × Nat)} {g : Nat → Int64} {e p r p1 : Nat} {dr d1 : Bool} {gi : Nat → Int32} (h : Rl o e p dr (r, p1, d1)) : Rg (oM o g) e p dr (mA (g r) 0 gi) p1 d1 := by
  obtain ⟨a1, a2, a3, a4, a5⟩ := h
  refine ⟨a1, fun hd => ?_, a3, a4, a5⟩
  rcases a2 hd with ⟨q, h2, h3⟩ | ⟨h2, h3⟩
  · simp only [Prod.mk.injEq] at h3
    refine Or.inl ⟨_, by rw [h2]; rfl, ⟨by rw [h3.1], rfl, fun y hy => absurd hy (Nat.not_lt_zero y)⟩, h3.2.1, h3.2.2⟩
  · exact Or.inr ⟨by rw [h2]; rfl, h3⟩
theorem Rg_oF {o : Option ((Nat → Nat) × Nat)} {e p n p1 : Nat} {dr d1 : Bool} {gi : Nat → Int32} (h : Rg o e p dr (fun F => ∀ x, x < n → gi x = nI (F x)) p1 d1) : Rg (oF o n) e p dr (mA (lN n) n gi) p1 d1 :=
  Rg_map h (fun _ _ F ho hm => ⟨_, by rw [ho]; rfl, rfl, rfl, hm⟩) (fun _ ho => by rw [ho]; rfl)
theorem Rg_oS {o : Option ((Nat × (Nat → Nat)) × Nat)} {e p c p1 : Nat} {dr d1 : Bool} {gi : Nat → Int32} (h : Rg o e p dr (fun a => c = a.1 ∧ ∀ x, x < a.1 → gi x = nI (a.2 x)) p1 d1) : Rg (oS o) e p dr (mA (lN c) c gi) p1 d1 :=
  Rg_map h (fun _ _ F ho hm => ⟨_, by rw [ho]; rfl, by rw [hm.1], hm.1, fun y hy => hm.2 y (by rw [← hm.1]; exact hy)⟩) (fun _ ho => by rw [ho]; rfl)
