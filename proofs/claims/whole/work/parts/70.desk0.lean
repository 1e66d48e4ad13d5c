/-! the desk's methods: rooms, ranges -/
abbrev rmX (d : Nat) : Room := { frames := d, cells := 1, slots := 6, locals := 44 * d }
theorem vEx.r {S SX : Type} {G : vG} {X : vX} {ret : Option FieldType} {W0 : va_W} {post : S → Prop} {o : S → Option Value} {W1 : S → va_W} {px : String → SX → Prop} {WX : SX → va_W} (h : vEx G X ret W0 post o W1 px WX) : vEx G X X.meth.sig.returnType W0 post o W1 px WX := ⟨h.1, h.2.1, rfl, h.2.2.2⟩
/-- an int that is one of the first m numbers -/
def inR (x : Int32) (m : Nat) : Prop := ∃ a, a < m ∧ x = nI a
theorem inR_neg {x : Int32} {m : Nat} (hm : m ≤ 2 ^ 31) (h : x < 0) : ¬ inR x m := fun ⟨a, ha, e⟩ => absurd h (by subst e; exact fun q => absurd ((nI_ltI (b := 0) (by omega) (by decide)).mp q) (by omega))
theorem inR_nI {a m : Nat} (ha : a < 2 ^ 31) (hm : m ≤ 2 ^ 31) : inR (nI a) m ↔ a < m := ⟨fun ⟨b, hb, e⟩ => by rw [(nI_eq ha (by omega)).mp e]; exact hb, fun h => ⟨a, h, rfl⟩⟩
def TabSt (M : Nat) (mI : Int32) (tp sm : Nat) (W : Nat → Nat) (gp : Nat → Int32) (gr : Nat → Int64) : Prop := M ≤ 2 ∧ tp ≤ 64 ∧ (M = 0 → mI = -1) ∧ (0 < M → TabOk mI tp sm W (M - 1) gp gr)
