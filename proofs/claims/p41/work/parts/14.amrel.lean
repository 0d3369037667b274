section AMREL
/-- what is outside: the script's address, that of NO_CELLS, those of the String constants -/
abbrev XE : Type := Nat × Nat × (Nat → Nat)
/-- v is what x says, with cell k at ad[k] -/
def x_V (ad : List Nat) (en : XE) (x : XV) (v : Value) : Prop := match x.1 with
  | 0 => v = .int (Int32.ofNat x.2.1)
  | 1 => ∃ y : Int32, v = .int y ∧ (x.2.1 : Int) ≤ y.toInt + 2147483648 ∧ y.toInt + 2147483648 ≤ (x.2.2 : Int)
  | 2 => v = .long (Int64.ofNat x.2.1)
  | 3 => ∃ y : Int64, v = .long y ∧ (x.2.1 : Int) ≤ y.toInt + 9223372036854775808 ∧ y.toInt + 9223372036854775808 ≤ (x.2.2 : Int)
  | 4 => ∃ y : UInt64, v = .double y
  | 5 => v = .null
  | 6 => ∃ a, ad[x.2.1]? = some a ∧ v = .ref a
  | 7 => v = .null ∨ ∃ a, v = .ref a
  | 8 => v = .ref (en.2.2 x.2.1)
  | 9 => v = .ref en.1
  | 10 => ∃ y : Int32, v = .int y ∧ y &&& 63 = Int32.ofNat x.2.1
  | 12 => v = .ref en.2.1
  | _ => False
theorem x_V_grow {ad ad2 : List Nat} {en : XE} {x : XV} {v : Value} (h : x_V ad en x v) : x_V (ad ++ ad2) en x v := by
  obtain ⟨t, a, b⟩ := x
  by_cases ht : t = 6
  · subst ht
    obtain ⟨q, h1, h2⟩ := h
    exact ⟨q, by rw [List.getElem?_append_left (List.getElem?_eq_some_iff.mp h1).1]; exact h1, h2⟩
  · unfold x_V at h ⊢
    dsimp only at h ⊢
    split at h <;> first | exact h | exact absurd rfl ht | skip
    all_goals first | exact h | (exfalso; exact ht rfl)
theorem x_V_cat {ad : List Nat} {en : XE} {x : XV} {v : Value} (h : x_V ad en x v) : v.category = if x_cat2 x = true then 2 else 1 := by
  obtain ⟨t, a, b⟩ := x
  unfold x_V at h
  dsimp only at h
  split at h
  · subst h; rfl
  · obtain ⟨y, rfl, -⟩ := h; rfl
  · subst h; rfl
  · obtain ⟨y, rfl, -⟩ := h; rfl
  · obtain ⟨y, rfl⟩ := h; rfl
  · subst h; rfl
  · obtain ⟨y, -, rfl⟩ := h; rfl
  · rcases h with rfl | ⟨a, rfl⟩ <;> rfl
  · subst h; rfl
  · subst h; rfl
  · obtain ⟨y, rfl, -⟩ := h; rfl
  · subst h; rfl
  · exact h.elim
/-- the stack -/
def x_SR (ad : List Nat) (en : XE) : List XV → List Value → Prop
  | [], st => st = []
  | x :: t, st => ∃ v r, st = v :: r ∧ x_V ad en x v ∧ x_SR ad en t r
/-- the locals -/
def x_LR (ad : List Nat) (en : XE) (nL : Nat) (loc : List XV) (ls : Array Slot) : Prop :=
  loc.length = nL ∧ ∃ lv : List (Nat × Value), lv_has ls nL lv ∧ ∀ i x, loc[i]? = some x → x.1 ≠ 11 → ∃ v, (i, v) ∈ lv ∧ x_V ad en x v
/-- the type of the places of an array of kind t, class b -/
def x_ty (rn : Nat → FieldType) (t b : Nat) : FieldType := match t with
  | 1 => .int
  | 2 => .byte
  | 3 => .boolean
  | 4 => .char
  | 5 => .short
  | 6 => .long
  | 7 => .double
  | _ => rn b
/-- a cell -/
def x_C (ad : List Nat) (en : XE) (rn : Nat → FieldType) (tys : List (ClassId × FieldType)) (c : XC) (e : va_E) : Prop :=
  (c.1 = 0 ∧ ∃ vs : List Value, e = .inr (c.2.1, vs) ∧ vs.length = x_glen c.2.2 ∧ ∀ i x, x_gget c.2.2 i = some x → ∃ v, vs[i]? = some v ∧ x_V ad en x v) ∨
  ((1 ≤ c.1 ∧ c.1 ≤ 5) ∧ ∃ (cA : ClassId) (f : Nat → Int32) (t0 : Nat), e = .inl (cA, x_glen c.2.2, .inl f) ∧ tys[t0]? = some (cA, x_ty rn c.1 c.2.1) ∧ ∀ i x, x_gget c.2.2 i = some x → x_V ad en x (.int (f i))) ∨
  (c.1 = 6 ∧ ∃ (cA : ClassId) (f : Nat → Int64) (t0 : Nat), e = .inl (cA, x_glen c.2.2, .inr (.inl f)) ∧ tys[t0]? = some (cA, .long) ∧ ∀ i x, x_gget c.2.2 i = some x → x_V ad en x (.long (f i))) ∨
  (c.1 = 8 ∧ ∃ (cA : ClassId) (f : Nat → Option Nat) (t0 : Nat), e = .inl (cA, x_glen c.2.2, .inr (.inr (.inr (.inr f)))) ∧ tys[t0]? = some (cA, rn c.2.1) ∧ ∀ i x, x_gget c.2.2 i = some x → x_V ad en x (va_rf (f i)))
/-- the world: n cells, laid out as h says -/
def x_W (D : va_G) (cl : List vw_C) (A : Nat → Prop) (en : XE) (rn : Nat → FieldType) (s : State) (H : Heap) (locs : List Loc) (h : XH) (n : Nat) (ad : List Nat) : Prop :=
  ∃ (ws : va_W) (tys : List (ClassId × FieldType)), ad = ws.map Prod.fst ∧ ws.length = n ∧ va_K D cl tys s ∧ va_P D cl ws H ∧ va_D A ws ∧ va_S A s.heap H locs ∧
    ∀ k c, x_hget h k = some c → ∃ q : Nat × va_E, ws[k]? = some q ∧ x_C ad en rn tys c q.2
/-- how many cells since the start, and which came first -/
def x_E (ad0 ad : List Nat) (cells n0 n : Nat) : Prop := cells + n0 = n ∧ ∃ ad2, ad = ad0 ++ ad2
theorem x_E_push {ad0 ad : List Nat} {cells n0 n q : Nat} (h : x_E ad0 ad cells n0 n) : x_E ad0 (ad ++ [q]) (cells + 1) n0 (n + 1) := by
  obtain ⟨h1, ad2, rfl⟩ := h
  exact ⟨by omega, ad2 ++ [q], List.append_assoc _ _ _⟩
section OPS
variable {p : Program} {l : Launch} {e : Env} {R : Room} {s : State} {m : MethodId} {args : Array Value} {below : List Frame} {meth : Method} {c : Code} {Q : State → Prop}
variable {cc : ByteArray} {D : va_G} {cl : List vw_C} {A : Nat → Prop} {en : XE} {rn : Nat → FieldType} {rp : Nat → Nat} {nL n0 sl0 nF slF : Nat} {ad0 : List Nat}
/-- AM's point is the machine's: what AM says of the end is the machine's end -/
def x_PR (p : Program) (l : Launch) (e : Env) (R : Room) (s : State) (m : MethodId) (args : Array Value) (below : List Frame) (meth : Method) (c : Code) (Q : State → Prop) (D : va_G) (cl : List vw_C) (A : Nat → Prop) (en : XE) (rn : Nat → FieldType) (rp : Nat → Nat) (nL n0 sl0 nF slF : Nat) (ad0 : List Nat) (pc : Nat) (stk loc : List XV) (h : XH) (n sl : Nat) : Prop :=
  n ≤ nF ∧ sl ≤ slF ∧ ∀ (H : Heap) (locs : List Loc) (ad : List Nat) (st : List Value) (ls : Array Slot) (cells slots : Nat), x_SR ad en stk st → x_LR ad en nL loc ls → x_W D cl A en rn s H locs h n ad → x_E ad0 ad cells n0 n → slots + sl0 = sl →
    W p l e R s m args below meth c H locs cells slots Q (F0 m (rp pc) ls st)
theorem x_SR_cons {ad : List Nat} {x : XV} {t : List XV} {st : List Value} (h : x_SR ad en (x :: t) st) : ∃ v r, st = v :: r ∧ x_V ad en x v ∧ x_SR ad en t r := h
theorem x_SR_mk {ad : List Nat} {x : XV} {t : List XV} {v : Value} {r : List Value} (h1 : x_V ad en x v) (h2 : x_SR ad en t r) : x_SR ad en (x :: t) (v :: r) := ⟨v, r, rfl, h1, h2⟩
theorem x_LR_get {ad : List Nat} {loc : List XV} {ls : Array Slot} {i : Nat} {x : XV} (h : x_LR ad en nL loc ls) (hx : loc[i]? = some x) (h11 : x.1 ≠ 11) : ∃ v, ls[i]? = some (.val v) ∧ x_V ad en x v := by
  obtain ⟨-, lv, h1, h2⟩ := h
  obtain ⟨v, h3, h4⟩ := h2 i x hx h11
  exact ⟨v, h1.2.2 (i, v) h3, h4⟩
end OPS
end AMREL
