section AMALL
variable {l : Launch} {D : va_G} {cl : List vw_C} {en : XE} {rn : Nat → FieldType} {G : (Nat → Prop) → State → Heap → Prop} {T : XT} {P : List (List XI)}
/-- a method's text is what the code table says -/
def x_Ok (T : XT) (l : Launch) (D : va_G) (cl : List vw_C) (en : XE) (rn : Nat → FieldType) (G : (Nat → Prop) → State → Heap → Prop) (M : Nat) (cd : List XI) : Prop :=
  ∃ (cc : ByteArray) (ret : Option FieldType) (ws' : List Cond) (rp : Nat → Nat), plainName (T.1 M).cls = true ∧ T.2.1 M = .code (T.1 M) cc (T.2.2 M) ret :: ws' ∧ rp 0 = 0 ∧
    ∀ (p : Program) (e : Env) (R : Room) (s : State) (m : MethodId) (args : Array Value) (below : List Frame) (meth : Method) (c : Code) (s₁ : State) (A : Nat → Prop) (Q : State → Prop) (pc : Nat) (i : XI),
      8 ≤ R.frames → 128 ≤ R.locals → BodyLoose p l (T.1 M) (headSpec (T.2.1 M) R) cc (T.2.2 M) ret e s m args below meth c s₁ → c.maxLocals = T.2.2 M → (∀ q, s.heap.size ≤ q → A q) → G A s s.heap → cd[pc]? = some i →
      x_site T p l e R s m args below meth c Q D cl A en rn rp (T.2.2 M) cc pc i
set_option maxHeartbeats 1000000 in
/-- AM's runs are contracts -/
theorem x_all (hG : x_G3 G) (hno : ∀ (A : Nat → Prop) (s : State), G A s s.heap → ∃ (ty : FieldType) (f : Nat → Value), va_T ty en.2.1 0 f A s s.heap) (hrn : ∀ b, (∃ C, rn b = .object C) ∨ ∃ t, rn b = .array t) (hrob : ∀ b : Nat, x_rob[b]? = some 1 → ∃ C, rn b = .object C) (hrcs : ∀ ci b : Nat, x_rcs[ci]? = some b → ∃ q : vw_C, cl[ci]? = some q ∧ rn b = .object q.1)
    (hP : ∀ (M : Nat) (cd : List XI), x_nth P M = some cd → x_Ok T l D cl en rn G M cd) (fuel : Nat) :
    ∀ (d M : Nat) (xs : List XV) (h : XH) (n sl : Nat) (r : Nat × XV × XH × Nat × Nat), (x_flat xs).length ≤ T.2.2 M → x_dep P fuel d M (x_pad (x_flat xs) (T.2.2 M)) h n sl = some r → x_Met l D cl en rn G (T.1 M) (T.2.1 M) (d + 8) (64 * d + 128) xs h n sl r := by
  intro d
  induction d with
  | zero => intro M xs h n sl r hfl hd; cases hd
  | succ d IH =>
    intro M xs h n sl r hfl hd
    obtain ⟨cd, hcd, hrun⟩ := x_bind_some hd
    obtain ⟨cc, ret, ws', rp, hpl, hws, hrp, hok⟩ := hP M cd hcd
    have point : ∀ (ad : List Nat) (p : Program) (e : Env) (s : State) (m : MethodId) (args : Array Value) (below : List Frame) (meth : Method) (c : Code) (s₁ : State) (R : Room), R.frames = d + 1 + 8 → R.locals = 64 * (d + 1) + 128 → R.cells = r.2.2.2.1 - n → R.slots = r.2.2.2.2 - sl → BodyLoose p l (T.1 M) (headSpec (T.2.1 M) R) cc (T.2.2 M) ret e s m args below meth c s₁ → c.maxLocals = T.2.2 M → G (x_Af ad s.heap.size) s s.heap →
        x_PR p l e R s m args below meth c (x_Q below D cl en rn r ad n sl args s) D cl (x_Af ad s.heap.size) en rn rp (T.2.2 M) n sl r.2.2.2.1 r.2.2.2.2 ad 0 [] (x_pad (x_flat xs) (T.2.2 M)) h n sl := by
      intro ad p e s m args below meth c s₁ R f1 f2 f3 f4 B hml hg
      exact x_body (T := T) (d := d) (by omega) (by omega) hG hg (by omega) (by omega) B.exec B.bytes B.notSynchronized ⟨rfl, rfl⟩ (hno _ _ hg) hrn hrob hrcs IH
        (fun pc i hi => hok p e R s m args below meth c s₁ (x_Af ad s.heap.size) _ pc i (by omega) (by omega) B hml (fun q hq => Or.inr hq) hg hi) fuel 0 [] _ h n sl hrun
    intro ad sz
    refine Met.ofW (cc := cc) (maxL := T.2.2 M) (ret := ret) hpl hws ?_
    intro p e s m args below meth c s₁ B hml hv
    obtain ⟨av, rfl, hav, hsz, hM, hg⟩ := hv
    subst hsz
    obtain ⟨g1, g2, K⟩ := point ad p e s m av.toArray below meth c s₁ _ rfl rfl rfl rfl B hml hg
    rw [lg_entry_eq]
    have kk := K s.heap [] ad [] _ 0 0 rfl (x_LR_entry hav hfl) (x_M_W (x_M_A (fun q hq => Or.inl hq) hM) va_S.rf) ⟨by omega, [], by rw [List.append_nil]⟩ (by omega)
    rw [hrp] at kk
    exact kk
end AMALL
