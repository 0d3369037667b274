section AMOPS10
variable {p : Program} {l : Launch} {e : Env} {R : Room} {s : State} {m : MethodId} {args : Array Value} {below : List Frame} {meth : Method} {c : Code} {Q : State → Prop}
variable {cc : ByteArray} {D : va_G} {cl : List vw_C} {A : Nat → Prop} {en : XE} {rn : Nat → FieldType} {rp : Nat → Nat} {nL n0 sl0 nF slF : Nat} {ad0 : List Nat}
variable {P : XK} {ih : XF} {code : List XI} {i : XI} {pc n sl : Nat} {stk loc : List XV} {h : XH} {r : Nat × XV × XH × Nat × Nat}
/-- a field is read -/
def xs_getf (p : Program) (l : Launch) (e : Env) (R : Room) (s : State) (m : MethodId) (args : Array Value) (below : List Frame) (meth : Method) (c : Code) (Q : State → Prop) (D : va_G) (cl : List vw_C) (A : Nat → Prop) (rp : Nat → Nat) (pc : Nat) (i : XI) : Prop :=
  ∀ (H : Heap) (locs : List Loc) (ls : Array Slot) (cells slots : Nat) (st : List Value) (ws : va_W) (tys : List (ClassId × FieldType)) (q0 a : Nat) (fs : List Value) (v : Value), va_K D cl tys s → va_P D cl ws H → ws[q0]? = some (a, .inr (i.2.1, fs)) → fs[i.2.2.1]? = some v →
    W p l e R s m args below meth c H locs cells slots Q (F0 m (rp (pc + 1)) ls (v :: st)) → W p l e R s m args below meth c H locs cells slots Q (F0 m (rp pc) ls (.ref a :: st))
def x_fit (t : Nat) (v : Value) : Prop := match t with
  | 1 => ∃ y, v = .int y
  | 2 => ∃ n, n ≤ 127 ∧ v = .int (Int32.ofNat n)
  | 3 => ∃ n, n ≤ 1 ∧ v = .int (Int32.ofNat n)
  | 4 => ∃ n, n ≤ 65535 ∧ v = .int (Int32.ofNat n)
  | 5 => ∃ n, n ≤ 32767 ∧ v = .int (Int32.ofNat n)
  | 6 => ∃ y, v = .long y
  | 7 => ∃ y, v = .double y
  | _ => v = .null ∨ ∃ a, v = .ref a
/-- a field is written -/
def xs_putf (p : Program) (l : Launch) (e : Env) (R : Room) (s : State) (m : MethodId) (args : Array Value) (below : List Frame) (meth : Method) (c : Code) (Q : State → Prop) (D : va_G) (cl : List vw_C) (A : Nat → Prop) (rp : Nat → Nat) (pc : Nat) (i : XI) : Prop :=
  ∀ (H : Heap) (locs : List Loc) (ls : Array Slot) (cells slots : Nat) (st : List Value) (ws : va_W) (tys : List (ClassId × FieldType)) (q0 a : Nat) (fs : List Value) (v : Value), va_K D cl tys s → va_P D cl ws H → va_D A ws → va_S A s.heap H locs → ws[q0]? = some (a, .inr (i.2.1, fs)) → i.2.2.1 < fs.length → x_fit (x_hd i.2.2.2) v →
    (∀ (H1 : Heap) (locs1 : List Loc), va_P D cl (ws.set q0 (a, .inr (i.2.1, fs.set i.2.2.1 v))) H1 → va_D A (ws.set q0 (a, .inr (i.2.1, fs.set i.2.2.1 v))) → va_S A s.heap H1 locs1 → W p l e R s m args below meth c H1 locs1 cells slots Q (F0 m (rp (pc + 1)) ls st)) → W p l e R s m args below meth c H locs cells slots Q (F0 m (rp pc) ls (v :: .ref a :: st))
theorem x_fitv_sound {ad : List Nat} {x : XV} {v : Value} {t : Nat} (ht : t ≤ 8 ∧ 1 ≤ t) (hf : x_fitv t x = true) (hv : x_V ad en x v) : x_fit t v := by
  unfold x_fitv at hf
  cases hkd : Nat.beq (x_kd x.1) (x_akd t) with
  | false => rw [hkd] at hf; cases hf
  | true =>
    rw [hkd, x_if_true] at hf
    have hkd := x_beq hkd
    obtain ⟨k0, k1, k2, k3⟩ := x_V_kd hv
    have small : ∀ b : Nat, x_if (Nat.beq x.1 0) (Nat.ble x.2.1 b) false = true → ∃ n, n ≤ b ∧ v = .int (Int32.ofNat n) := by
      intro b hb
      cases h0 : Nat.beq x.1 0 with
      | false => rw [h0] at hb; cases hb
      | true =>
        rw [h0, x_if_true] at hb
        exact ⟨x.2.1, x_ble hb, x_V_tag0 hv h0⟩
    match t, ht with
    | 1, _ => exact k0 hkd
    | 2, _ => exact small _ hf
    | 3, _ => exact small _ hf
    | 4, _ => exact small _ hf
    | 5, _ => exact small _ hf
    | 6, _ => exact k1 hkd
    | 7, _ => exact k3 hkd
    | 8, _ => exact k2 hkd
set_option maxHeartbeats 1000000 in
theorem xk_getf (hs : xs_getf p l e R s m args below meth c Q D cl A rp pc i) (hr : xo_getf P ih code i pc stk loc h n sl = some r)
    (hk : ∀ pc stk loc h n sl, ih code pc stk loc h n sl = some r → x_PR p l e R s m args below meth c Q D cl A en rn rp nL n0 sl0 nF slF ad0 pc stk loc h n sl) : x_PR p l e R s m args below meth c Q D cl A en rn rp nL n0 sl0 nF slF ad0 pc stk loc h n sl := by
  obtain ⟨x, t, rfl, hr⟩ := x_lrec hr
  obtain ⟨h1, hr⟩ := x_if_n hr
  obtain ⟨cell, h2, hr⟩ := x_orec hr
  obtain ⟨h3, hr⟩ := x_if_n hr
  obtain ⟨h4, hr⟩ := x_if_n hr
  obtain ⟨v, h5, hr⟩ := x_orec hr
  rw [x_force_eq] at hr
  obtain ⟨g1, g2, K⟩ := hk _ _ _ _ _ _ hr
  refine ⟨g1, g2, fun H locs ad st ls cells slots hst hls hw hc hsl => ?_⟩
  obtain ⟨vx, st3, rfl, hvx, hst3⟩ := x_SR_cons hst
  obtain ⟨a, ha, ev⟩ := x_ref hvx h1
  rw [ev]
  have hw9 := hw
  obtain ⟨ws, tys, had, hlen, hK, hP, hD, hS, hC⟩ := hw
  obtain ⟨q, hq, hcc⟩ := hC _ _ h2
  have hwq := x_wsq (had ▸ ha) hq
  have h30 := x_beq h3
  rcases hcc with ⟨-, vs, he, hvl, hv⟩ | ⟨h0, -⟩ | ⟨h0, -⟩ | ⟨h0, -⟩
  · obtain ⟨v9, hv1, hv2⟩ := hv _ _ h5
    rw [he, x_beq h4] at hwq
    exact hs H locs ls cells slots st3 ws tys _ a vs v9 hK hP hwq hv1 (K H locs ad (v9 :: st3) ls cells slots (x_SR_mk hv2 hst3) hls hw9 hc hsl)
  · omega
  · omega
  · omega
theorem x_C_put {ad : List Nat} {tys : List (ClassId × FieldType)} {cell : XC} {j : Nat} {w : XV} {X : Value} {vs : List Value} (hj : j < x_glen cell.2.2) (hl : vs.length = x_glen cell.2.2) (hv : ∀ i x, x_gget cell.2.2 i = some x → ∃ v, vs[i]? = some v ∧ x_V ad en x v) (hw : x_V ad en w X) :
    x_C ad en rn tys (0, cell.2.1, x_gset cell.2.2 j w) (.inr (cell.2.1, vs.set j X)) := by
  refine Or.inl ⟨rfl, _, rfl, by rw [List.length_set, x_glen_gset]; exact hl, fun i x hx => ?_⟩
  rw [x_gget_gset _ _ _ _ hj] at hx
  by_cases hij : i = j
  · rw [if_pos hij] at hx
    rw [← Option.some.inj hx, hij]
    exact ⟨X, by rw [List.getElem?_set, if_pos rfl, if_pos (by rw [hl]; exact hj)], hw⟩
  · rw [if_neg hij] at hx
    obtain ⟨v, v1, v2⟩ := hv _ _ hx
    exact ⟨v, by rw [List.getElem?_set, if_neg (Ne.symm hij)]; exact v1, v2⟩
set_option maxHeartbeats 1000000 in
theorem xk_putf (hs : (x_hd i.2.2.2 ≤ 8 ∧ 1 ≤ x_hd i.2.2.2) ∧ xs_putf p l e R s m args below meth c Q D cl A rp pc i) (hr : xo_putf P ih code i pc stk loc h n sl = some r)
    (hk : ∀ pc stk loc h n sl, ih code pc stk loc h n sl = some r → x_PR p l e R s m args below meth c Q D cl A en rn rp nL n0 sl0 nF slF ad0 pc stk loc h n sl) : x_PR p l e R s m args below meth c Q D cl A en rn rp nL n0 sl0 nF slF ad0 pc stk loc h n sl := by
  match stk, hr with
  | y :: x :: t, hr =>
    obtain ⟨h1, hr⟩ := x_if_n hr
    obtain ⟨hf, hr⟩ := x_if_n hr
    obtain ⟨cell, h2, hr⟩ := x_bind_some hr
    obtain ⟨h3, hr⟩ := x_if_n hr
    obtain ⟨h4, hr⟩ := x_if_n hr
    obtain ⟨v0, h5, hr⟩ := x_bind_some hr
    obtain ⟨h9, hz, hr⟩ := x_bind_some hr
    rw [x_force_eq] at hr
    obtain ⟨g1, g2, K⟩ := hk _ _ _ _ _ _ hr
    refine ⟨g1, g2, fun H locs ad st ls cells slots hst hls hw hc hsl => ?_⟩
    obtain ⟨vy, st2, rfl, hvy, hst2⟩ := x_SR_cons hst
    obtain ⟨vx, st3, rfl, hvx, hst3⟩ := x_SR_cons hst2
    obtain ⟨a, ha, ev⟩ := x_ref hvx h1
    rw [ev]
    obtain ⟨ws, tys, had, hlen, hK, hP, hD, hS, hC⟩ := hw
    obtain ⟨q, hq, hcc⟩ := hC _ _ h2
    have hwq := x_wsq (had ▸ ha) hq
    have h30 := x_beq h3
    rcases hcc with ⟨-, vs, he, hvl, hv⟩ | ⟨h0, -⟩ | ⟨h0, -⟩ | ⟨h0, -⟩
    · have hci := x_beq h4
      have hlt := x_gget_in _ h5
      rw [he] at hwq
      have hc1 := x_C_put (rn := rn) (tys := tys) (cell := cell) hlt hvl hv hvy
      rw [hci] at hwq hc1 hz
      refine hs.2 H locs ls cells slots st3 ws tys _ a vs vy hK hP hD hS hwq (by rw [hvl]; exact hlt) (x_fitv_sound hs.1 hf hvy) fun H1 locs1 p1 d1 s1 => ?_
      exact K H1 locs1 ad st3 ls cells slots hst3 hls (x_W_mk had hlen hK hC h2 hz hwq hc1 p1 d1 s1) hc hsl
    · omega
    · omega
    · omega
end AMOPS10
