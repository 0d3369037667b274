section AMOPS2
variable {p : Program} {l : Launch} {e : Env} {R : Room} {s : State} {m : MethodId} {args : Array Value} {below : List Frame} {meth : Method} {c : Code} {Q : State → Prop}
variable {cc : ByteArray} {D : va_G} {cl : List vw_C} {A : Nat → Prop} {en : XE} {rn : Nat → FieldType} {rp : Nat → Nat} {nL n0 sl0 nF slF : Nat} {ad0 : List Nat}
variable {P : XK} {ih : XF} {code : List XI} {i : XI} {pc n sl : Nat} {stk loc : List XV} {h : XH} {r : Nat × XV × XH × Nat × Nat}
theorem xi_bv (n : Nat) : (Int32.ofNat n).toBitVec = BitVec.ofNat 32 n := rfl
theorem xl_bv (n : Nat) : (Int64.ofNat n).toBitVec = BitVec.ofNat 64 n := rfl
theorem xi_ext {a b : Nat} (h : a % 4294967296 = b % 4294967296) : Int32.ofNat a = Int32.ofNat b := by
  apply Int32.toBitVec_inj.mp
  rw [xi_bv, xi_bv]
  apply BitVec.eq_of_toNat_eq
  rw [BitVec.toNat_ofNat, BitVec.toNat_ofNat]
  exact h
theorem xl_ext {a b : Nat} (h : a % 18446744073709551616 = b % 18446744073709551616) : Int64.ofNat a = Int64.ofNat b := by
  apply Int64.toBitVec_inj.mp
  rw [xl_bv, xl_bv]
  apply BitVec.eq_of_toNat_eq
  rw [BitVec.toNat_ofNat, BitVec.toNat_ofNat]
  exact h
theorem xi_rng (n : Nat) : (Int32.ofNat n).toInt + 2147483648 = (((n + 2147483648) % 4294967296 : Nat) : Int) := by
  have h : (Int32.ofNat n).toInt = (((n % 2 ^ 32 : Nat) : Int)).bmod (2 ^ 32) := by
    show (Int32.ofNat n).toBitVec.toInt = _
    rw [xi_bv, BitVec.toInt_eq_toNat_bmod, BitVec.toNat_ofNat]
  rw [h, Int.bmod_def]
  simp only [Nat.reducePow]
  omega
theorem xl_rng (n : Nat) : (Int64.ofNat n).toInt + 9223372036854775808 = (((n + 9223372036854775808) % 18446744073709551616 : Nat) : Int) := by
  have h : (Int64.ofNat n).toInt = (((n % 2 ^ 64 : Nat) : Int)).bmod (2 ^ 64) := by
    show (Int64.ofNat n).toBitVec.toInt = _
    rw [xl_bv, BitVec.toInt_eq_toNat_bmod, BitVec.toNat_ofNat]
  rw [h, Int.bmod_def]
  simp only [Nat.reducePow]
  omega
theorem x_rng_sound {ad : List Nat} {x : XV} {v : Value} {a : Nat × Nat} (hr : x_rng x = some a) (hv : x_V ad en x v) : ∃ y : Int32, v = .int y ∧ (a.1 : Int) ≤ y.toInt + 2147483648 ∧ y.toInt + 2147483648 ≤ (a.2 : Int) := by
  obtain ⟨t, u, w⟩ := x
  rcases x_if_some hr with ⟨h1, h2⟩ | ⟨h1, h2⟩
  · have ht : t = 0 := x_beq h1
    subst ht
    rw [x_force_eq] at h2
    have h3 := Option.some.inj h2
    subst h3
    refine ⟨Int32.ofNat u, hv, ?_, ?_⟩ <;> rw [xi_rng] <;> exact Int.le_refl _
  · obtain ⟨h3, h4⟩ := x_if_n h2
    have ht : t = 1 := x_beq h3
    subst ht
    cases h4
    exact hv
theorem x_rngL_sound {ad : List Nat} {x : XV} {v : Value} {a : Nat × Nat} (hr : x_rngL x = some a) (hv : x_V ad en x v) : ∃ y : Int64, v = .long y ∧ (a.1 : Int) ≤ y.toInt + 9223372036854775808 ∧ y.toInt + 9223372036854775808 ≤ (a.2 : Int) := by
  obtain ⟨t, u, w⟩ := x
  rcases x_if_some hr with ⟨h1, h2⟩ | ⟨h1, h2⟩
  · have ht : t = 2 := x_beq h1
    subst ht
    rw [x_force_eq] at h2
    have h3 := Option.some.inj h2
    subst h3
    refine ⟨Int64.ofNat u, hv, ?_, ?_⟩ <;> rw [xl_rng] <;> exact Int.le_refl _
  · obtain ⟨h3, h4⟩ := x_if_n h2
    have ht : t = 3 := x_beq h3
    subst ht
    cases h4
    exact hv
theorem x_lt_sound {a b : Nat × Nat} {q : Bool} {X Y : Int} (h : x_lt a b = some q) (h1 : (a.1 : Int) ≤ X) (h2 : X ≤ (a.2 : Int)) (h3 : (b.1 : Int) ≤ Y) (h4 : Y ≤ (b.2 : Int)) : X < Y ↔ q = true := by
  rcases x_if_some h with ⟨g, g2⟩ | ⟨g, g2⟩
  · cases g2
    have := x_ble g
    exact ⟨fun _ => rfl, fun _ => by omega⟩
  · obtain ⟨g3, g4⟩ := x_if_n g2
    cases g4
    have := x_ble g3
    exact ⟨fun q => by omega, fun q => by cases q⟩
theorem x_eq_sound {a b : Nat × Nat} {q : Bool} {X Y : Int} (h : x_eq a b = some q) (h1 : (a.1 : Int) ≤ X) (h2 : X ≤ (a.2 : Int)) (h3 : (b.1 : Int) ≤ Y) (h4 : Y ≤ (b.2 : Int)) : X = Y ↔ q = true := by
  rcases x_if_some h with ⟨g, g2⟩ | ⟨g, g2⟩
  · cases g2
    have := x_ble g
    exact ⟨fun q => by omega, fun q => by cases q⟩
  · rcases x_if_some g2 with ⟨g, g3⟩ | ⟨g, g3⟩
    · cases g3
      have := x_ble g
      exact ⟨fun q => by omega, fun q => by cases q⟩
    · obtain ⟨e1, g3⟩ := x_if_n g3
      obtain ⟨e2, g3⟩ := x_if_n g3
      cases g3
      have := x_beq e1
      have := x_beq e2
      constructor
      · intro hx
        have : a.1 = b.1 := by omega
        rw [this]
        exact Nat.beq_refl _
      · intro hx
        have := x_beq hx
        omega
theorem x_not_some {o : Option Bool} {q : Bool} (h : x_not o = some q) : ∃ b, o = some b ∧ (q = true ↔ ¬ b = true) := by
  obtain ⟨b, h1, h2⟩ := x_bind_some h
  cases h2
  exact ⟨b, h1, by cases b <;> simp [x_if]⟩
def x_rel (k : Nat) (X Y : Int) : Prop := match k with
  | 0 => X = Y
  | 1 => ¬ X = Y
  | 2 => X < Y
  | 3 => ¬ X < Y
  | 4 => Y < X
  | _ => ¬ Y < X
theorem x_cmp_sound {k : Nat} (hk6 : k < 6) {a b : Nat × Nat} {q : Bool} {X Y : Int} (h : x_cmp k a b = some q) (h1 : (a.1 : Int) ≤ X) (h2 : X ≤ (a.2 : Int)) (h3 : (b.1 : Int) ≤ Y) (h4 : Y ≤ (b.2 : Int)) : x_rel k X Y ↔ q = true := by
  match k, hk6, h with
  | 0, _, h => exact x_eq_sound (a := a) (b := b) h h1 h2 h3 h4
  | 1, _, h =>
    obtain ⟨b2, e1, e2⟩ := x_not_some (o := x_eq a b) h
    rw [e2]
    exact not_congr (x_eq_sound e1 h1 h2 h3 h4)
  | 2, _, h => exact x_lt_sound (a := a) (b := b) h h1 h2 h3 h4
  | 3, _, h =>
    obtain ⟨b2, e1, e2⟩ := x_not_some (o := x_lt a b) h
    rw [e2]
    exact not_congr (x_lt_sound e1 h1 h2 h3 h4)
  | 4, _, h => exact x_lt_sound (a := b) (b := a) h h3 h4 h1 h2
  | 5, _, h =>
    obtain ⟨b2, e1, e2⟩ := x_not_some (o := x_lt b a) h
    rw [e2]
    exact not_congr (x_lt_sound e1 h3 h4 h1 h2)
def x_cd (k : Nat) : Jvm.ClassFile.Cond := match k with
  | 0 => .eq
  | 1 => .ne
  | 2 => .lt
  | 3 => .ge
  | 4 => .gt
  | _ => .le
theorem x_goif_some {o : Option Bool} {tgt pc : Nat} {k : Nat → XR} (hr : x_goif o tgt pc k = some r) : ∃ b, o = some b ∧ k (if b = true then tgt else pc + 1) = some r := by
  obtain ⟨b, h1, h2⟩ := x_bind_some hr
  refine ⟨b, h1, ?_⟩
  cases b
  · rw [x_if_false, x_force_eq] at h2; exact h2
  · rw [x_if_true, x_force_eq] at h2; exact h2
def xs_icmp (cc : ByteArray) (rp : Nat → Nat) (pc : Nat) (i : XI) : Prop := i.2.1 < 6 ∧ ∃ off : Int, decode cc (rp pc) = .ok (.if_icmp (x_cd i.2.1) off, 3) ∧ ((rp pc : Nat) : Int) + off = ((rp i.2.2.1 : Nat) : Int) ∧ rp (pc + 1) = rp pc + 3
def xs_if0 (cc : ByteArray) (rp : Nat → Nat) (pc : Nat) (i : XI) : Prop := i.2.1 < 6 ∧ ∃ off : Int, decode cc (rp pc) = .ok (.ifCond (x_cd i.2.1) off, 3) ∧ ((rp pc : Nat) : Int) + off = ((rp i.2.2.1 : Nat) : Int) ∧ rp (pc + 1) = rp pc + 3
theorem xi_eq (x y : Int32) : x = y ↔ x.toInt + 2147483648 = y.toInt + 2147483648 := by
  rw [← Int32.toInt_inj]; omega
theorem xi_lt (x y : Int32) : x < y ↔ x.toInt + 2147483648 < y.toInt + 2147483648 := by
  rw [Int32.lt_iff_toInt_lt]; omega
theorem xi_le (x y : Int32) : x ≤ y ↔ ¬ y.toInt + 2147483648 < x.toInt + 2147483648 := by
  rw [Int32.le_iff_toInt_le]; omega
set_option maxHeartbeats 1000000 in
theorem xk_icmp (hexec : p.tables.exec = Jvm.exec) (hb : c.code = cc) (hs : xs_icmp cc rp pc i) (hr : xo_icmp P ih code i pc stk loc h n sl = some r)
    (hk : ∀ pc stk loc h n sl, ih code pc stk loc h n sl = some r → x_PR p l e R s m args below meth c Q D cl A en rn rp nL n0 sl0 nF slF ad0 pc stk loc h n sl) : x_PR p l e R s m args below meth c Q D cl A en rn rp nL n0 sl0 nF slF ad0 pc stk loc h n sl := by
  match stk, hr with
  | y :: x :: t, hr =>
    obtain ⟨q, h1, hr⟩ := x_goif_some hr
    obtain ⟨a, h2, h1⟩ := x_bind_some h1
    obtain ⟨b, h3, h1⟩ := x_bind_some h1
    obtain ⟨g1, g2, K⟩ := hk _ _ _ _ _ _ hr
    refine ⟨g1, g2, fun H locs ad st ls cells slots hst hls hw hc hsl => ?_⟩
    obtain ⟨vy, st2, rfl, hvy, hst⟩ := x_SR_cons hst
    obtain ⟨vx, st3, rfl, hvx, hst⟩ := x_SR_cons hst
    have kk := K H locs ad st3 ls cells slots hst hls hw hc hsl
    obtain ⟨X, rfl, hx1, hx2⟩ := x_rng_sound h2 hvx
    obtain ⟨Y, rfl, hy1, hy2⟩ := x_rng_sound h3 hvy
    obtain ⟨hlt, off, hd, ht, hn⟩ := hs
    have hcmp := x_cmp_sound hlt h1 hx1 hx2 hy1 hy2
    have kt : q = true → W p l e R s m args below meth c H locs cells slots Q (F0 m (rp i.2.2.1) ls st3) := fun hq => by rw [if_pos hq] at kk; exact kk
    have kf : ¬ q = true → W p l e R s m args below meth c H locs cells slots Q (F0 m (rp pc + 3) ls st3) := fun hq => by rw [if_neg hq, hn] at kk; exact kk
    obtain ⟨op, ia, ib, itab⟩ := i
    dsimp only at hlt hd ht hcmp kt
    match ia, hlt, hd, hcmp with
    | 0, _, hd, hcmp => exact lv_icmp_eq hexec hb hd ht (fun z => kt (hcmp.mp ((xi_eq X Y).mp z))) (fun z => kf (fun w => z ((xi_eq X Y).mpr (hcmp.mpr w))))
    | 1, _, hd, hcmp => exact lv_icmp_ne hexec hb hd ht (fun z => kt (hcmp.mp (fun w => z ((xi_eq X Y).mpr w)))) (fun z => kf (fun w => hcmp.mpr w ((xi_eq X Y).mp z)))
    | 2, _, hd, hcmp => exact lv_icmp_lt hexec hb hd ht (fun z => kt (hcmp.mp ((xi_lt X Y).mp z))) (fun z => kf (fun w => z ((xi_lt X Y).mpr (hcmp.mpr w))))
    | 3, _, hd, hcmp => exact lv_icmp_ge hexec hb hd ht (fun z => kt (hcmp.mp ((xi_le Y X).mp z))) (fun z => kf (fun w => z ((xi_le Y X).mpr (hcmp.mpr w))))
    | 4, _, hd, hcmp => exact lv_icmp_gt hexec hb hd ht (fun z => kt (hcmp.mp ((xi_lt Y X).mp z))) (fun z => kf (fun w => z ((xi_lt Y X).mpr (hcmp.mpr w))))
    | 5, _, hd, hcmp => exact lv_icmp_le hexec hb hd ht (fun z => kt (hcmp.mp ((xi_le X Y).mp z))) (fun z => kf (fun w => z ((xi_le X Y).mpr (hcmp.mpr w))))
theorem xi_0 : (0 : Int32).toInt + 2147483648 = 2147483648 := rfl
set_option maxHeartbeats 1000000 in
theorem xk_if0 (hexec : p.tables.exec = Jvm.exec) (hb : c.code = cc) (hs : xs_if0 cc rp pc i) (hr : xo_if0 P ih code i pc stk loc h n sl = some r)
    (hk : ∀ pc stk loc h n sl, ih code pc stk loc h n sl = some r → x_PR p l e R s m args below meth c Q D cl A en rn rp nL n0 sl0 nF slF ad0 pc stk loc h n sl) : x_PR p l e R s m args below meth c Q D cl A en rn rp nL n0 sl0 nF slF ad0 pc stk loc h n sl := by
  match stk, hr with
  | x :: t, hr =>
    obtain ⟨q, h1, hr⟩ := x_goif_some hr
    obtain ⟨a, h2, h1⟩ := x_bind_some h1
    obtain ⟨g1, g2, K⟩ := hk _ _ _ _ _ _ hr
    refine ⟨g1, g2, fun H locs ad st ls cells slots hst hls hw hc hsl => ?_⟩
    obtain ⟨vx, st3, rfl, hvx, hst⟩ := x_SR_cons hst
    have kk := K H locs ad st3 ls cells slots hst hls hw hc hsl
    obtain ⟨X, rfl, hx1, hx2⟩ := x_rng_sound h2 hvx
    obtain ⟨hlt, off, hd, ht, hn⟩ := hs
    have hcmp := x_cmp_sound (Y := (0 : Int32).toInt + 2147483648) hlt h1 hx1 hx2 (Int.le_refl _) (Int.le_refl _)
    have kt : q = true → W p l e R s m args below meth c H locs cells slots Q (F0 m (rp i.2.2.1) ls st3) := fun hq => by rw [if_pos hq] at kk; exact kk
    have kf : ¬ q = true → W p l e R s m args below meth c H locs cells slots Q (F0 m (rp pc + 3) ls st3) := fun hq => by rw [if_neg hq, hn] at kk; exact kk
    obtain ⟨op, ia, ib, itab⟩ := i
    dsimp only at hlt hd ht hcmp kt
    match ia, hlt, hd, hcmp with
    | 0, _, hd, hcmp => exact lv_if_eq hexec hb hd ht (fun z => kt (hcmp.mp ((xi_eq X 0).mp z))) (fun z => kf (fun w => z ((xi_eq X 0).mpr (hcmp.mpr w))))
    | 1, _, hd, hcmp => exact lv_if_ne hexec hb hd ht (fun z => kt (hcmp.mp (fun w => z ((xi_eq X 0).mpr w)))) (fun z => kf (fun w => hcmp.mpr w ((xi_eq X 0).mp z)))
    | 2, _, hd, hcmp => exact lv_if_lt hexec hb hd ht (fun z => kt (hcmp.mp ((xi_lt X 0).mp z))) (fun z => kf (fun w => z ((xi_lt X 0).mpr (hcmp.mpr w))))
    | 3, _, hd, hcmp => exact lv_if_ge hexec hb hd ht (fun z => kt (hcmp.mp ((xi_le 0 X).mp z))) (fun z => kf (fun w => z ((xi_le 0 X).mpr (hcmp.mpr w))))
    | 4, _, hd, hcmp => exact lv_if_gt hexec hb hd ht (fun z => kt (hcmp.mp ((xi_lt 0 X).mp z))) (fun z => kf (fun w => z ((xi_lt 0 X).mpr (hcmp.mpr w))))
    | 5, _, hd, hcmp => exact lv_if_le hexec hb hd ht (fun z => kt (hcmp.mp ((xi_le X 0).mp z))) (fun z => kf (fun w => z ((xi_le X 0).mpr (hcmp.mpr w))))
def xs_goto (cc : ByteArray) (rp : Nat → Nat) (pc : Nat) (i : XI) : Prop := ∃ off : Int, decode cc (rp pc) = .ok (.goto off, 3) ∧ ((rp pc : Nat) : Int) + off = ((rp i.2.1 : Nat) : Int)
theorem xk_goto (hexec : p.tables.exec = Jvm.exec) (hb : c.code = cc) (hs : xs_goto cc rp pc i) (hr : xo_goto P ih code i pc stk loc h n sl = some r)
    (hk : ∀ pc stk loc h n sl, ih code pc stk loc h n sl = some r → x_PR p l e R s m args below meth c Q D cl A en rn rp nL n0 sl0 nF slF ad0 pc stk loc h n sl) : x_PR p l e R s m args below meth c Q D cl A en rn rp nL n0 sl0 nF slF ad0 pc stk loc h n sl := by
  have hr2 : ih code i.2.1 stk loc h n sl = some r := by
    have h9 : x_force i.2.1 (fun p => ih code p stk loc h n sl) = some r := hr
    rw [x_force_eq] at h9
    exact h9
  obtain ⟨g1, g2, K⟩ := hk _ _ _ _ _ _ hr2
  obtain ⟨off, hd, ht⟩ := hs
  exact ⟨g1, g2, fun H locs ad st ls cells slots hst hls hw hc hsl => lv_goto hexec hb hd ht (K H locs ad st ls cells slots hst hls hw hc hsl)⟩
/-- iinc of a local that is known -/
def xs_iinc (cc : ByteArray) (rp : Nat → Nat) (pc : Nat) (i : XI) : Prop := ∃ z : Int, x_at cc rp pc (.iinc i.2.1 z) 3 ∧ Int32.ofInt z = Int32.ofNat i.2.2.1
theorem x_clean_get {i : Nat} : ∀ j y, (x_clean loc i)[j]? = some y → y.1 ≠ 11 → loc[j]? = some y ∧ (j + 1 = i → x_cat2 y = false) := by
  have hcl : ∀ j y, (x_clean loc i)[j]? = some y → y.1 ≠ 11 → loc[j]? = some y ∧ (j + 1 = i → x_cat2 y = false) := by
    intro j y hj hy
    cases i with
    | zero => exact ⟨hj, fun q => absurd q (by omega)⟩
    | succ k =>
      have e : x_clean loc (k + 1) = Option.rec (motive := fun _ => List XV) loc (fun v => x_if (x_cat2 v) (x_upd loc k (11, 0, 0)) loc) (x_nth loc k) := rfl
      rw [e, x_nth_eq] at hj
      cases hk : loc[k]? with
      | none =>
        rw [hk] at hj
        refine ⟨hj, fun q => ?_⟩
        have : j = k := by omega
        subst this
        have hj2 : loc[j]? = some y := hj
        rw [hk] at hj2
        cases hj2
      | some w =>
        rw [hk] at hj
        have hj2 : (x_if (x_cat2 w) (x_upd loc k (11, 0, 0)) loc)[j]? = some y := hj
        cases hw : x_cat2 w with
        | false =>
          rw [hw, x_if_false] at hj2
          refine ⟨hj2, fun q => ?_⟩
          have : j = k := by omega
          subst this
          rw [hk] at hj2
          cases hj2
          exact hw
        | true =>
          rw [hw, x_if_true, x_upd_eq, List.getElem?_set] at hj2
          by_cases hjk : k = j
          · rw [if_pos hjk] at hj2
            split at hj2
            · cases hj2; exact absurd rfl hy
            · cases hj2
          · rw [if_neg hjk] at hj2
            exact ⟨hj2, fun q => absurd q (by omega)⟩
  exact hcl
theorem x_clean_len {i : Nat} (hlen : loc.length = nL) : (x_clean loc i).length = nL := by
  have hlen2 : (x_clean loc i).length = nL := by
    cases i with
    | zero => exact hlen
    | succ k =>
      show (Option.rec (motive := fun _ => List XV) loc (fun v => x_if (x_cat2 v) (x_upd loc k (11, 0, 0)) loc) (x_nth loc k)).length = nL
      cases x_nth loc k with
      | none => exact hlen
      | some w =>
        show (x_if (x_cat2 w) (x_upd loc k (11, 0, 0)) loc).length = nL
        cases x_cat2 w
        · exact hlen
        · rw [x_if_true, x_upd_eq, List.length_set]; exact hlen
  exact hlen2
theorem x_LR_upd1 {ad : List Nat} {ls1 : Array Slot} {lv : List (Nat × Value)} {i : Nat} {x : XV} {v : Value} (hlen : loc.length = nL) (h3 : ∀ i x, loc[i]? = some x → x.1 ≠ 11 → ∃ v, (i, v) ∈ lv ∧ x_V ad en x v) (hi : i < nL) (hx : x_V ad en x v) (hnew : lv_has ls1 nL ((i, v) :: lv.filter (fun q => !(q.1 == i) && !(q.1 + 1 == i && q.2.category == 2)))) : x_LR ad en nL (x_upd (x_clean loc i) i x) ls1 := by
  have hlen2 := x_clean_len (i := i) hlen
  refine ⟨by rw [x_upd_eq, List.length_set]; exact hlen2, _, hnew, fun j y hj hy => ?_⟩
  rw [x_upd_eq, List.getElem?_set] at hj
  by_cases hij : i = j
  · rw [if_pos hij] at hj
    rw [if_pos (by omega)] at hj
    cases hj
    exact ⟨v, by rw [← hij]; exact List.mem_cons_self, hx⟩
  · rw [if_neg hij] at hj
    obtain ⟨k1, k2⟩ := x_clean_get j y hj hy
    obtain ⟨w, w1, w2⟩ := h3 j y k1 hy
    refine ⟨w, List.mem_cons_of_mem _ (List.mem_filter.mpr ⟨w1, ?_⟩), w2⟩
    have hcat := x_V_cat w2
    by_cases hj1 : j + 1 = i
    · have h9 := k2 hj1
      rw [h9] at hcat
      have hcat2 : w.category = 1 := hcat
      simp [hcat2, Ne.symm hij]
    · simp [hj1, Ne.symm hij]
theorem x_LR_upd2 {ad : List Nat} {ls1 : Array Slot} {lv : List (Nat × Value)} {i : Nat} {x : XV} {v : Value} (hlen : loc.length = nL) (h3 : ∀ i x, loc[i]? = some x → x.1 ≠ 11 → ∃ v, (i, v) ∈ lv ∧ x_V ad en x v) (hi : i + 1 < nL) (hx : x_V ad en x v) (hnew : lv_has ls1 nL ((i, v) :: lv.filter (fun q => !(q.1 == i) && (!(q.1 == i + 1) && !(q.1 + 1 == i && q.2.category == 2))))) : x_LR ad en nL (x_upd (x_upd (x_clean loc i) i x) (i + 1) (11, 0, 0)) ls1 := by
  have hlen2 := x_clean_len (i := i) hlen
  refine ⟨by rw [x_upd_eq, x_upd_eq, List.length_set, List.length_set]; exact hlen2, _, hnew, fun j y hj hy => ?_⟩
  rw [x_upd_eq, List.getElem?_set] at hj
  by_cases hij1 : i + 1 = j
  · rw [if_pos hij1] at hj
    split at hj
    · cases hj; exact absurd rfl hy
    · cases hj
  · rw [if_neg hij1, x_upd_eq, List.getElem?_set] at hj
    by_cases hij : i = j
    · rw [if_pos hij] at hj
      rw [if_pos (by omega)] at hj
      cases hj
      exact ⟨v, by rw [← hij]; exact List.mem_cons_self, hx⟩
    · rw [if_neg hij] at hj
      obtain ⟨k1, k2⟩ := x_clean_get j y hj hy
      obtain ⟨w, w1, w2⟩ := h3 j y k1 hy
      refine ⟨w, List.mem_cons_of_mem _ (List.mem_filter.mpr ⟨w1, ?_⟩), w2⟩
      have hcat := x_V_cat w2
      by_cases hj1 : j + 1 = i
      · have h9 := k2 hj1
        rw [h9] at hcat
        have hcat2 : w.category = 1 := hcat
        simp [hcat2, Ne.symm hij, Ne.symm hij1]
      · simp [hj1, Ne.symm hij, Ne.symm hij1]
end AMOPS2
