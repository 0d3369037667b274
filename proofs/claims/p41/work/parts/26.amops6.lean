section AMOPS6
variable {p : Program} {l : Launch} {e : Env} {R : Room} {s : State} {m : MethodId} {args : Array Value} {below : List Frame} {meth : Method} {c : Code} {Q : State → Prop}
variable {cc : ByteArray} {D : va_G} {cl : List vw_C} {A : Nat → Prop} {en : XE} {rn : Nat → FieldType} {rp : Nat → Nat} {nL n0 sl0 nF slF : Nat} {ad0 : List Nat}
variable {P : XK} {ih : XF} {code : List XI} {i : XI} {pc n sl : Nat} {stk loc : List XV} {h : XH} {r : Nat × XV × XH × Nat × Nat}
def x_iopI (a : Nat) : Instr := match a with
  | 0 => .iadd
  | 1 => .isub
  | 2 => .imul
  | 3 => .iand
  | 4 => .ior
  | 5 => .ixor
  | 6 => .ishl
  | 7 => .ishr
  | 9 => .idiv
  | _ => .irem
def x_lopI (a : Nat) : Instr := match a with
  | 0 => .ladd
  | 1 => .lsub
  | 2 => .lmul
  | 3 => .land
  | 4 => .lor
  | 5 => .lxor
  | 6 => .lshl
  | 9 => .ldiv
  | _ => .lrem
def xs_iop (cc : ByteArray) (rp : Nat → Nat) (pc : Nat) (i : XI) : Prop := (i.2.1 < 8 ∨ i.2.1 = 9 ∨ i.2.1 = 10) ∧ x_at cc rp pc (x_iopI i.2.1) 1
def xs_lop (cc : ByteArray) (rp : Nat → Nat) (pc : Nat) (i : XI) : Prop := (i.2.1 < 7 ∨ i.2.1 = 9 ∨ i.2.1 = 10) ∧ x_at cc rp pc (x_lopI i.2.1) 1
theorem xi_n0 {y : Nat} (h0 : Nat.beq y 0 = false) (h : y < 2 ^ 31) : ¬ Int32.ofNat y = 0 := nI_ne0 (by cases y with | zero => cases h0 | succ k => omega) h
theorem xn_0 {y : Nat} (h0 : Nat.beq y 0 = false) : 0 < y := by cases y with | zero => cases h0 | succ k => omega
theorem xl_n0 {y : Nat} (h0 : 0 < y) (h : y < 2 ^ 63) : ¬ Int64.ofNat y = 0 := by
  intro q
  have h1 := congrArg Int64.toInt q
  have h2 := xl_rng y
  have h3 : (0 : Int64).toInt = 0 := rfl
  omega
set_option maxHeartbeats 1000000 in
theorem xk_iop (hexec : p.tables.exec = Jvm.exec) (hb : c.code = cc) (hs : xs_iop cc rp pc i) (hr : xo_iop P ih code i pc stk loc h n sl = some r)
    (hk : ∀ pc stk loc h n sl, ih code pc stk loc h n sl = some r → x_PR p l e R s m args below meth c Q D cl A en rn rp nL n0 sl0 nF slF ad0 pc stk loc h n sl) : x_PR p l e R s m args below meth c Q D cl A en rn rp nL n0 sl0 nF slF ad0 pc stk loc h n sl := by
  match stk, hr with
  | y :: x :: t, hr =>
    obtain ⟨h1, hr⟩ := x_if_n hr
    obtain ⟨h2, hr⟩ := x_if_n hr
    obtain ⟨w, h3, hr⟩ := x_bind_some hr
    have hr := x_I_some hr
    rw [x_force_eq] at hr
    obtain ⟨g1, g2, K⟩ := hk _ _ _ _ _ _ hr
    refine ⟨g1, g2, fun H locs ad st ls cells slots hst hls hw hc hsl => ?_⟩
    obtain ⟨vy, st2, rfl, hvy, hst2⟩ := x_SR_cons hst
    obtain ⟨vx, st3, rfl, hvx, hst3⟩ := x_SR_cons hst2
    have ex := x_V_tag0 hvx h1
    have ey := x_V_tag0 hvy h2
    obtain ⟨ha, hd, hn⟩ := hs
    rw [ex, ey]
    have kk : ∀ z : Int32, z = Int32.ofNat w → W p l e R s m args below meth c H locs cells slots Q (F0 m (rp pc + 1) ls (.int z :: st3)) := fun z hz => hn ▸ K H locs ad (.int z :: st3) ls cells slots (x_SR_mk (x_V_I hz) hst3) hls hw hc hsl
    obtain ⟨op, ia, ib, itab⟩ := i
    dsimp only at ha hd h3
    have hcase : ia = 0 ∨ ia = 1 ∨ ia = 2 ∨ ia = 3 ∨ ia = 4 ∨ ia = 5 ∨ ia = 6 ∨ ia = 7 ∨ ia = 9 ∨ ia = 10 := by omega
    rcases hcase with rfl | rfl | rfl | rfl | rfl | rfl | rfl | rfl | rfl | rfl
    · exact lv_iadd hexec hb hd (kk _ ((xi_add _ _).trans (congrArg _ (Option.some.inj h3))))
    · exact lv_isub hexec hb hd (kk _ ((xi_sub _ _).trans (congrArg _ (Option.some.inj h3))))
    · exact lv_imul hexec hb hd (kk _ ((xi_mul _ _).trans (congrArg _ (Option.some.inj h3))))
    · exact lv_iand hexec hb hd (kk _ ((xi_and _ _).trans (congrArg _ (Option.some.inj h3))))
    · exact lv_ior hexec hb hd (kk _ ((xi_or _ _).trans (congrArg _ (Option.some.inj h3))))
    · exact lv_ixor hexec hb hd (kk _ ((xi_xor _ _).trans (congrArg _ (Option.some.inj h3))))
    · exact lv_ishl hexec hb hd (kk _ ((xi_shl _ _).trans (congrArg _ (Option.some.inj h3))))
    · obtain ⟨h4, h3⟩ := x_if_n' (b := x_sgn x.2.1) h3
      exact lv_ishr hexec hb hd (kk _ ((xi_shr (xn_sgn h4) _).trans (congrArg _ (Option.some.inj h3))))
    · obtain ⟨h4, h3⟩ := x_if_n' (b := x_sgn x.2.1) h3
      obtain ⟨h5, h3⟩ := x_if_n' (b := x_sgn y.2.1) h3
      obtain ⟨h6, h3⟩ := x_if_n' (b := Nat.beq y.2.1 0) h3
      exact lv_idiv hexec hb hd (xi_n0 h6 (xn_sgn h5)) (kk _ ((pk_div (xn_sgn h4) (xn_0 h6) (xn_sgn h5)).trans (congrArg _ (Option.some.inj h3))))
    · obtain ⟨h4, h3⟩ := x_if_n' (b := x_sgn x.2.1) h3
      obtain ⟨h5, h3⟩ := x_if_n' (b := x_sgn y.2.1) h3
      obtain ⟨h6, h3⟩ := x_if_n' (b := Nat.beq y.2.1 0) h3
      exact lv_irem hexec hb hd (xi_n0 h6 (xn_sgn h5)) (kk _ ((pk_rem (xn_sgn h4) (xn_0 h6) (xn_sgn h5)).trans (congrArg _ (Option.some.inj h3))))
set_option maxHeartbeats 1000000 in
theorem xk_lop (hexec : p.tables.exec = Jvm.exec) (hb : c.code = cc) (hs : xs_lop cc rp pc i) (hr : xo_lop P ih code i pc stk loc h n sl = some r)
    (hk : ∀ pc stk loc h n sl, ih code pc stk loc h n sl = some r → x_PR p l e R s m args below meth c Q D cl A en rn rp nL n0 sl0 nF slF ad0 pc stk loc h n sl) : x_PR p l e R s m args below meth c Q D cl A en rn rp nL n0 sl0 nF slF ad0 pc stk loc h n sl := by
  match stk, hr with
  | y :: x :: t, hr =>
    obtain ⟨h1, hr⟩ := x_if_n hr
    obtain ⟨h2, hr⟩ := x_if_n hr
    obtain ⟨w, h3, hr⟩ := x_bind_some hr
    have hr := x_L_some hr
    rw [x_force_eq] at hr
    obtain ⟨g1, g2, K⟩ := hk _ _ _ _ _ _ hr
    refine ⟨g1, g2, fun H locs ad st ls cells slots hst hls hw hc hsl => ?_⟩
    obtain ⟨vy, st2, rfl, hvy, hst2⟩ := x_SR_cons hst
    obtain ⟨vx, st3, rfl, hvx, hst3⟩ := x_SR_cons hst2
    have ex := x_V_tag2 hvx h1
    obtain ⟨ha, hd, hn⟩ := hs
    have kk : ∀ z : Int64, z = Int64.ofNat w → W p l e R s m args below meth c H locs cells slots Q (F0 m (rp pc + 1) ls (.long z :: st3)) := fun z hz => hn ▸ K H locs ad (.long z :: st3) ls cells slots (x_SR_mk (x_V_L hz) hst3) hls hw hc hsl
    obtain ⟨op, ia, ib, itab⟩ := i
    dsimp only at ha hd h3 h2
    by_cases h66 : ia = 6
    · subst h66
      have ey := x_V_tag0 hvy h2
      rw [ex, ey]
      obtain ⟨h4, h3⟩ := x_if_n' (b := x_sgn y.2.1) h3
      exact lv_lshl hexec hb hd rfl (kk _ ((xl_shl _ (xn_sgn h4)).trans (congrArg _ (Option.some.inj h3))))
    · have h2b : Nat.beq y.1 2 = true := by
        have : Nat.beq ia 6 = false := by
          cases hq : Nat.beq ia 6
          · rfl
          · exact absurd (x_beq hq) h66
        rw [this] at h2
        exact h2
      have ey := x_V_tag2 hvy h2b
      rw [ex, ey]
      have hcase : ia = 0 ∨ ia = 1 ∨ ia = 2 ∨ ia = 3 ∨ ia = 4 ∨ ia = 5 ∨ ia = 9 ∨ ia = 10 := by omega
      clear h2 h66
      rcases hcase with rfl | rfl | rfl | rfl | rfl | rfl | rfl | rfl
      · exact lv_ladd hexec hb hd (kk _ ((xl_add _ _).trans (congrArg _ (Option.some.inj h3))))
      · exact lv_lsub hexec hb hd (kk _ ((xl_sub _ _).trans (congrArg _ (Option.some.inj h3))))
      · exact lv_lmul hexec hb hd (kk _ ((xl_mul _ _).trans (congrArg _ (Option.some.inj h3))))
      · exact lv_land hexec hb hd (kk _ ((xl_and _ _).trans (congrArg _ (Option.some.inj h3))))
      · exact lv_lor hexec hb hd (kk _ ((xl_or _ _).trans (congrArg _ (Option.some.inj h3))))
      · exact lv_lxor hexec hb hd (kk _ ((xl_xor _ _).trans (congrArg _ (Option.some.inj h3))))
      · obtain ⟨h4, h3⟩ := x_if_n' (b := Nat.ble 9223372036854775808 x.2.1) h3
        obtain ⟨h5, h3⟩ := x_if_n' (b := Nat.ble 9223372036854775808 y.2.1) h3
        obtain ⟨h6, h3⟩ := x_if_n' (b := Nat.beq y.2.1 0) h3
        exact lv_ldiv hexec hb hd (xl_n0 (xn_0 h6) (x_nble h5)) (kk _ ((pk_lDiv (x_nble h4) (xn_0 h6) (x_nble h5)).trans (congrArg _ (Option.some.inj h3))))
      · obtain ⟨h4, h3⟩ := x_if_n' (b := Nat.ble 9223372036854775808 x.2.1) h3
        obtain ⟨h5, h3⟩ := x_if_n' (b := Nat.ble 9223372036854775808 y.2.1) h3
        obtain ⟨h6, h3⟩ := x_if_n' (b := Nat.beq y.2.1 0) h3
        exact lv_lrem hexec hb hd (xl_n0 (xn_0 h6) (x_nble h5)) (kk _ ((pk_lRem (x_nble h4) (xn_0 h6) (x_nble h5)).trans (congrArg _ (Option.some.inj h3))))
set_option maxHeartbeats 1000000 in
theorem xk_i2l (hexec : p.tables.exec = Jvm.exec) (hb : c.code = cc) (hs : x_at cc rp pc .i2l 1) (hr : xo_i2l P ih code i pc stk loc h n sl = some r)
    (hk : ∀ pc stk loc h n sl, ih code pc stk loc h n sl = some r → x_PR p l e R s m args below meth c Q D cl A en rn rp nL n0 sl0 nF slF ad0 pc stk loc h n sl) : x_PR p l e R s m args below meth c Q D cl A en rn rp nL n0 sl0 nF slF ad0 pc stk loc h n sl := by
  match stk, hr with
  | x :: t, hr =>
    obtain ⟨h1, hr⟩ := x_if_n hr
    rw [x_force_eq, x_force_eq, x_force_eq] at hr
    obtain ⟨g1, g2, K⟩ := hk _ _ _ _ _ _ hr
    refine ⟨g1, g2, fun H locs ad st ls cells slots hst hls hw hc hsl => ?_⟩
    obtain ⟨w, st2, rfl, hw2, hst2⟩ := x_SR_cons hst
    have ex := x_V_tag0 hw2 h1
    rw [ex]
    refine lv_i2l hexec hb hs.1 (v := Int64.ofNat (x.2.1 % 4294967296 + x_if (x_sgn (x.2.1 % 4294967296)) 18446744069414584320 0)) ?_ (hs.2 ▸ K H locs ad (_ :: st2) ls cells slots (x_SR_mk rfl hst2) hls hw hc hsl)
    have e1 : Int32.ofNat x.2.1 = Int32.ofNat (x.2.1 % 4294967296) := xi_ext (by omega)
    rw [e1]
    cases h3 : x_sgn (x.2.1 % 4294967296)
    · rw [x_if_false]; exact xi_l (xn_sgn h3)
    · rw [x_if_true]; exact xi_ln (x_ble h3) (Nat.mod_lt _ (by decide))
end AMOPS6
