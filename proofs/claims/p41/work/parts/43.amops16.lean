section AMOPS16
variable {p : Program} {l : Launch} {e : Env} {R : Room} {s : State} {m : MethodId} {args : Array Value} {below : List Frame} {meth : Method} {c : Code} {Q : State → Prop}
variable {cc : ByteArray} {D : va_G} {cl : List vw_C} {A : Nat → Prop} {en : XE} {rn : Nat → FieldType} {rp : Nat → Nat} {nL n0 sl0 nF slF : Nat} {ad0 : List Nat}
variable {P : XK} {ih : XF} {code : List XI} {i : XI} {pc n sl : Nat} {stk loc : List XV} {h : XH} {r : Nat × XV × XH × Nat × Nat}
theorem xi_neg (a : Nat) : -(Int32.ofNat a) = Int32.ofNat (4294967296 - a % 4294967296) := by
  apply Int32.toBitVec_inj.mp
  rw [Int32.toBitVec_neg, xi_bv, xi_bv]
  apply BitVec.eq_of_toNat_eq
  rw [BitVec.toNat_neg, BitVec.toNat_ofNat, BitVec.toNat_ofNat]
theorem xi_ushr (x y : Nat) : ((Int32.ofNat x).toUInt32 >>> ((Int32.ofNat y).toUInt32 &&& Int32.toUInt32 31)).toInt32 = Int32.ofNat ((x % 4294967296) >>> (y % 32)) := by
  have h1 : ((Int32.ofNat y).toUInt32 &&& Int32.toUInt32 31) = UInt32.ofNat (y % 32) := by
    apply UInt32.toNat_inj.mp
    rw [UInt32.toNat_and]
    have e1 : (Int32.ofNat y).toUInt32.toNat = y % 4294967296 := by
      show (Int32.ofNat y).toBitVec.toNat = _
      rw [xi_bv, BitVec.toNat_ofNat]
    have e2 : (Int32.toUInt32 31).toNat = 31 := rfl
    rw [e1, e2, UInt32.toNat_ofNat']
    have e3 : y % 4294967296 &&& 31 = y % 4294967296 % 32 := Nat.and_two_pow_sub_one_eq_mod (y % 4294967296) 5
    omega
  rw [h1]
  apply Int32.toBitVec_inj.mp
  apply BitVec.eq_of_toNat_eq
  show ((Int32.ofNat x).toUInt32 >>> UInt32.ofNat (y % 32)).toNat = (BitVec.ofNat 32 _).toNat
  rw [UInt32.toNat_shiftRight, BitVec.toNat_ofNat]
  have e1 : (Int32.ofNat x).toUInt32.toNat = x % 4294967296 := by
    show (Int32.ofNat x).toBitVec.toNat = _
    rw [xi_bv, BitVec.toNat_ofNat]
  have e2 : (UInt32.ofNat (y % 32)).toNat % 32 = y % 32 := by rw [UInt32.toNat_ofNat']; omega
  rw [e1, e2]
  refine (Nat.mod_eq_of_lt ?_).symm
  exact Nat.lt_of_le_of_lt (Nat.shiftRight_le _ _) (Nat.mod_lt _ (by decide))
set_option maxHeartbeats 1000000 in
theorem xk_ineg (hexec : p.tables.exec = Jvm.exec) (hb : c.code = cc) (hs : x_at cc rp pc .ineg 1) (hr : xo_ineg P ih code i pc stk loc h n sl = some r)
    (hk : ∀ pc stk loc h n sl, ih code pc stk loc h n sl = some r → x_PR p l e R s m args below meth c Q D cl A en rn rp nL n0 sl0 nF slF ad0 pc stk loc h n sl) : x_PR p l e R s m args below meth c Q D cl A en rn rp nL n0 sl0 nF slF ad0 pc stk loc h n sl := by
  match stk, hr with
  | x :: t, hr =>
    obtain ⟨h1, hr⟩ := x_if_n hr
    have hr := x_I_some hr
    rw [x_force_eq] at hr
    obtain ⟨g1, g2, K⟩ := hk _ _ _ _ _ _ hr
    refine ⟨g1, g2, fun H locs ad st ls cells slots hst hls hw hc hsl => ?_⟩
    obtain ⟨vx, st3, rfl, hvx, hst3⟩ := x_SR_cons hst
    rw [x_V_tag0 hvx h1]
    exact lv_ineg hexec hb hs.1 (hs.2 ▸ K H locs ad (.int _ :: st3) ls cells slots (x_SR_mk (x_V_I (xi_neg _)) hst3) hls hw hc hsl)
set_option maxHeartbeats 1000000 in
theorem xk_iushr (hexec : p.tables.exec = Jvm.exec) (hb : c.code = cc) (hs : x_at cc rp pc .iushr 1) (hr : xo_iushr P ih code i pc stk loc h n sl = some r)
    (hk : ∀ pc stk loc h n sl, ih code pc stk loc h n sl = some r → x_PR p l e R s m args below meth c Q D cl A en rn rp nL n0 sl0 nF slF ad0 pc stk loc h n sl) : x_PR p l e R s m args below meth c Q D cl A en rn rp nL n0 sl0 nF slF ad0 pc stk loc h n sl := by
  match stk, hr with
  | y :: x :: t, hr =>
    obtain ⟨h1, hr⟩ := x_if_n hr
    obtain ⟨h2, hr⟩ := x_if_n hr
    have hr := x_I_some hr
    rw [x_force_eq] at hr
    obtain ⟨g1, g2, K⟩ := hk _ _ _ _ _ _ hr
    refine ⟨g1, g2, fun H locs ad st ls cells slots hst hls hw hc hsl => ?_⟩
    obtain ⟨vy, st2, rfl, hvy, hst2⟩ := x_SR_cons hst
    obtain ⟨vx, st3, rfl, hvx, hst3⟩ := x_SR_cons hst2
    rw [x_V_tag0 hvx h1, x_V_tag0 hvy h2]
    exact lv_iushr hexec hb hs.1 rfl (hs.2 ▸ K H locs ad (.int _ :: st3) ls cells slots (x_SR_mk (x_V_I (xi_ushr _ _)) hst3) hls hw hc hsl)
def xs_imm (R : Room) (s : State) (m : MethodId) (args : Array Value) (c : Code) (cc : ByteArray) (rp : Nat → Nat) (nL pc : Nat) (i : XI) : Prop :=
  ∃ (own : String) (index : Nat), s.vm.findClass own = some m.cls ∧ (Cond.initialized "java/lang/Math").before args s = true ∧ c.maxLocals = nL ∧ 1 ≤ R.frames ∧ 26 ≤ R.locals ∧ x_at cc rp pc (.invokestatic index) 3 ∧
    ((i.2.1 = 0 ∧ (Cond.methodLink own index Lib.Math.min.name).before args s = true ∧ (Cond.static Lib.Math.min.name).before args s = true ∧ (Cond.code Lib.Math.min.name Lib.Math.min.code 2 (some .int)).before args s = true) ∨
     (i.2.1 = 1 ∧ (Cond.methodLink own index Lib.Math.max.name).before args s = true ∧ (Cond.static Lib.Math.max.name).before args s = true ∧ (Cond.code Lib.Math.max.name Lib.Math.max.code 2 (some .int)).before args s = true))
theorem xi_ltb (a b : Nat) : (Int32.ofNat a < Int32.ofNat b) ↔ (a + 2147483648) % 4294967296 < (b + 2147483648) % 4294967296 := by
  rw [xi_lt, xi_rng, xi_rng]
  omega
theorem x_mm (a b : Nat) : Nat.mod (Nat.add a b) 4294967296 = (a + b) % 4294967296 := rfl
theorem x_mm_t {a b : Nat} (h : Int32.ofNat a < Int32.ofNat b) : Nat.ble (Nat.succ (Nat.mod (Nat.add a 2147483648) 4294967296)) (Nat.mod (Nat.add b 2147483648) 4294967296) = true := by
  have h1 := (xi_ltb a b).mp h
  generalize 2147483648 = c at h1 ⊢
  rw [x_mm, x_mm]
  exact Nat.ble_eq_true_of_le h1
theorem x_mm_f {a b : Nat} (h : ¬ Int32.ofNat a < Int32.ofNat b) : ¬ Nat.ble (Nat.succ (Nat.mod (Nat.add a 2147483648) 4294967296)) (Nat.mod (Nat.add b 2147483648) 4294967296) = true := by
  intro hb
  refine h ((xi_ltb a b).mpr ?_)
  generalize 2147483648 = c at hb ⊢
  rw [x_mm, x_mm] at hb
  exact x_ble hb
set_option maxHeartbeats 1000000 in
theorem xk_imm (hexec : p.tables.exec = Jvm.exec) (hb : c.code = cc) (hRc : nF - n0 ≤ R.cells) (hRs : slF - sl0 ≤ R.slots) (hs : xs_imm R s m args c cc rp nL pc i) (hr : xo_imm P ih code i pc stk loc h n sl = some r)
    (hk : ∀ pc stk loc h n sl, ih code pc stk loc h n sl = some r → x_PR p l e R s m args below meth c Q D cl A en rn rp nL n0 sl0 nF slF ad0 pc stk loc h n sl) : x_PR p l e R s m args below meth c Q D cl A en rn rp nL n0 sl0 nF slF ad0 pc stk loc h n sl := by
  match stk, hr with
  | y :: x :: t, hr =>
    obtain ⟨h1, hr⟩ := x_if_n hr
    obtain ⟨h2, hr⟩ := x_if_n hr
    obtain ⟨h8, hr⟩ := x_if_n hr
    rw [x_force_eq, x_force_eq] at hr
    obtain ⟨g1, g2, K⟩ := hk _ _ _ _ _ _ hr
    refine ⟨g1, g2, fun H locs ad st ls cells slots hst hls hw hc hsl => ?_⟩
    obtain ⟨vy, st2, rfl, hvy, hst2⟩ := x_SR_cons hst
    obtain ⟨vx, st3, rfl, hvx, hst3⟩ := x_SR_cons hst2
    have ex := x_V_tag0 hvx h1
    have ey := x_V_tag0 hvy h2
    rw [ex, ey]
    obtain ⟨own, index, k1, k2, k3, k4, k5, k6, k7⟩ := hs
    have hc0 := hc.1
    have hcat : (st3.map fun v => v.category).sum + 13 ≤ R.locals := by rw [x_cats_sum hst3]; have := x_ble h8; omega
    have hml : c.maxLocals = ls.size := k3.trans (x_LR_size hls).symm
    rcases k7 with ⟨q0, q1, q2, q3⟩ | ⟨q0, q1, q2, q3⟩
    · refine va_mmin hexec hb hml k1 q1 q2 k2 q3 k4 hcat (by omega) (by omega) k6.1 (k6.2 ▸ K H locs ad (.int _ :: st3) ls cells slots (x_SR_mk ?_ hst3) hls hw hc hsl)
      rw [q0, Nat.beq_refl, x_if_true, x_if_eq]
      by_cases hlt : Int32.ofNat y.2.1 < Int32.ofNat x.2.1
      · have e := x_mm_t hlt
        rw [if_pos hlt, if_pos e]; rfl
      · have e := x_mm_f hlt
        rw [if_neg hlt, if_neg e]; rfl
    · refine va_mmax hexec hb hml k1 q1 q2 k2 q3 k4 hcat (by omega) (by omega) k6.1 (k6.2 ▸ K H locs ad (.int _ :: st3) ls cells slots (x_SR_mk ?_ hst3) hls hw hc hsl)
      rw [q0, show Nat.beq 1 0 = false from rfl, x_if_false, x_if_eq]
      by_cases hlt : Int32.ofNat x.2.1 < Int32.ofNat y.2.1
      · have e := x_mm_t hlt
        rw [if_pos hlt, if_pos e]; rfl
      · have e := x_mm_f hlt
        rw [if_neg hlt, if_neg e]; rfl
end AMOPS16
