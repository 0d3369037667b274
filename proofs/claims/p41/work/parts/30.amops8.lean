section AMOPS8
variable {p : Program} {l : Launch} {e : Env} {R : Room} {s : State} {m : MethodId} {args : Array Value} {below : List Frame} {meth : Method} {c : Code} {Q : State → Prop}
variable {cc : ByteArray} {D : va_G} {cl : List vw_C} {A : Nat → Prop} {en : XE} {rn : Nat → FieldType} {rp : Nat → Nat} {nL n0 sl0 nF slF : Nat} {ad0 : List Nat}
variable {P : XK} {ih : XF} {code : List XI} {i : XI} {pc n sl : Nat} {stk loc : List XV} {h : XH} {r : Nat × XV × XH × Nat × Nat}
theorem xn_cl {j : Nat} (hs : x_sgn j = false) : (Int32.ofNat j).toNatClampNeg = j := nI_clamp (xn_sgn hs)
theorem xn_in {j n : Nat} (hs : x_sgn j = false) (h : j < n) : vp_in (Int32.ofNat j) n := by
  rintro (q | q)
  · exact nI_pos (xn_sgn hs) q
  · rw [xn_cl hs] at q
    omega
theorem xv_aald (hexec : p.tables.exec = Jvm.exec) (hb : c.code = cc) {tys : List (ClassId × FieldType)} {ws : va_W} {H : Heap} {locs : List Loc} {ls : Array Slot} {rest : List Value} {cells slots pc a : Nat} (hK : va_K D cl tys s) (hP : va_P D cl ws H) (q0 t0 : Nat) {cA : ClassId} {ty : FieldType} (hty : (∃ C, ty = .object C) ∨ ∃ t, ty = .array t) {n : Nat} {f : Nat → Option Nat} (ha : ws[q0]? = some (a, .inl (cA, n, .inr (.inr (.inr (.inr f)))))) (ht : tys[t0]? = some (cA, ty)) {i : Int32} (hin : vp_in i n) (hdg : decode cc pc = .ok (.aaload, 1))
    (kk : W p l e R s m args below meth c H locs cells slots Q (F0 m (pc + 1) ls (va_rf (f i.toNatClampNeg) :: rest))) : W p l e R s m args below meth c H locs cells slots Q (F0 m pc ls (.int i :: .ref a :: rest)) := by
  have hlt : i.toNatClampNeg < n := Nat.not_le.mp fun q => hin (Or.inr q)
  rcases hty with ⟨C, rfl⟩ | ⟨t, rfl⟩
  · exact W.aald (v := va_rf (f i.toNatClampNeg)) (ty := .object C) hexec hb (hP q0 _ ha) ((hK.2 t0 _ ht).1 n (fun j => va_rf (f j))) rfl (fun q => by cases q) (by show ¬ (i < 0 ∨ (arrV _ _ _).slots.size ≤ _); rw [arrV_size]; exact hin) (by show (arrV _ _ _).slots[_]? = _; rw [arrV_read _ _ hlt]) rfl rfl hdg kk
  · exact W.aald (v := va_rf (f i.toNatClampNeg)) (ty := .array t) hexec hb (hP q0 _ ha) ((hK.2 t0 _ ht).1 n (fun j => va_rf (f j))) rfl (fun q => by cases q) (by show ¬ (i < 0 ∨ (arrV _ _ _).slots.size ≤ _); rw [arrV_size]; exact hin) (by show (arrV _ _ _).slots[_]? = _; rw [arrV_read _ _ hlt]) rfl rfl hdg kk
def x_aldI (k : Nat) : Instr := match k with
  | 1 => .iaload
  | 2 => .baload
  | 3 => .baload
  | 4 => .caload
  | 5 => .saload
  | 6 => .laload
  | _ => .aaload
def x_astI (k : Nat) : Instr := match k with
  | 1 => .iastore
  | 2 => .bastore
  | 3 => .bastore
  | 4 => .castore
  | 6 => .lastore
  | _ => .aastore
def xs_ald (cc : ByteArray) (rp : Nat → Nat) (pc : Nat) (i : XI) : Prop := (i.2.1 = 1 ∨ i.2.1 = 2 ∨ i.2.1 = 3 ∨ i.2.1 = 4 ∨ i.2.1 = 5 ∨ i.2.1 = 6 ∨ i.2.1 = 8) ∧ x_at cc rp pc (x_aldI i.2.1) 1
def xs_ast (cc : ByteArray) (rp : Nat → Nat) (pc : Nat) (i : XI) : Prop := (i.2.1 = 1 ∨ i.2.1 = 2 ∨ i.2.1 = 3 ∨ i.2.1 = 4 ∨ i.2.1 = 6 ∨ i.2.1 = 8) ∧ x_at cc rp pc (x_astI i.2.1) 1
set_option maxHeartbeats 1000000 in
theorem xk_ald (hexec : p.tables.exec = Jvm.exec) (hb : c.code = cc) (hrn : ∀ b, (∃ C, rn b = .object C) ∨ ∃ t, rn b = .array t) (hs : xs_ald cc rp pc i) (hr : xo_ald P ih code i pc stk loc h n sl = some r)
    (hk : ∀ pc stk loc h n sl, ih code pc stk loc h n sl = some r → x_PR p l e R s m args below meth c Q D cl A en rn rp nL n0 sl0 nF slF ad0 pc stk loc h n sl) : x_PR p l e R s m args below meth c Q D cl A en rn rp nL n0 sl0 nF slF ad0 pc stk loc h n sl := by
  match stk, hr with
  | j :: x :: t, hr =>
    obtain ⟨h1, hr⟩ := x_if_n hr
    obtain ⟨h2, hr⟩ := x_if_n hr
    obtain ⟨h3, hr⟩ := x_if_n' hr
    obtain ⟨cell, h4, hr⟩ := x_bind_some hr
    obtain ⟨h5, hr⟩ := x_if_n hr
    obtain ⟨v, h6, hr⟩ := x_bind_some hr
    rw [x_force_eq] at hr
    obtain ⟨g1, g2, K⟩ := hk _ _ _ _ _ _ hr
    refine ⟨g1, g2, fun H locs ad st ls cells slots hst hls hw hc hsl => ?_⟩
    obtain ⟨vj, st2, rfl, hvj, hst2⟩ := x_SR_cons hst
    obtain ⟨vx, st3, rfl, hvx, hst3⟩ := x_SR_cons hst2
    have kk : ∀ w : Value, x_V ad en v w → W p l e R s m args below meth c H locs cells slots Q (F0 m (rp (pc + 1)) ls (w :: st3)) := fun w hv => K H locs ad (w :: st3) ls cells slots (x_SR_mk hv hst3) hls hw hc hsl
    obtain ⟨a, ha, ev⟩ := x_ref hvx h1
    rw [ev, x_V_tag0 hvj h2]
    obtain ⟨ws, tys, had, hlen, hK, hP, hD, hS, hC⟩ := hw
    obtain ⟨q, hq, hcc⟩ := hC _ _ h4
    have hwq := x_wsq (had ▸ ha) hq
    have hin : vp_in (Int32.ofNat j.2.1) (x_glen cell.2.2) := xn_in h3 (x_gget_in _ h6)
    obtain ⟨ho, hd, hn⟩ := hs
    have h7 := x_beq h5
    obtain ⟨op, ia, ib, itab⟩ := i
    dsimp only at ho hd h7
    rcases hcc with ⟨h0, -⟩ | ⟨hk5, cA, f, t0, he, hty, hv⟩ | ⟨h0, cA, f, t0, he, hty, hv⟩ | ⟨h0, cA, f, t0, he, hty, hv⟩
    · omega
    · rw [he] at hwq
      have kz : W p l e R s m args below meth c H locs cells slots Q (F0 m (rp pc + 1) ls (.int (f (Int32.ofNat j.2.1).toNatClampNeg) :: st3)) := by
        rw [xn_cl h3, ← hn]
        exact kk _ (hv _ _ h6)
      rw [h7] at hty
      rcases ho with rfl | rfl | rfl | rfl | rfl | rfl | rfl
      · exact va_iald hexec hb hK hP _ t0 hwq hty hin hd kz
      · exact va_bald hexec hb hK hP _ t0 hwq hty hin hd kz
      · exact va_zald hexec hb hK hP _ t0 hwq hty hin hd kz
      · exact va_cald hexec hb hK hP _ t0 hwq hty hin hd kz
      · exact va_sald hexec hb hK hP _ t0 hwq hty hin hd kz
      · omega
      · omega
    · rw [he] at hwq
      have kz : W p l e R s m args below meth c H locs cells slots Q (F0 m (rp pc + 1) ls (.long (f (Int32.ofNat j.2.1).toNatClampNeg) :: st3)) := by
        rw [xn_cl h3, ← hn]
        exact kk _ (hv _ _ h6)
      have hia : ia = 6 := by omega
      subst hia
      exact va_lald hexec hb hK hP _ t0 hwq hty hin hd kz
    · rw [he] at hwq
      have kz : W p l e R s m args below meth c H locs cells slots Q (F0 m (rp pc + 1) ls (va_rf (f (Int32.ofNat j.2.1).toNatClampNeg) :: st3)) := by
        rw [xn_cl h3, ← hn]
        exact kk _ (hv _ _ h6)
      have hia : ia = 8 := by omega
      subst hia
      exact xv_aald hexec hb hK hP _ t0 (hrn _) hwq hty hin hd kz
theorem xi_b (n : Nat) : (Int32.ofNat n).toInt8.toInt32 = Int32.ofNat (n % 256 + x_if (Nat.ble 128 (n % 256)) 4294967040 0) := by
  apply Int32.toInt_inj.mp
  rw [Int8.toInt_toInt32, Int32.toInt_toInt8, Int.bmod_def]
  have a := xi_rng n
  have b := xi_rng (n % 256 + x_if (Nat.ble 128 (n % 256)) 4294967040 0)
  cases hq : Nat.ble 128 (n % 256) with
  | true =>
    have := x_ble hq
    rw [hq, x_if_true] at b
    rw [x_if_true]
    simp only [Nat.reducePow]
    omega
  | false =>
    have := x_nble hq
    rw [hq, x_if_false] at b
    rw [x_if_false]
    simp only [Nat.reducePow]
    omega
theorem xi_brng (z : Int32) : (2147483520 : Int) ≤ z.toInt8.toInt32.toInt + 2147483648 ∧ z.toInt8.toInt32.toInt + 2147483648 ≤ 2147483775 := by
  rw [Int8.toInt_toInt32]
  have h1 := z.toInt8.le_toInt
  have h2 := z.toInt8.toInt_lt
  simp only [Int.reducePow, Int.reduceNeg] at h1 h2
  omega
theorem xi_c (n : Nat) : ((Int32.ofNat n).toUInt32 % 65536).toInt32 = Int32.ofNat (n % 65536) := by
  apply Int32.toBitVec_inj.mp
  show (Int32.ofNat n).toBitVec % 65536#32 = _
  rw [xi_bv, xi_bv]
  apply BitVec.eq_of_toNat_eq
  rw [BitVec.toNat_umod, BitVec.toNat_ofNat, BitVec.toNat_ofNat, BitVec.toNat_ofNat]
  show n % 4294967296 % 65536 = n % 65536 % 4294967296
  omega
theorem x_nar_b {ad : List Nat} {v : XV} {X : Int32} {k : XV → XR} (hv : x_V ad en v (.int X)) (hr : x_nar 2 v k = some r) : ∃ w, k w = some r ∧ x_V ad en w (.int X.toInt8.toInt32) := by
  obtain ⟨h1, hr⟩ := x_if_n hr
  have hr2 : x_if (Nat.beq v.1 0) (x_I (Nat.add (Nat.mod v.2.1 256) (x_if (Nat.ble 128 (Nat.mod v.2.1 256)) 4294967040 0)) k) (k (1, 2147483520, 2147483775)) = some r := hr
  rcases x_if_some hr2 with ⟨h2, h3⟩ | ⟨-, h3⟩
  · refine ⟨_, x_I_some h3, x_V_I ?_⟩
    have e := Value.int.inj (x_V_tag0 hv h2)
    rw [e]
    exact xi_b _
  · exact ⟨_, h3, _, rfl, xi_brng X⟩
theorem x_nar_c {ad : List Nat} {v : XV} {X : Int32} {k : XV → XR} (hv : x_V ad en v (.int X)) (hr : x_nar 4 v k = some r) : ∃ w, k w = some r ∧ x_V ad en w (.int (X.toUInt32 % 65536).toInt32) := by
  obtain ⟨h1, hr⟩ := x_if_n hr
  have hr2 : x_if (Nat.beq v.1 0) (x_I (Nat.mod v.2.1 65536) k) none = some r := hr
  obtain ⟨h2, h3⟩ := x_if_n hr2
  refine ⟨_, x_I_some h3, x_V_I ?_⟩
  have e := Value.int.inj (x_V_tag0 hv h2)
  rw [e]
  exact xi_c _
theorem x_nar_z {ad : List Nat} {v : XV} {X : Int32} {k : XV → XR} (hv : x_V ad en v (.int X)) (hr : x_nar 3 v k = some r) : ∃ w, k w = some r ∧ x_V ad en w (.int (vp_nar .boolean X)) := by
  obtain ⟨h1, hr⟩ := x_if_n hr
  have hr2 : x_if (Nat.beq v.1 0) (x_I (Nat.mod v.2.1 2) k) none = some r := hr
  obtain ⟨h2, h3⟩ := x_if_n hr2
  refine ⟨_, x_I_some h3, x_V_I ?_⟩
  have e := Value.int.inj (x_V_tag0 hv h2)
  rw [e]
  show Int32.ofNat v.2.1 &&& Int32.ofNat 1 = _
  rw [xi_and, Nat.and_one_is_mod]
  rfl
def xs_i2n (cc : ByteArray) (rp : Nat → Nat) (pc : Nat) (i : XI) : Prop := (i.2.1 = 2 ∧ x_at cc rp pc .i2b 1) ∨ (i.2.1 = 4 ∧ x_at cc rp pc .i2c 1)
set_option maxHeartbeats 1000000 in
theorem xk_i2n (hexec : p.tables.exec = Jvm.exec) (hb : c.code = cc) (hs : xs_i2n cc rp pc i) (hr : xo_i2n P ih code i pc stk loc h n sl = some r)
    (hk : ∀ pc stk loc h n sl, ih code pc stk loc h n sl = some r → x_PR p l e R s m args below meth c Q D cl A en rn rp nL n0 sl0 nF slF ad0 pc stk loc h n sl) : x_PR p l e R s m args below meth c Q D cl A en rn rp nL n0 sl0 nF slF ad0 pc stk loc h n sl := by
  match stk, hr with
  | x :: t, hr =>
    have hkd : Nat.beq (x_kd x.1) (x_akd i.2.1) = true := (x_if_n (b := Nat.beq (x_kd x.1) (x_akd i.2.1)) hr).1
    obtain ⟨op, ia, ib, itab⟩ := i
    dsimp only at hkd
    rcases hs with ⟨rfl, hd, hn⟩ | ⟨rfl, hd, hn⟩
    · have hr0 := hr
      obtain ⟨g, gg⟩ : ∃ w, (fun w => x_force (Nat.succ pc) (fun p => ih code p (w :: t) loc h n sl)) w = some r := by
        obtain ⟨-, hr⟩ := x_if_n hr
        have hr2 : x_if (Nat.beq x.1 0) (x_I (Nat.add (Nat.mod x.2.1 256) (x_if (Nat.ble 128 (Nat.mod x.2.1 256)) 4294967040 0)) (fun w => x_force (Nat.succ pc) (fun p => ih code p (w :: t) loc h n sl))) ((fun w => x_force (Nat.succ pc) (fun p => ih code p (w :: t) loc h n sl)) (1, 2147483520, 2147483775)) = some r := hr
        rcases x_if_some hr2 with ⟨-, h3⟩ | ⟨-, h3⟩
        · exact ⟨_, x_I_some h3⟩
        · exact ⟨_, h3⟩
      dsimp only at gg
      rw [x_force_eq] at gg
      obtain ⟨g1, g2, -⟩ := hk _ _ _ _ _ _ gg
      refine ⟨g1, g2, fun H locs ad st ls cells slots hst hls hw hc hsl => ?_⟩
      obtain ⟨vx, st3, rfl, hvx, hst3⟩ := x_SR_cons hst
      obtain ⟨X, rfl⟩ := (x_V_kd hvx).1 (x_beq hkd)
      obtain ⟨w, hw1, hw2⟩ := x_nar_b hvx hr0
      rw [x_force_eq] at hw1
      obtain ⟨-, -, K⟩ := hk _ _ _ _ _ _ hw1
      exact lv_i2b hexec hb hd rfl (hn ▸ K H locs ad (_ :: st3) ls cells slots (x_SR_mk hw2 hst3) hls hw hc hsl)
    · have hr0 := hr
      obtain ⟨g, gg⟩ : ∃ w, (fun w => x_force (Nat.succ pc) (fun p => ih code p (w :: t) loc h n sl)) w = some r := by
        obtain ⟨-, hr⟩ := x_if_n hr
        have hr2 : x_if (Nat.beq x.1 0) (x_I (Nat.mod x.2.1 65536) (fun w => x_force (Nat.succ pc) (fun p => ih code p (w :: t) loc h n sl))) none = some r := hr
        obtain ⟨-, h3⟩ := x_if_n hr2
        exact ⟨_, x_I_some h3⟩
      dsimp only at gg
      rw [x_force_eq] at gg
      obtain ⟨g1, g2, -⟩ := hk _ _ _ _ _ _ gg
      refine ⟨g1, g2, fun H locs ad st ls cells slots hst hls hw hc hsl => ?_⟩
      obtain ⟨vx, st3, rfl, hvx, hst3⟩ := x_SR_cons hst
      obtain ⟨X, rfl⟩ := (x_V_kd hvx).1 (x_beq hkd)
      obtain ⟨w, hw1, hw2⟩ := x_nar_c hvx hr0
      rw [x_force_eq] at hw1
      obtain ⟨-, -, K⟩ := hk _ _ _ _ _ _ hw1
      exact lv_i2c hexec hb hd rfl (hn ▸ K H locs ad (_ :: st3) ls cells slots (x_SR_mk hw2 hst3) hls hw hc hsl)
end AMOPS8
