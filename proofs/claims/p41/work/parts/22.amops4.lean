section AMOPS4
variable {p : Program} {l : Launch} {e : Env} {R : Room} {s : State} {m : MethodId} {args : Array Value} {below : List Frame} {meth : Method} {c : Code} {Q : State → Prop}
variable {cc : ByteArray} {D : va_G} {cl : List vw_C} {A : Nat → Prop} {en : XE} {rn : Nat → FieldType} {rp : Nat → Nat} {nL n0 sl0 nF slF : Nat} {ad0 : List Nat}
variable {P : XK} {ih : XF} {code : List XI} {i : XI} {pc n sl : Nat} {stk loc : List XV} {h : XH} {r : Nat × XV × XH × Nat × Nat}
def x_stn (k : Nat) (q : Fin 4) : Instr := match k with
  | 0 => .istore_n q
  | 1 => .lstore_n q
  | 2 => .astore_n q
  | _ => .dstore_n q
def x_st (k a : Nat) : Instr := match k with
  | 0 => .istore a
  | 1 => .lstore a
  | 2 => .astore a
  | _ => .dstore a
def xs_store (cc : ByteArray) (rp : Nat → Nat) (pc : Nat) (i : XI) : Prop := (i.2.2.1 = 0 ∨ i.2.2.1 = 2) ∧ ((∃ q : Fin 4, (q : Nat) = i.2.1 ∧ x_at cc rp pc (x_stn i.2.2.1 q) 1) ∨ x_at cc rp pc (x_st i.2.2.1 i.2.1) 2)
def xs_store2 (cc : ByteArray) (rp : Nat → Nat) (pc : Nat) (i : XI) : Prop := (i.2.2.1 = 1 ∨ i.2.2.1 = 3) ∧ ((∃ q : Fin 4, (q : Nat) = i.2.1 ∧ x_at cc rp pc (x_stn i.2.2.1 q) 1) ∨ x_at cc rp pc (x_st i.2.2.1 i.2.1) 2)
set_option maxHeartbeats 1000000 in
theorem xk_store (hexec : p.tables.exec = Jvm.exec) (hb : c.code = cc) (hs : xs_store cc rp pc i) (hr : xo_store P ih code i pc stk loc h n sl = some r)
    (hk : ∀ pc stk loc h n sl, ih code pc stk loc h n sl = some r → x_PR p l e R s m args below meth c Q D cl A en rn rp nL n0 sl0 nF slF ad0 pc stk loc h n sl) : x_PR p l e R s m args below meth c Q D cl A en rn rp nL n0 sl0 nF slF ad0 pc stk loc h n sl := by
  match stk, hr with
  | v :: t, hr =>
    obtain ⟨h2, hr⟩ := x_if_n hr
    obtain ⟨h4, hr⟩ := x_if_n hr
    rw [x_force_eq] at hr
    obtain ⟨g1, g2, K⟩ := hk _ _ _ _ _ _ hr
    refine ⟨g1, g2, fun H locs ad st ls cells slots hst hls hw hc hsl => ?_⟩
    obtain ⟨w, st2, rfl, hw2, hst⟩ := x_SR_cons hst
    have hkd := x_beq h2
    have hlt := x_ble h4
    rw [x_len_eq] at hlt
    obtain ⟨hlen, lv, hlv, h3⟩ := hls
    have hi : i.2.1 < nL := by rw [← hlen]; exact hlt
    obtain ⟨a0, a1, a2, a3⟩ := x_V_kd hw2
    have kk : ∀ ls1 : Array Slot, lv_has ls1 nL ((i.2.1, w) :: lv.filter (fun q => !(q.1 == i.2.1) && !(q.1 + 1 == i.2.1 && q.2.category == 2))) → W p l e R s m args below meth c H locs cells slots Q (F0 m (rp (pc + 1)) ls1 st2) :=
      fun ls1 hl1 => K H locs ad st2 ls1 cells slots hst (x_LR_upd1 hlen h3 hi hw2 hl1) hw hc hsl
    obtain ⟨op, ia, ib, itab⟩ := i
    obtain ⟨hk0, hs⟩ := hs
    dsimp only at hkd hk0 hs hi kk
    rcases hk0 with rfl | rfl
    · obtain ⟨y, rfl⟩ := a0 hkd
      rcases hs with ⟨q, hq, hd, hn⟩ | ⟨hd, hn⟩
      · exact lv_istore_n hexec hb hd hq hlv hi rfl (fun ls1 hl1 => hn ▸ kk ls1 hl1)
      · exact lv_istore hexec hb hd hlv hi rfl (fun ls1 hl1 => hn ▸ kk ls1 hl1)
    · rcases a2 hkd with rfl | ⟨y, rfl⟩
      · rcases hs with ⟨q, hq, hd, hn⟩ | ⟨hd, hn⟩
        · exact lv_astore_nN hexec hb hd hq hlv hi rfl (fun ls1 hl1 => hn ▸ kk ls1 hl1)
        · exact lv_astoreN hexec hb hd hlv hi rfl (fun ls1 hl1 => hn ▸ kk ls1 hl1)
      · rcases hs with ⟨q, hq, hd, hn⟩ | ⟨hd, hn⟩
        · exact lv_astore_n hexec hb hd hq hlv hi rfl (fun ls1 hl1 => hn ▸ kk ls1 hl1)
        · exact lv_astore hexec hb hd hlv hi rfl (fun ls1 hl1 => hn ▸ kk ls1 hl1)
set_option maxHeartbeats 1000000 in
theorem xk_store2 (hexec : p.tables.exec = Jvm.exec) (hb : c.code = cc) (hs : xs_store2 cc rp pc i) (hr : xo_store2 P ih code i pc stk loc h n sl = some r)
    (hk : ∀ pc stk loc h n sl, ih code pc stk loc h n sl = some r → x_PR p l e R s m args below meth c Q D cl A en rn rp nL n0 sl0 nF slF ad0 pc stk loc h n sl) : x_PR p l e R s m args below meth c Q D cl A en rn rp nL n0 sl0 nF slF ad0 pc stk loc h n sl := by
  match stk, hr with
  | v :: t, hr =>
    obtain ⟨h2, hr⟩ := x_if_n hr
    obtain ⟨h4, hr⟩ := x_if_n hr
    rw [x_force_eq] at hr
    obtain ⟨g1, g2, K⟩ := hk _ _ _ _ _ _ hr
    refine ⟨g1, g2, fun H locs ad st ls cells slots hst hls hw hc hsl => ?_⟩
    obtain ⟨w, st2, rfl, hw2, hst⟩ := x_SR_cons hst
    have hkd := x_beq h2
    have hlt := x_ble h4
    rw [x_len_eq] at hlt
    obtain ⟨hlen, lv, hlv, h3⟩ := hls
    have hi : i.2.1 + 1 < nL := by rw [← hlen]; exact hlt
    obtain ⟨a0, a1, a2, a3⟩ := x_V_kd hw2
    have kk : ∀ ls1 : Array Slot, lv_has ls1 nL ((i.2.1, w) :: lv.filter (fun q => !(q.1 == i.2.1) && (!(q.1 == i.2.1 + 1) && !(q.1 + 1 == i.2.1 && q.2.category == 2)))) → W p l e R s m args below meth c H locs cells slots Q (F0 m (rp (pc + 1)) ls1 st2) :=
      fun ls1 hl1 => K H locs ad st2 ls1 cells slots hst (x_LR_upd2 hlen h3 hi hw2 hl1) hw hc hsl
    obtain ⟨op, ia, ib, itab⟩ := i
    obtain ⟨hk0, hs⟩ := hs
    dsimp only at hkd hk0 hs hi kk
    rcases hk0 with rfl | rfl
    · obtain ⟨y, rfl⟩ := a1 hkd
      rcases hs with ⟨q, hq, hd, hn⟩ | ⟨hd, hn⟩
      · exact lv_lstore_n hexec hb hd hq hlv hi rfl (fun ls1 hl1 => hn ▸ kk ls1 hl1)
      · exact lv_lstore hexec hb hd hlv hi rfl (fun ls1 hl1 => hn ▸ kk ls1 hl1)
    · obtain ⟨y, rfl⟩ := a3 hkd
      rcases hs with ⟨q, hq, hd, hn⟩ | ⟨hd, hn⟩
      · exact lv_dstore_n hexec hb hd hq hlv hi rfl (fun ls1 hl1 => hn ▸ kk ls1 hl1)
      · exact lv_dstore hexec hb hd hlv hi rfl (fun ls1 hl1 => hn ▸ kk ls1 hl1)
/-- one step that needs neither heap nor locals: the words under it stay -/
def x_st1 (p : Program) (l : Launch) (e : Env) (R : Room) (s : State) (m : MethodId) (args : Array Value) (below : List Frame) (meth : Method) (c : Code) (Q : State → Prop) (a b : Nat) (x y : List Value) : Prop :=
  ∀ (H : Heap) (locs : List Loc) (ls : Array Slot) (cells slots : Nat) (st : List Value), W p l e R s m args below meth c H locs cells slots Q (F0 m b ls (y ++ st)) → W p l e R s m args below meth c H locs cells slots Q (F0 m a ls (x ++ st))
/-- a constant: its tag, its number -/
def xs_const (p : Program) (l : Launch) (e : Env) (R : Room) (s : State) (m : MethodId) (args : Array Value) (below : List Frame) (meth : Method) (c : Code) (Q : State → Prop) (en : XE) (rp : Nat → Nat) (pc : Nat) (i : XI) : Prop :=
  ∃ v : Value, (∀ ad, x_V ad en (i.2.1, i.2.2.1, 0) v) ∧ x_st1 p l e R s m args below meth c Q (rp pc) (rp (pc + 1)) [] [v]
theorem xc_iconst (hexec : p.tables.exec = Jvm.exec) (hb : c.code = cc) {z : Int} {b : Nat} (hd : x_at cc rp pc (.iconst z) 1) (hz : Int32.ofInt z = Int32.ofNat b) (hi : i.2.1 = 0 ∧ i.2.2.1 = b) : xs_const p l e R s m args below meth c Q en rp pc i :=
  ⟨.int (Int32.ofNat b), fun ad => by rw [hi.1, hi.2]; rfl, fun H locs ls cells slots st k => lv_iconst hexec hb hd.1 hz (hd.2 ▸ k)⟩
theorem xc_bipush (hexec : p.tables.exec = Jvm.exec) (hb : c.code = cc) {z : Int} {b : Nat} (hd : x_at cc rp pc (.bipush z) 2) (hz : (Int8.ofInt z).toInt32 = Int32.ofNat b) (hi : i.2.1 = 0 ∧ i.2.2.1 = b) : xs_const p l e R s m args below meth c Q en rp pc i :=
  ⟨.int (Int32.ofNat b), fun ad => by rw [hi.1, hi.2]; rfl, fun H locs ls cells slots st k => lv_bipush hexec hb hd.1 hz (hd.2 ▸ k)⟩
theorem xc_sipush (hexec : p.tables.exec = Jvm.exec) (hb : c.code = cc) {z : Int} {b : Nat} (hd : x_at cc rp pc (.sipush z) 3) (hz : (Int16.ofInt z).toInt32 = Int32.ofNat b) (hi : i.2.1 = 0 ∧ i.2.2.1 = b) : xs_const p l e R s m args below meth c Q en rp pc i :=
  ⟨.int (Int32.ofNat b), fun ad => by rw [hi.1, hi.2]; rfl, fun H locs ls cells slots st k => lv_sipush hexec hb hd.1 hz (hd.2 ▸ k)⟩
theorem xc_lconst (hexec : p.tables.exec = Jvm.exec) (hb : c.code = cc) {z : Fin 2} (hd : x_at cc rp pc (.lconst z) 1) (hi : i.2.1 = 2 ∧ i.2.2.1 = z) : xs_const p l e R s m args below meth c Q en rp pc i :=
  ⟨.long (Int64.ofNat z), fun ad => by rw [hi.1, hi.2]; rfl, fun H locs ls cells slots st k => lv_lconst hexec hb hd.1 rfl (hd.2 ▸ k)⟩
theorem xc_dconst0 (hexec : p.tables.exec = Jvm.exec) (hb : c.code = cc) (hd : x_at cc rp pc (.dconst 0) 1) (hi : i.2.1 = 4) : xs_const p l e R s m args below meth c Q en rp pc i :=
  ⟨.double FP.dconst0, fun ad => by rw [hi]; exact ⟨_, rfl⟩, fun H locs ls cells slots st k => lv_dconst0 hexec hb hd.1 (hd.2 ▸ k)⟩
theorem xc_dconst1 (hexec : p.tables.exec = Jvm.exec) (hb : c.code = cc) (hd : x_at cc rp pc (.dconst 1) 1) (hi : i.2.1 = 4) : xs_const p l e R s m args below meth c Q en rp pc i :=
  ⟨.double FP.dconst1, fun ad => by rw [hi]; exact ⟨_, rfl⟩, fun H locs ls cells slots st k => lv_dconst1 hexec hb hd.1 (hd.2 ▸ k)⟩
theorem xc_ldc (hexec : p.tables.exec = Jvm.exec) (hb : c.code = cc) {own : String} {index b : Nat} (hown : s.vm.findClass own = some m.cls) (hconst : (Jvm.Cond.constant own index (Int32.ofNat b)).before args s = true) (hd : x_at cc rp pc (.ldc index) 2) (hi : i.2.1 = 0 ∧ i.2.2.1 = b) : xs_const p l e R s m args below meth c Q en rp pc i :=
  ⟨.int (Int32.ofNat b), fun ad => by rw [hi.1, hi.2]; rfl, fun H locs ls cells slots st k => lv_ldc hexec hb hown hconst hd.1 (hd.2 ▸ k)⟩
theorem xc_ldcw (hexec : p.tables.exec = Jvm.exec) (hb : c.code = cc) {own : String} {index b : Nat} (hown : s.vm.findClass own = some m.cls) (hconst : (Jvm.Cond.constant own index (Int32.ofNat b)).before args s = true) (hd : x_at cc rp pc (.ldc_w index) 3) (hi : i.2.1 = 0 ∧ i.2.2.1 = b) : xs_const p l e R s m args below meth c Q en rp pc i :=
  ⟨.int (Int32.ofNat b), fun ad => by rw [hi.1, hi.2]; rfl, fun H locs ls cells slots st k => lv_ldcw hexec hb hown hconst hd.1 (hd.2 ▸ k)⟩
theorem xc_ldc2 (hexec : p.tables.exec = Jvm.exec) (hb : c.code = cc) {own : String} {index b : Nat} (hown : s.vm.findClass own = some m.cls) (hconst : (Jvm.Cond.constantLong own index (Int64.ofNat b)).before args s = true) (hd : x_at cc rp pc (.ldc2_w index) 3) (hi : i.2.1 = 2 ∧ i.2.2.1 = b) : xs_const p l e R s m args below meth c Q en rp pc i :=
  ⟨.long (Int64.ofNat b), fun ad => by rw [hi.1, hi.2]; rfl, fun H locs ls cells slots st k => lv_ldc2 hexec hb hown hconst hd.1 (hd.2 ▸ k)⟩
set_option maxHeartbeats 1000000 in
theorem xk_const (hexec : p.tables.exec = Jvm.exec) (hb : c.code = cc) (hs : xs_const p l e R s m args below meth c Q en rp pc i) (hr : xo_const P ih code i pc stk loc h n sl = some r)
    (hk : ∀ pc stk loc h n sl, ih code pc stk loc h n sl = some r → x_PR p l e R s m args below meth c Q D cl A en rn rp nL n0 sl0 nF slF ad0 pc stk loc h n sl) : x_PR p l e R s m args below meth c Q D cl A en rn rp nL n0 sl0 nF slF ad0 pc stk loc h n sl := by
  have hr2 : ih code (pc + 1) ((i.2.1, i.2.2.1, 0) :: stk) loc h n sl = some r := by
    have h9 : x_force (Nat.succ pc) (fun p => ih code p ((i.2.1, i.2.2.1, 0) :: stk) loc h n sl) = some r := hr
    rw [x_force_eq] at h9
    exact h9
  obtain ⟨g1, g2, K⟩ := hk _ _ _ _ _ _ hr2
  obtain ⟨v, hv, hs⟩ := hs
  exact ⟨g1, g2, fun H locs ad st ls cells slots hst hls hw hc hsl => hs H locs ls cells slots st (K H locs ad (v :: st) ls cells slots (x_SR_mk (hv ad) hst) hls hw hc hsl)⟩
set_option maxHeartbeats 1000000 in
theorem xk_dup (hexec : p.tables.exec = Jvm.exec) (hb : c.code = cc) (hs : x_at cc rp pc .dup 1) (hr : xo_dup P ih code i pc stk loc h n sl = some r)
    (hk : ∀ pc stk loc h n sl, ih code pc stk loc h n sl = some r → x_PR p l e R s m args below meth c Q D cl A en rn rp nL n0 sl0 nF slF ad0 pc stk loc h n sl) : x_PR p l e R s m args below meth c Q D cl A en rn rp nL n0 sl0 nF slF ad0 pc stk loc h n sl := by
  match stk, hr with
  | x :: t, hr =>
    obtain ⟨h2, hr⟩ := x_if_n' hr
    rw [x_force_eq] at hr
    obtain ⟨g1, g2, K⟩ := hk _ _ _ _ _ _ hr
    refine ⟨g1, g2, fun H locs ad st ls cells slots hst hls hw hc hsl => ?_⟩
    obtain ⟨w, st2, rfl, hw2, hst⟩ := x_SR_cons hst
    have hcat := x_V_cat hw2
    rw [h2] at hcat
    exact lv_dup hexec hb hs.1 hcat (hs.2 ▸ K H locs ad (w :: w :: st2) ls cells slots (x_SR_mk hw2 (x_SR_mk hw2 hst)) hls hw hc hsl)
set_option maxHeartbeats 1000000 in
theorem xk_pop (hexec : p.tables.exec = Jvm.exec) (hb : c.code = cc) (hs : x_at cc rp pc .pop 1) (hr : xo_pop P ih code i pc stk loc h n sl = some r)
    (hk : ∀ pc stk loc h n sl, ih code pc stk loc h n sl = some r → x_PR p l e R s m args below meth c Q D cl A en rn rp nL n0 sl0 nF slF ad0 pc stk loc h n sl) : x_PR p l e R s m args below meth c Q D cl A en rn rp nL n0 sl0 nF slF ad0 pc stk loc h n sl := by
  match stk, hr with
  | x :: t, hr =>
    obtain ⟨h2, hr⟩ := x_if_n' hr
    rw [x_force_eq] at hr
    obtain ⟨g1, g2, K⟩ := hk _ _ _ _ _ _ hr
    refine ⟨g1, g2, fun H locs ad st ls cells slots hst hls hw hc hsl => ?_⟩
    obtain ⟨w, st2, rfl, hw2, hst⟩ := x_SR_cons hst
    have hcat := x_V_cat hw2
    rw [h2] at hcat
    exact lv_pop hexec hb hs.1 hcat (hs.2 ▸ K H locs ad st2 ls cells slots hst hls hw hc hsl)
theorem xl_i (a : Nat) : (Int64.ofNat a).toInt32 = Int32.ofNat a := by
  apply Int32.toBitVec_inj.mp
  rw [xi_bv]
  show (Int64.ofNat a).toBitVec.signExtend 32 = _
  rw [xl_bv]
  apply BitVec.eq_of_toNat_eq
  rw [BitVec.signExtend_eq_setWidth_of_le _ (by decide), BitVec.toNat_setWidth, BitVec.toNat_ofNat, BitVec.toNat_ofNat]
  simp only [Nat.reducePow]
  omega
set_option maxHeartbeats 1000000 in
theorem xk_l2i (hexec : p.tables.exec = Jvm.exec) (hb : c.code = cc) (hs : x_at cc rp pc .l2i 1) (hr : xo_l2i P ih code i pc stk loc h n sl = some r)
    (hk : ∀ pc stk loc h n sl, ih code pc stk loc h n sl = some r → x_PR p l e R s m args below meth c Q D cl A en rn rp nL n0 sl0 nF slF ad0 pc stk loc h n sl) : x_PR p l e R s m args below meth c Q D cl A en rn rp nL n0 sl0 nF slF ad0 pc stk loc h n sl := by
  match stk, hr with
  | x :: t, hr =>
    obtain ⟨h2, hr⟩ := x_if_n hr
    have hr := x_I_some hr
    rw [x_force_eq] at hr
    obtain ⟨g1, g2, K⟩ := hk _ _ _ _ _ _ hr
    refine ⟨g1, g2, fun H locs ad st ls cells slots hst hls hw hc hsl => ?_⟩
    obtain ⟨w, st2, rfl, hw2, hst2⟩ := x_SR_cons hst
    have hw0 := x_V_tag2 hw2 h2
    subst hw0
    exact lv_l2i hexec hb hs.1 (xl_i x.2.1) (hs.2 ▸ K H locs ad (_ :: st2) ls cells slots (x_SR_mk (x_V_I rfl) hst2) hls hw hc hsl)
end AMOPS4
