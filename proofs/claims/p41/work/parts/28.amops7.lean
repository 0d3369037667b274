section AMOPS7
variable {p : Program} {l : Launch} {e : Env} {R : Room} {s : State} {m : MethodId} {args : Array Value} {below : List Frame} {meth : Method} {c : Code} {Q : State → Prop}
variable {cc : ByteArray} {D : va_G} {cl : List vw_C} {A : Nat → Prop} {en : XE} {rn : Nat → FieldType} {rp : Nat → Nat} {nL n0 sl0 nF slF : Nat} {ad0 : List Nat}
variable {P : XK} {ih : XF} {code : List XI} {i : XI} {pc n sl : Nat} {stk loc : List XV} {h : XH} {r : Nat × XV × XH × Nat × Nat}
theorem xv_lcmp (hexec : p.tables.exec = Jvm.exec) (hb : c.code = cc) {x y : Int64} {v : Int32} {H : Heap} {locs : List Loc} {ls : Array Slot} {rest : List Value} {cells slots q : Nat} (hdg : decode cc q = .ok (.lcmp, 1)) (h1 : y < x → v = 1) (h2 : x = y → v = 0) (h3 : x < y → v = -1)
    (k : W p l e R s m args below meth c H locs cells slots Q (F0 m (q + 1) ls (.int v :: rest))) : W p l e R s m args below meth c H locs cells slots Q (F0 m q ls (.long y :: .long x :: rest)) := by
  intro T hT X
  obtain ⟨t, a, b⟩ := k T hT X
  refine ⟨t, ?_, b⟩
  by_cases hP : x > y
  · rw [h1 hP] at a
    jvm_step X.here [X.here.top, hexec, hb, hdg, Op.lcmp.sem, hP]
    exact a
  · by_cases hE : x = y
    · rw [h2 hE] at a
      jvm_step X.here [X.here.top, hexec, hb, hdg, Op.lcmp.sem, hP, hE]
      exact a
    · have hl : x < y := by
        rw [Int64.lt_iff_toInt_lt]
        have g1 : ¬ y.toInt < x.toInt := fun w => hP (Int64.lt_iff_toInt_lt.mpr w)
        have g2 : ¬ x.toInt = y.toInt := fun w => hE (Int64.toInt_inj.mp w)
        omega
      rw [h3 hl] at a
      jvm_step X.here [X.here.top, hexec, hb, hdg, Op.lcmp.sem, hP, hE]
      exact a
theorem xl_lt (x y : Int64) : x < y ↔ x.toInt + 9223372036854775808 < y.toInt + 9223372036854775808 := by
  rw [Int64.lt_iff_toInt_lt]; omega
theorem xl_eq (x y : Int64) : x = y ↔ x.toInt + 9223372036854775808 = y.toInt + 9223372036854775808 := by
  rw [← Int64.toInt_inj]; omega
set_option maxHeartbeats 1000000 in
theorem xk_lcmp (hexec : p.tables.exec = Jvm.exec) (hb : c.code = cc) (hs : x_at cc rp pc .lcmp 1) (hr : xo_lcmp P ih code i pc stk loc h n sl = some r)
    (hk : ∀ pc stk loc h n sl, ih code pc stk loc h n sl = some r → x_PR p l e R s m args below meth c Q D cl A en rn rp nL n0 sl0 nF slF ad0 pc stk loc h n sl) : x_PR p l e R s m args below meth c Q D cl A en rn rp nL n0 sl0 nF slF ad0 pc stk loc h n sl := by
  match stk, hr with
  | y :: x :: t, hr =>
    obtain ⟨a, h1, hr⟩ := x_bind_some hr
    obtain ⟨b, h2, hr⟩ := x_bind_some hr
    obtain ⟨w, h3, hr⟩ := x_bind_some hr
    rw [x_force_eq] at hr
    obtain ⟨g1, g2, K⟩ := hk _ _ _ _ _ _ hr
    refine ⟨g1, g2, fun H locs ad st ls cells slots hst hls hw hc hsl => ?_⟩
    obtain ⟨vy, st2, rfl, hvy, hst2⟩ := x_SR_cons hst
    obtain ⟨vx, st3, rfl, hvx, hst3⟩ := x_SR_cons hst2
    obtain ⟨X, hX, hx1, hx2⟩ := x_rngL_sound h1 hvx
    obtain ⟨Y, hY, hy1, hy2⟩ := x_rngL_sound h2 hvy
    rw [hX, hY]
    refine xv_lcmp hexec hb hs.1 (v := Int32.ofNat w) (fun z => ?_) (fun z => ?_) (fun z => ?_) (hs.2 ▸ K H locs ad (_ :: st3) ls cells slots (x_SR_mk rfl hst3) hls hw hc hsl)
    · rw [xl_lt] at z
      rcases x_if_some h3 with ⟨q, h3⟩ | ⟨-, h3⟩
      · have := x_ble q; omega
      rcases x_if_some h3 with ⟨q, h3⟩ | ⟨-, h3⟩
      · rw [← Option.some.inj h3]; rfl
      · obtain ⟨u, h4, h5⟩ := x_bind_some h3
        obtain ⟨hu, -⟩ := x_if_n h5
        have := (x_eq_sound h4 hx1 hx2 hy1 hy2).mpr hu
        omega
    · rw [xl_eq] at z
      rcases x_if_some h3 with ⟨q, h3⟩ | ⟨-, h3⟩
      · have := x_ble q; omega
      rcases x_if_some h3 with ⟨q, h3⟩ | ⟨-, h3⟩
      · have := x_ble q; omega
      · obtain ⟨u, h4, h5⟩ := x_bind_some h3
        obtain ⟨hu, h6⟩ := x_if_n h5
        rw [← Option.some.inj h6]; rfl
    · rw [xl_lt] at z
      rcases x_if_some h3 with ⟨q, h3⟩ | ⟨-, h3⟩
      · rw [← Option.some.inj h3]; rfl
      rcases x_if_some h3 with ⟨q, h3⟩ | ⟨-, h3⟩
      · have := x_ble q; omega
      · obtain ⟨u, h4, h5⟩ := x_bind_some h3
        obtain ⟨hu, -⟩ := x_if_n h5
        have := (x_eq_sound h4 hx1 hx2 hy1 hy2).mpr hu
        omega
theorem x_ref {ad : List Nat} {x : XV} {v : Value} (hv : x_V ad en x v) (h6 : Nat.beq x.1 6 = true) : ∃ a, ad[x.2.1]? = some a ∧ v = .ref a := by
  obtain ⟨t, u, w⟩ := x
  have ht : t = 6 := x_beq h6
  subst ht
  exact hv
theorem x_V_tag5 {ad : List Nat} {x : XV} {v : Value} (hv : x_V ad en x v) (h0 : Nat.beq x.1 5 = true) : v = .null := by
  obtain ⟨t, u, w⟩ := x
  have ht : t = 5 := x_beq h0
  subst ht
  exact hv
theorem x_V_tag12 {ad : List Nat} {x : XV} {v : Value} (hv : x_V ad en x v) (h0 : Nat.beq x.1 12 = true) : v = .ref en.2.1 := by
  obtain ⟨t, u, w⟩ := x
  have ht : t = 12 := x_beq h0
  subst ht
  exact hv
theorem x_wsq {ws : va_W} {k a : Nat} {q : Nat × va_E} (h : (ws.map Prod.fst)[k]? = some a) (hq : ws[k]? = some q) : ws[k]? = some (a, q.2) := by
  rw [List.getElem?_map, hq] at h
  rw [hq, ← Option.some.inj h]
def xs_ifnull (cc : ByteArray) (rp : Nat → Nat) (pc : Nat) (i : XI) : Prop := ∃ off : Int, decode cc (rp pc) = .ok (if i.2.1 = 0 then .ifnull off else .ifnonnull off, 3) ∧ ((rp pc : Nat) : Int) + off = ((rp i.2.2.1 : Nat) : Int) ∧ rp (pc + 1) = rp pc + 3 ∧ i.2.1 < 2
set_option maxHeartbeats 1000000 in
theorem xk_ifnull (hexec : p.tables.exec = Jvm.exec) (hb : c.code = cc) (hs : xs_ifnull cc rp pc i) (hr : xo_ifnull P ih code i pc stk loc h n sl = some r)
    (hk : ∀ pc stk loc h n sl, ih code pc stk loc h n sl = some r → x_PR p l e R s m args below meth c Q D cl A en rn rp nL n0 sl0 nF slF ad0 pc stk loc h n sl) : x_PR p l e R s m args below meth c Q D cl A en rn rp nL n0 sl0 nF slF ad0 pc stk loc h n sl := by
  match stk, hr with
  | x :: t, hr =>
    obtain ⟨q, h1, hr⟩ := x_goif_some hr
    obtain ⟨g1, g2, K⟩ := hk _ _ _ _ _ _ hr
    refine ⟨g1, g2, fun H locs ad st ls cells slots hst hls hw hc hsl => ?_⟩
    obtain ⟨vx, st3, rfl, hvx, hst3⟩ := x_SR_cons hst
    have kk := K H locs ad st3 ls cells slots hst3 hls hw hc hsl
    obtain ⟨off, hd, ht, hn, hlt⟩ := hs
    rcases x_if_some h1 with ⟨h5, h6⟩ | ⟨-, h6⟩
    · have ev := x_V_tag5 hvx h5
      subst ev
      have hq := Option.some.inj h6
      by_cases h0 : i.2.1 = 0
      · rw [if_pos h0] at hd
        rw [if_pos (by rw [← hq, h0]; rfl)] at kk
        exact lv_ifnullN hexec hb hd ht kk
      · rw [if_neg h0] at hd
        rw [if_neg (by rw [← hq]; intro w; exact h0 (x_beq w)), hn] at kk
        exact lv_ifnonnullN hexec hb hd kk
    · obtain ⟨h7, h8⟩ := x_if_n h6
      obtain ⟨a, -, ev⟩ := x_ref hvx h7
      subst ev
      have hq := Option.some.inj h8
      by_cases h0 : i.2.1 = 0
      · rw [if_pos h0] at hd
        rw [if_neg (by rw [← hq, h0]; intro w; cases w), hn] at kk
        exact lv_ifnull hexec hb hd kk
      · rw [if_neg h0] at hd
        rw [if_pos (by rw [← hq, show i.2.1 = 1 by omega]; rfl)] at kk
        exact lv_ifnonnull hexec hb hd ht kk
set_option maxHeartbeats 1000000 in
theorem xk_alen (hexec : p.tables.exec = Jvm.exec) (hb : c.code = cc) (hno : ∃ (ty : FieldType) (f : Nat → Value), va_T ty en.2.1 0 f A s s.heap) (hs : x_at cc rp pc .arraylength 1) (hr : xo_alen P ih code i pc stk loc h n sl = some r)
    (hk : ∀ pc stk loc h n sl, ih code pc stk loc h n sl = some r → x_PR p l e R s m args below meth c Q D cl A en rn rp nL n0 sl0 nF slF ad0 pc stk loc h n sl) : x_PR p l e R s m args below meth c Q D cl A en rn rp nL n0 sl0 nF slF ad0 pc stk loc h n sl := by
  match stk, hr with
  | x :: t, hr =>
    rcases x_if_some hr with ⟨h1, hr⟩ | ⟨h1, hr⟩
    · obtain ⟨cell, h2, hr⟩ := x_bind_some hr
      obtain ⟨h3, hr⟩ := x_if_n' hr
      have hr := x_I_some hr
      rw [x_force_eq] at hr
      obtain ⟨g1, g2, K⟩ := hk _ _ _ _ _ _ hr
      refine ⟨g1, g2, fun H locs ad st ls cells slots hst hls hw hc hsl => ?_⟩
      obtain ⟨vx, st3, rfl, hvx, hst3⟩ := x_SR_cons hst
      have kk := K H locs ad (.int (Int32.ofNat (x_glen cell.2.2)) :: st3) ls cells slots (x_SR_mk (x_V_I rfl) hst3) hls hw hc hsl
      obtain ⟨a, ha, ev⟩ := x_ref hvx h1
      rw [ev]
      obtain ⟨ws, tys, had, hlen, hK, hP, hD, hS, hC⟩ := hw
      obtain ⟨q, hq, hcc⟩ := hC _ _ h2
      have hwq := x_wsq (had ▸ ha) hq
      rcases hcc with ⟨h0, -⟩ | ⟨-, cA, f, t0, he, hty, -⟩ | ⟨-, cA, f, t0, he, hty, -⟩ | ⟨-, cA, f, t0, he, hty, -⟩
      · rw [h0] at h3; cases h3
      · exact va_alen hexec hb hK hP _ t0 (he ▸ hwq) hty rfl hs.1 (hs.2 ▸ kk)
      · exact va_alen hexec hb hK hP _ t0 (he ▸ hwq) hty rfl hs.1 (hs.2 ▸ kk)
      · exact va_alen hexec hb hK hP _ t0 (he ▸ hwq) hty rfl hs.1 (hs.2 ▸ kk)
    · obtain ⟨h1, hr⟩ := x_if_n hr
      rw [x_force_eq] at hr
      obtain ⟨g1, g2, K⟩ := hk _ _ _ _ _ _ hr
      refine ⟨g1, g2, fun H locs ad st ls cells slots hst hls hw hc hsl => ?_⟩
      obtain ⟨vx, st3, rfl, hvx, hst3⟩ := x_SR_cons hst
      have kk := K H locs ad (.int (Int32.ofNat 0) :: st3) ls cells slots (x_SR_mk rfl hst3) hls hw hc hsl
      rw [x_V_tag12 hvx h1]
      obtain ⟨ws, tys, had, hlen, hK, hP, hD, hS, hC⟩ := hw
      obtain ⟨ty, f, hT⟩ := hno
      exact va_tlen hexec hb hT hS rfl hs.1 (hs.2 ▸ kk)
end AMOPS7
