section AMOPS17
variable {p : Program} {l : Launch} {e : Env} {R : Room} {s : State} {m : MethodId} {args : Array Value} {below : List Frame} {meth : Method} {c : Code} {Q : State → Prop}
variable {cc : ByteArray} {D : va_G} {cl : List vw_C} {A : Nat → Prop} {en : XE} {rn : Nat → FieldType} {rp : Nat → Nat} {nL n0 sl0 nF slF : Nat} {ad0 : List Nat}
variable {P : XK} {ih : XF} {code : List XI} {i : XI} {pc n sl : Nat} {stk loc : List XV} {h : XH} {r : Nat × XV × XH × Nat × Nat}
theorem x_gdrop_cons (s : Nat × XV) (t : XG) (i : Nat) : x_gdrop (s :: t) i = if i < s.1 then x_gcons (s.1 - i) s.2 t else x_gdrop t (i - s.1) := by
  show x_if (Nat.ble (Nat.succ i) s.1) (x_gcons (Nat.sub s.1 i) s.2 t) (x_gdrop t (Nat.sub i s.1)) = _
  by_cases h : i < s.1
  · rw [if_pos h, Nat.ble_eq_true_of_le h]; rfl
  · rw [if_neg h]
    cases hb : Nat.ble (Nat.succ i) s.1 with
    | true => exact absurd (x_ble hb) h
    | false => rfl
theorem x_gtake_cons (s : Nat × XV) (t : XG) (i : Nat) : x_gtake (s :: t) i = if i ≤ s.1 then x_gcons i s.2 [] else x_gcons s.1 s.2 (x_gtake t (i - s.1)) := by
  show x_if (Nat.ble i s.1) (x_gcons i s.2 []) (x_gcons s.1 s.2 (x_gtake t (Nat.sub i s.1))) = _
  by_cases h : i ≤ s.1
  · rw [if_pos h, Nat.ble_eq_true_of_le h]; rfl
  · rw [if_neg h]
    cases hb : Nat.ble i s.1 with
    | true => exact absurd (x_ble hb) h
    | false => rfl
theorem x_gcat_cons (s : Nat × XV) (t b : XG) : x_gcat (s :: t) b = x_gcons s.1 s.2 (x_gcat t b) := rfl
theorem x_gget_drop : ∀ (g : XG) (i j : Nat), x_gget (x_gdrop g i) j = x_gget g (i + j)
  | [], _, _ => rfl
  | s :: t, i, j => by
    rw [x_gdrop_cons]
    by_cases h : i < s.1
    · rw [if_pos h, x_gget_gcons, x_gget_cons, x_gget_cons]
      show (if j < s.1 - i then some s.2 else x_gget t (j - (s.1 - i))) = _
      by_cases h2 : j < s.1 - i
      · rw [if_pos h2, if_pos (by omega)]
      · rw [if_neg h2, if_neg (by omega), show j - (s.1 - i) = i + j - s.1 by omega]
    · rw [if_neg h, x_gget_drop t, x_gget_cons, if_neg (by omega), show i - s.1 + j = i + j - s.1 by omega]
theorem x_glen_drop : ∀ (g : XG) (i : Nat), x_glen (x_gdrop g i) = x_glen g - i
  | [], _ => by show 0 = 0 - _; omega
  | s :: t, i => by
    rw [x_gdrop_cons]
    by_cases h : i < s.1
    · rw [if_pos h, x_glen_gcons, x_glen_cons]; omega
    · rw [if_neg h, x_glen_drop t, x_glen_cons]; omega
theorem x_gget_take : ∀ (g : XG) (n j : Nat), x_gget (x_gtake g n) j = if j < n then x_gget g j else none
  | [], n, j => by
    show none = if j < n then none else none
    split <;> rfl
  | s :: t, n, j => by
    rw [x_gtake_cons]
    by_cases h : n ≤ s.1
    · rw [if_pos h, x_gget_gcons, x_gget_cons]
      show (if j < n then some s.2 else none) = _
      by_cases h2 : j < n
      · rw [if_pos h2, if_pos h2, x_gget_cons, if_pos (by omega)]
      · rw [if_neg h2, if_neg h2]
    · rw [if_neg h, x_gget_gcons, x_gget_cons, x_gget_cons]
      show (if j < s.1 then some s.2 else x_gget (x_gtake t (n - s.1)) (j - s.1)) = _
      by_cases h2 : j < s.1
      · rw [if_pos h2, if_pos (by omega), if_pos h2]
      · rw [if_neg h2, if_neg h2, x_gget_take t]
        by_cases h3 : j < n
        · rw [if_pos h3, if_pos (by omega)]
        · rw [if_neg h3, if_neg (by omega)]
theorem x_glen_take : ∀ (g : XG) (n : Nat), x_glen (x_gtake g n) = min n (x_glen g)
  | [], n => by show 0 = min n 0; omega
  | s :: t, n => by
    rw [x_gtake_cons]
    by_cases h : n ≤ s.1
    · rw [if_pos h, x_glen_gcons, x_glen_cons]
      show n + 0 = _
      omega
    · rw [if_neg h, x_glen_gcons, x_glen_take t, x_glen_cons]; omega
theorem x_gget_cat : ∀ (a b : XG) (j : Nat), x_gget (x_gcat a b) j = if j < x_glen a then x_gget a j else x_gget b (j - x_glen a)
  | [], b, j => by
    show x_gget b j = if j < 0 then none else x_gget b (j - 0)
    rw [if_neg (Nat.not_lt_zero j), Nat.sub_zero]
  | s :: t, b, j => by
    rw [x_gcat_cons, x_gget_gcons, x_gget_cons, x_glen_cons, x_gget_cons]
    show (if j < s.1 then some s.2 else x_gget (x_gcat t b) (j - s.1)) = _
    by_cases h : j < s.1
    · rw [if_pos h, if_pos (by omega), if_pos h]
    · rw [if_neg h, x_gget_cat t, if_neg h]
      by_cases h2 : j < s.1 + x_glen t
      · rw [if_pos h2, if_pos (by omega)]
      · rw [if_neg h2, if_neg (by omega), show j - s.1 - x_glen t = j - (s.1 + x_glen t) by omega]
theorem x_glen_cat : ∀ (a b : XG), x_glen (x_gcat a b) = x_glen a + x_glen b
  | [], b => by show x_glen b = 0 + _; omega
  | s :: t, b => by rw [x_gcat_cons, x_glen_gcons, x_glen_cat t, x_glen_cons]; omega
/-- what lies in the places behind a copy -/
theorem x_cpy_len {d s : XG} {dp sp m : Nat} (h1 : sp + m ≤ x_glen s) (h2 : dp + m ≤ x_glen d) : x_glen (x_gcat (x_gtake d dp) (x_gcat (x_gtake (x_gdrop s sp) m) (x_gdrop d (dp + m)))) = x_glen d := by
  rw [x_glen_cat, x_glen_cat, x_glen_take, x_glen_take, x_glen_drop, x_glen_drop]
  omega
theorem x_cpy_get {d s : XG} {dp sp m j : Nat} (h1 : sp + m ≤ x_glen s) (h2 : dp + m ≤ x_glen d) : x_gget (x_gcat (x_gtake d dp) (x_gcat (x_gtake (x_gdrop s sp) m) (x_gdrop d (dp + m)))) j = if dp ≤ j ∧ j < dp + m then x_gget s (sp + (j - dp)) else x_gget d j := by
  rw [x_gget_cat, x_gget_cat, x_glen_take, x_glen_take, x_glen_drop, x_gget_take, x_gget_take, x_gget_drop, x_gget_drop]
  rw [show min dp (x_glen d) = dp by omega, show min m (x_glen s - sp) = m by omega]
  by_cases q1 : j < dp
  · rw [if_pos q1, if_pos q1, if_neg (by omega)]
  · rw [if_neg q1]
    by_cases q2 : j - dp < m
    · rw [if_pos q2, if_pos q2, if_pos (by omega)]
    · rw [if_neg q2, if_neg (by omega), show dp + m + (j - dp - m) = j by omega]
theorem x_gall_get {q : XV → Bool} : ∀ {g : XG} {j : Nat} {v : XV}, x_gall q g = true → x_gget g j = some v → q v = true
  | [], _, _, _, hv => by cases hv
  | s :: t, j, v, hg, hv => by
    have hg : x_if (x_if (Nat.beq s.1 0) true (q s.2)) (x_gall q t) false = true := hg
    have h1 : x_if (Nat.beq s.1 0) true (q s.2) = true ∧ x_gall q t = true := by
      cases hq : x_if (Nat.beq s.1 0) true (q s.2) with
      | true => rw [hq, x_if_true] at hg; exact ⟨rfl, hg⟩
      | false => rw [hq] at hg; cases hg
    rw [x_gget_cons] at hv
    by_cases h : j < s.1
    · rw [if_pos h] at hv
      rw [← Option.some.inj hv]
      cases h0 : Nat.beq s.1 0 with
      | true => have := x_beq h0; omega
      | false => rw [h0, x_if_false] at h1; exact h1.1
    · rw [if_neg h] at hv
      exact x_gall_get h1.2 hv
theorem x_gget_ex : ∀ (g : XG) (j : Nat), j < x_glen g → ∃ x, x_gget g j = some x
  | [], j, h => by exact absurd h (Nat.not_lt_zero j)
  | s :: t, j, h => by
    rw [x_gget_cons]
    rw [x_glen_cons] at h
    by_cases h2 : j < s.1
    · exact ⟨s.2, by rw [if_pos h2]⟩
    · rw [if_neg h2]
      exact x_gget_ex t _ (by omega)
def xs_copy (R : Room) (s : State) (m : MethodId) (args : Array Value) (c : Code) (cc : ByteArray) (rp : Nat → Nat) (nL pc : Nat) : Prop :=
  ∃ (own : String) (index : Nat), s.vm.findClass own = some m.cls ∧ (Cond.methodLink own index arraycopyName).before args s = true ∧ (Cond.native arraycopyName).before args s = true ∧ (Cond.static arraycopyName).before args s = true ∧ (Cond.initialized "java/lang/System").before args s = true ∧ x_at cc rp pc (.invokestatic index) 3 ∧ c.maxLocals = nL ∧ 1 ≤ R.frames ∧ 26 ≤ R.locals
theorem x_nf {st : List Value} (h : (st.map fun v => v.category).sum ≤ 8) (hR : 26 ≤ R.locals) : (st.map fun v => v.category).sum + (nativeFrameWords "java/lang/System" "arraycopy" 5 + 11) ≤ R.locals := by
  have : nativeFrameWords "java/lang/System" "arraycopy" 5 = 7 := by decide +kernel
  omega
set_option maxHeartbeats 4000000 in
theorem xk_copy (hexec : p.tables.exec = Jvm.exec) (hb : c.code = cc) (hrob : ∀ b : Nat, x_rob[b]? = some 1 → ∃ C, rn b = .object C) (hrcs : ∀ ci b : Nat, x_rcs[ci]? = some b → ∃ q : vw_C, cl[ci]? = some q ∧ rn b = .object q.1) (hs : xs_copy R s m args c cc rp nL pc) (hr : xo_copy P ih code i pc stk loc h n sl = some r)
    (hk : ∀ pc stk loc h n sl, ih code pc stk loc h n sl = some r → x_PR p l e R s m args below meth c Q D cl A en rn rp nL n0 sl0 nF slF ad0 pc stk loc h n sl) : x_PR p l e R s m args below meth c Q D cl A en rn rp nL n0 sl0 nF slF ad0 pc stk loc h n sl := by
  match stk, hr with
  | mm :: dp :: d :: sp :: src :: t, hr =>
    obtain ⟨h1, hr⟩ := x_if_n hr
    obtain ⟨h2, hr⟩ := x_if_n hr
    obtain ⟨h3, hr⟩ := x_if_n hr
    obtain ⟨h4, hr⟩ := x_if_n hr
    obtain ⟨h5, hr⟩ := x_if_n hr
    obtain ⟨h6, hr⟩ := x_if_n hr
    obtain ⟨cs, hcs, hr⟩ := x_bind_some hr
    obtain ⟨cd, hcd, hr⟩ := x_bind_some hr
    obtain ⟨g1, hr⟩ := x_if_n hr
    obtain ⟨g2, hr⟩ := x_if_n hr
    obtain ⟨g3, hr⟩ := x_if_n hr
    obtain ⟨g4, hr⟩ := x_if_n hr
    obtain ⟨g5, hr⟩ := x_if_n hr
    obtain ⟨g6, hr⟩ := x_if_n hr
    obtain ⟨g7, hr⟩ := x_if_n hr
    obtain ⟨h9, hz, hr⟩ := x_bind_some hr
    rw [x_force_eq] at hr
    have g1 := x_beq g1
    have g2 := x_beq g2
    have g3 : sp.2.1 + mm.2.1 ≤ x_glen cs.2.2 := x_ble g3
    have g4 : dp.2.1 + mm.2.1 ≤ x_glen cd.2.2 := x_ble g4
    have g5 := x_ble g5
    have g6 := x_ble g6
    obtain ⟨q1, q2, K⟩ := hk _ _ _ _ _ _ hr
    refine ⟨q1, q2, fun H locs ad st ls cells slots hst hls hw hc hsl => ?_⟩
    obtain ⟨vm1, st1, rfl, hv1, hst⟩ := x_SR_cons hst
    obtain ⟨vd, st2, rfl, hv2, hst⟩ := x_SR_cons hst
    obtain ⟨vdr, st3, rfl, hv3, hst⟩ := x_SR_cons hst
    obtain ⟨vs, st4, rfl, hv4, hst⟩ := x_SR_cons hst
    obtain ⟨vsr, st5, rfl, hv5, hst⟩ := x_SR_cons hst
    obtain ⟨ad1, had1, ev3⟩ := x_ref hv3 h3
    obtain ⟨as1, has1, ev5⟩ := x_ref hv5 h5
    rw [x_V_tag0 hv1 h1, x_V_tag0 hv2 h2, x_V_tag0 hv4 h4, ev3, ev5]
    obtain ⟨ws, tys, had, hlen, hK, hP, hD, hS, hC⟩ := hw
    obtain ⟨qs, hqs, hccs⟩ := hC _ _ hcs
    obtain ⟨qd, hqd, hccd⟩ := hC _ _ hcd
    have hws := x_wsq (had ▸ has1) hqs
    have hwd := x_wsq (had ▸ had1) hqd
    obtain ⟨own, index, k1, k2, k3, k4, k5, k6, k7, k8, k9⟩ := hs
    have hcat : (st5.map fun v => v.category).sum ≤ 8 := by rw [x_cats_sum hst]; exact x_ble h6
    have b1 : sp.2.1 < 2 ^ 31 := by omega
    have b2 : dp.2.1 < 2 ^ 31 := by omega
    have b3 : mm.2.1 < 2 ^ 31 := by omega
    have e1 : (Int32.ofNat sp.2.1).toNatClampNeg = sp.2.1 := nI_clamp b1
    have e2 : (Int32.ofNat dp.2.1).toNatClampNeg = dp.2.1 := nI_clamp b2
    have e3 : (Int32.ofNat mm.2.1).toNatClampNeg = mm.2.1 := nI_clamp b3
    have key : ∀ (e9 : va_E), x_C ad en rn tys (cd.1, cd.2.1, x_gcat (x_gtake cd.2.2 dp.2.1) (x_gcat (x_gtake (x_gdrop cs.2.2 sp.2.1) mm.2.1) (x_gdrop cd.2.2 (dp.2.1 + mm.2.1)))) e9 →
        ∀ (H1 : Heap) (locs1 : List Loc), va_P D cl (ws.set d.2.1 (ad1, e9)) H1 → va_D A (ws.set d.2.1 (ad1, e9)) → va_S A s.heap H1 locs1 → W p l e R s m args below meth c H1 locs1 cells slots Q (F0 m (rp pc + 3) ls st5) := by
      intro e9 hc9 H1 locs1 p1 d1 s1
      exact k6.2 ▸ K H1 locs1 ad st5 ls cells slots hst hls (x_W_mk had hlen hK hC hcd hz hwd hc9 p1 d1 s1) hc hsl
    have hlenG := x_cpy_len g3 g4
    rcases hccs with ⟨h0, -⟩ | ⟨hk5, cA, f, t0, he, hty, hv⟩ | ⟨h0, cA, f, t0, he, hty, hv⟩ | ⟨h0, cA, f, t0, he, hty, hv⟩
    · exfalso
      rw [h0] at g7
      cases g7
    · have hk1 : cs.1 = 1 := by
        cases hb8 : Nat.beq cs.1 8 with
        | true => have := x_beq hb8; omega
        | false =>
          rw [hb8, x_if_false] at g7
          cases hb1 : Nat.beq cs.1 1 with
          | true => exact x_beq hb1
          | false => rw [hb1, x_if_false] at g7; have := x_beq g7; omega
      rcases hccd with ⟨h0, -⟩ | ⟨hk6, cA2, f2, t2, he2, hty2, hvv2⟩ | ⟨h0, -⟩ | ⟨h0, -⟩
      · omega
      · rw [he] at hws
        rw [he2] at hwd
        have hta : tys[t0]? = some (cA, .int) := by rw [hk1] at hty; exact hty
        have htb : tys[t2]? = some (cA2, .int) := by rw [← g1, hk1] at hty2; exact hty2
        refine va_copyi hexec hb (k7.trans (x_LR_size hls).symm) k1 k2 k3 k4 k5 hK hP hD hS _ _ t0 t2 hws hwd hta htb rfl (nI_pos b1) (nI_pos b2) (nI_pos b3) (by rw [e1, e3]; exact g3) (by rw [e2, e3]; exact g4) (fun i hi => rfl) k8 (x_nf hcat k9) k6.1 ?_
        rw [e1, e2, e3]
        refine key _ (Or.inr (Or.inl ⟨hk6, cA2, _, t2, by rw [hlenG], hty2, fun j x hx => ?_⟩))
        rw [x_cpy_get g3 g4] at hx
        unfold va_cpy
        by_cases hj : dp.2.1 ≤ j ∧ j < dp.2.1 + mm.2.1
        · rw [if_pos hj] at hx ⊢; exact hv _ _ hx
        · rw [if_neg hj] at hx ⊢; exact hvv2 _ _ hx
      · omega
      · omega
    · rcases hccd with ⟨h02, -⟩ | ⟨hk6, -⟩ | ⟨h02, cA2, f2, t2, he2, hty2, hvv2⟩ | ⟨h02, -⟩
      · omega
      · omega
      · rw [he] at hws
        rw [he2] at hwd
        refine va_copyl hexec hb (k7.trans (x_LR_size hls).symm) k1 k2 k3 k4 k5 hK hP hD hS _ _ t0 t2 hws hwd hty hty2 rfl (nI_pos b1) (nI_pos b2) (nI_pos b3) (by rw [e1, e3]; exact g3) (by rw [e2, e3]; exact g4) (fun i hi => rfl) k8 (x_nf hcat k9) k6.1 ?_
        rw [e1, e2, e3]
        refine key _ (Or.inr (Or.inr (Or.inl ⟨h02, cA2, _, t2, by rw [hlenG], hty2, fun j x hx => ?_⟩)))
        rw [x_cpy_get g3 g4] at hx
        unfold va_cpy
        by_cases hj : dp.2.1 ≤ j ∧ j < dp.2.1 + mm.2.1
        · rw [if_pos hj] at hx ⊢; exact hv _ _ hx
        · rw [if_neg hj] at hx ⊢; exact hvv2 _ _ hx
      · omega
    · rcases hccd with ⟨h02, -⟩ | ⟨hk6, -⟩ | ⟨h02, -⟩ | ⟨h02, cA2, f2, t2, he2, hty2, hvv2⟩
      · omega
      · omega
      · omega
      · rw [he] at hws
        rw [he2] at hwd
        rw [h0] at g7
        have g70 : x_if (Option.rec (motive := fun _ => Bool) false (fun q => Nat.beq q 1) (x_nth x_rob cs.2.1)) (x_gall (fun v => x_okref h v cs.2.1) (x_gtake (x_gdrop cs.2.2 sp.2.1) mm.2.1)) false = true := g7
        have hrb : x_rob[cs.2.1]? = some 1 ∧ x_gall (fun v => x_okref h v cs.2.1) (x_gtake (x_gdrop cs.2.2 sp.2.1) mm.2.1) = true := by
          rw [x_nth_eq] at g70
          cases hq : x_rob[cs.2.1]? with
          | none => rw [hq] at g70; cases g70
          | some q =>
            rw [hq] at g70
            have g71 : x_if (Nat.beq q 1) (x_gall (fun v => x_okref h v cs.2.1) (x_gtake (x_gdrop cs.2.2 sp.2.1) mm.2.1)) false = true := g70
            cases hb1 : Nat.beq q 1 with
            | false => rw [hb1] at g71; cases g71
            | true =>
              rw [hb1, x_if_true] at g71
              rw [x_beq hb1]
              exact ⟨rfl, g71⟩
        obtain ⟨hrb1, hgall⟩ := hrb
        obtain ⟨E, hE⟩ := hrob _ hrb1
        have hta : tys[t0]? = some (cA, .object E) := by
          have e : x_ty rn 8 cs.2.1 = .object E := hE
          rw [← e]
          exact hty
        have htb : tys[t2]? = some (cA2, .object E) := by
          have e : x_ty rn 8 cd.2.1 = .object E := by rw [← g2]; exact hE
          rw [← e]
          exact hty2
        refine va_copyq (C := E) hexec hb (k7.trans (x_LR_size hls).symm) k1 k2 k3 k4 k5 hK hP hD hS _ _ t0 t2 hws hwd hta htb (nI_pos b1) (nI_pos b2) (nI_pos b3) (by rw [e1, e3]; exact g3) (by rw [e2, e3]; exact g4) ?_ (fun comp c0 z1 z2 => by rw [z1] at z2; rw [Option.some.inj z2]; exact va_asg _ _) k8 (x_nf hcat k9) k6.1 ?_
        · rw [e1, e3]
          intro j hj y hy
          obtain ⟨x, hx⟩ := x_gget_ex cs.2.2 (sp.2.1 + j) (by omega)
          have hox : x_okref h x cs.2.1 = true := by
            refine x_gall_get hgall (j := j) ?_
            rw [x_gget_take, if_pos hj, x_gget_drop]
            exact hx
          have hxv := hv _ _ hx
          rw [hy] at hxv
          rcases x_okref_some hox with ⟨h9, -⟩ | ⟨h9, c9, hg9, hc9, hr9⟩
          · have := x_V_tag5 hxv h9
            cases this
          · obtain ⟨av, hav, evv⟩ := x_ref hxv h9
            have evv : y = av := by
              have q : Value.ref y = Value.ref av := evv
              exact Value.ref.inj q
            obtain ⟨qv, hqv, hcv⟩ := hC _ _ hg9
            have hwv := x_wsq (had ▸ hav) hqv
            rcases hcv with ⟨-, vs, hev, -⟩ | ⟨hz, -⟩ | ⟨hz, -⟩ | ⟨hz, -⟩
            · obtain ⟨rc, hrc1, hrc2⟩ := hrcs _ _ hr9
              have hEE : E = rc.1 := by
                have q := hE.symm.trans hrc2
                exact FieldType.object.inj q
              rw [evv, hEE]
              exact va_recv hK hP hrc1 (hev ▸ hwv)
            · omega
            · omega
            · omega
        · rw [e1, e2, e3]
          refine key _ (Or.inr (Or.inr (Or.inr ⟨h02, cA2, _, t2, by rw [hlenG], hty2, fun j x hx => ?_⟩)))
          rw [x_cpy_get g3 g4] at hx
          unfold va_cpy
          by_cases hj : dp.2.1 ≤ j ∧ j < dp.2.1 + mm.2.1
          · rw [if_pos hj] at hx ⊢; exact hv _ _ hx
          · rw [if_neg hj] at hx ⊢; exact hvv2 _ _ hx
def xs_clone (R : Room) (s : State) (m : MethodId) (args : Array Value) (c : Code) (A : Nat → Prop) (cc : ByteArray) (rp : Nat → Nat) (nL pc : Nat) : Prop :=
  ∃ (own : String) (index : Nat), s.vm.findClass own = some m.cls ∧ (Cond.methodLink own index ⟨"[J", "clone", "()Ljava/lang/Object;"⟩).before args s = true ∧ (Cond.sameMethod "[J" "java/lang/Object" "clone" "()Ljava/lang/Object;").before args s = true ∧
    (Cond.native ⟨"java/lang/Object", "clone", "()Ljava/lang/Object;"⟩).before args s = true ∧ (Cond.instanceMethod ⟨"java/lang/Object", "clone", "()Ljava/lang/Object;"⟩).before args s = true ∧ (Cond.selects "[J" ⟨"[J", "clone", "()Ljava/lang/Object;"⟩ ⟨"java/lang/Object", "clone", "()Ljava/lang/Object;"⟩).before args s = true ∧ va_Nw (.castable "[J" "java/lang/Cloneable") s ∧
    x_at cc rp pc (.invokevirtual index) 3 ∧ c.maxLocals = nL ∧ 1 ≤ R.frames ∧ 26 ≤ R.locals ∧ ∀ q, s.heap.size ≤ q → A q
set_option maxHeartbeats 1000000 in
theorem xk_clone (hexec : p.tables.exec = Jvm.exec) (hb : c.code = cc) (hRc : nF - n0 ≤ R.cells) (hRs : slF - sl0 ≤ R.slots) (hs : xs_clone R s m args c A cc rp nL pc) (hr : xo_clone P ih code i pc stk loc h n sl = some r)
    (hk : ∀ pc stk loc h n sl, ih code pc stk loc h n sl = some r → x_PR p l e R s m args below meth c Q D cl A en rn rp nL n0 sl0 nF slF ad0 pc stk loc h n sl) : x_PR p l e R s m args below meth c Q D cl A en rn rp nL n0 sl0 nF slF ad0 pc stk loc h n sl := by
  match stk, hr with
  | x :: t, hr =>
    obtain ⟨h1, hr⟩ := x_if_n hr
    obtain ⟨h2, hr⟩ := x_if_n hr
    obtain ⟨cell, h4, hr⟩ := x_bind_some hr
    obtain ⟨h5, hr⟩ := x_if_n hr
    obtain ⟨h9, hz, hr⟩ := x_bind_some hr
    rw [x_force_eq, x_force_eq] at hr
    obtain ⟨g1, g2, K⟩ := hk _ _ _ _ _ _ hr
    have g1 : n + 1 ≤ nF := g1
    have g2 : sl + x_glen cell.2.2 ≤ slF := g2
    refine ⟨by omega, by omega, fun H locs ad st ls cells slots hst hls hw hc hsl => ?_⟩
    obtain ⟨vx, st3, rfl, hvx, hst3⟩ := x_SR_cons hst
    obtain ⟨a, ha, ev⟩ := x_ref hvx h1
    rw [ev]
    obtain ⟨ws, tys, had, hlen, hK, hP, hD, hS, hC⟩ := hw
    obtain ⟨q, hq, hcc⟩ := hC _ _ h4
    have hwq := x_wsq (had ▸ ha) hq
    have h50 := x_beq h5
    obtain ⟨own, index, k1, k2, k3, k4, k5, k6, k7, k8, k9, k10, k11, hA⟩ := hs
    have hc0 := hc.1
    rcases hcc with ⟨h0, -⟩ | ⟨h0, -⟩ | ⟨h0, cA, f, t0, he, hty, hv⟩ | ⟨h0, -⟩
    · omega
    · omega
    · have hcx : x_C ad en rn tys cell (.inl (cA, x_glen cell.2.2, .inr (.inl f))) := Or.inr (Or.inr (Or.inl ⟨h0, cA, f, t0, rfl, hty, hv⟩))
      rw [he] at hwq
      refine va_clone hexec hb (k9.trans (x_LR_size hls).symm) k1 k2 k3 k4 k5 k6 k7 hK hP hD hS hA _ t0 hwq hty (va_nm_long (hK.2 t0 _ hty).2) (fun j v hv9 => va_fit (fun _ _ => rfl) j v hv9) k10 (by rw [x_cats_sum hst3]; have := x_ble h2; omega) (by omega) (by show slots + x_glen cell.2.2 ≤ _; omega) k8.1 ?_
      intro q9 H1 kk1 p1 d1 s1
      have hc1 := x_C_grow (ad2 := []) (t2 := [(cA, .long)]) hcx
      rw [List.append_nil] at hc1
      exact k8.2 ▸ K H1 locs (ad ++ [q9]) (.ref q9 :: st3) ls (cells + 1) (slots + x_glen cell.2.2) (x_SR_mk (x_ad_last (by rw [had, List.length_map]; exact hlen)) (x_SR_grow hst3)) (x_LR_grow hls)
        (x_W_push had hlen kk1 hC hz hc1 p1 d1 s1) (x_E_push hc) (by show slots + x_glen cell.2.2 + sl0 = sl + x_glen cell.2.2; omega)
    · omega
def xs_cast (s : State) (m : MethodId) (args : Array Value) (cc : ByteArray) (rp : Nat → Nat) (pc : Nat) : Prop :=
  ∃ (own : String) (index : Nat), s.vm.findClass own = some m.cls ∧ (Cond.classLink own index "[J").before args s = true ∧ x_at cc rp pc (.checkcast index) 3
set_option maxHeartbeats 1000000 in
theorem xk_cast (hexec : p.tables.exec = Jvm.exec) (hb : c.code = cc) (hs : xs_cast s m args cc rp pc) (hr : xo_cast P ih code i pc stk loc h n sl = some r)
    (hk : ∀ pc stk loc h n sl, ih code pc stk loc h n sl = some r → x_PR p l e R s m args below meth c Q D cl A en rn rp nL n0 sl0 nF slF ad0 pc stk loc h n sl) : x_PR p l e R s m args below meth c Q D cl A en rn rp nL n0 sl0 nF slF ad0 pc stk loc h n sl := by
  match stk, hr with
  | x :: t, hr =>
    obtain ⟨h1, hr⟩ := x_if_n hr
    obtain ⟨cell, h4, hr⟩ := x_bind_some hr
    obtain ⟨h5, hr⟩ := x_if_n hr
    rw [x_force_eq] at hr
    obtain ⟨g1, g2, K⟩ := hk _ _ _ _ _ _ hr
    refine ⟨g1, g2, fun H locs ad st ls cells slots hst hls hw hc hsl => ?_⟩
    have hst0 := hst
    obtain ⟨vx, st3, rfl, hvx, hst3⟩ := x_SR_cons hst
    obtain ⟨a, ha, ev⟩ := x_ref hvx h1
    have kk := K H locs ad _ ls cells slots hst0 hls hw hc hsl
    rw [ev] at kk ⊢
    obtain ⟨ws, tys, had, hlen, hK, hP, hD, hS, hC⟩ := hw
    obtain ⟨q, hq, hcc⟩ := hC _ _ h4
    have hwq := x_wsq (had ▸ ha) hq
    have h50 := x_beq h5
    obtain ⟨own, index, k1, k2, k8⟩ := hs
    rcases hcc with ⟨h0, -⟩ | ⟨h0, -⟩ | ⟨h0, cA, f, t0, he, hty, hv⟩ | ⟨h0, -⟩
    · omega
    · omega
    · rw [he] at hwq
      exact va_castA hexec hb k1 k2 hP _ hwq (va_nm_long (hK.2 t0 _ hty).2) k8.1 (k8.2 ▸ kk)
    · omega
/-! new rows of rows -/
theorem x_refs_get : ∀ (m k j : Nat), x_gget (x_refs m k) j = if j < m then some (6, k + j, 0) else none
  | 0, k, j => by rw [if_neg (Nat.not_lt_zero j)]; rfl
  | m + 1, k, j => by
    show x_gget ((1, (6, k, 0)) :: x_force (Nat.succ k) (x_refs m)) j = _
    rw [x_force_eq, x_gget_cons]
    show (if j < 1 then some ((6, k, 0) : XV) else x_gget (x_refs m (k + 1)) (j - 1)) = _
    by_cases h : j < 1
    · rw [if_pos h, if_pos (by omega), show k + j = k by omega]
    · rw [if_neg h, x_refs_get m]
      by_cases h2 : j < m + 1
      · rw [if_pos h2, if_pos (by omega), show k + 1 + (j - 1) = k + j by omega]
      · rw [if_neg h2, if_neg (by omega)]
theorem x_refs_len : ∀ (m k : Nat), x_glen (x_refs m k) = m
  | 0, _ => rfl
  | m + 1, k => by
    show x_glen ((1, (6, k, 0)) :: x_force (Nat.succ k) (x_refs m)) = _
    rw [x_force_eq, x_glen_cons, x_refs_len m]
    show 1 + m = m + 1
    omega
theorem x_pushs_get {c : XC} : ∀ {m : Nat} {h h2 : XH} {n : Nat}, x_pushs c m h n = some h2 → (∀ k c0, x_hget h k = some c0 → k < n) → ∀ k, x_hget h2 k = if n ≤ k ∧ k < n + m then some c else x_hget h k
  | 0, h, h2, n, hp, _, k => by
    have e : h = h2 := Option.some.inj hp
    rw [if_neg (by omega), e]
  | m + 1, h, h2, n, hp, hlt, k => by
    obtain ⟨h9, hz, hp⟩ := x_bind_some hp
    rw [x_force_eq] at hp
    have hg := x_hget_hpush hz
    have hlt9 : ∀ k c0, x_hget h9 k = some c0 → k < n + 1 := by
      intro k c0 hk
      rw [hg k (fun k c0 h0 => hlt k c0 h0)] at hk
      by_cases hkn : k = n
      · omega
      · rw [if_neg hkn] at hk
        have := hlt _ _ hk
        omega
    rw [x_pushs_get (m := m) hp hlt9 k, hg k (fun k c0 h0 => hlt k c0 h0)]
    show (if n + 1 ≤ k ∧ k < n + 1 + m then some c else if k = n then some c else x_hget h k) = _
    by_cases h1 : k = n
    · rw [if_neg (by omega), if_pos h1, if_pos (by omega)]
    · rw [if_neg h1]
      by_cases h3 : n + 1 ≤ k ∧ k < n + 1 + m
      · rw [if_pos h3, if_pos (by omega)]
      · rw [if_neg h3, if_neg (by omega)]
def xs_mna (R : Room) (s : State) (m : MethodId) (args : Array Value) (A : Nat → Prop) (rn : Nat → FieldType) (cc : ByteArray) (rp : Nat → Nat) (pc : Nat) (i : XI) : Prop :=
  ∃ (own : String) (index : Nat) (ty : FieldType), s.vm.findClass own = some m.cls ∧ (Cond.classLink own index ("[" ++ (FieldType.array ty).toString)).before args s = true ∧ va_AOA ty s ∧ (Cond.arrayClass ty).before args s = true ∧ ((i.2.1 = 1 ∧ ty = .int ∧ x_hd i.2.2.2 = 0) ∨ (i.2.1 = 6 ∧ ty = .long ∧ x_hd i.2.2.2 = 2)) ∧ rn (x_hd2 i.2.2.2) = .array ty ∧
    x_at cc rp pc (.multianewarray index 2) 4 ∧ ∀ q, s.heap.size ≤ q → A q
theorem x_range_get {α : Type} (f : Nat → α) {N j : Nat} (h : j < N) : ((List.range N).map f)[j]? = some (f j) := by
  rw [List.getElem?_map, List.getElem?_range h]; rfl
set_option maxHeartbeats 4000000 in
theorem xk_mna (hexec : p.tables.exec = Jvm.exec) (hb : c.code = cc) (hRc : nF - n0 ≤ R.cells) (hRs : slF - sl0 ≤ R.slots) (hs : xs_mna R s m args A rn cc rp pc i) (hr : xo_mna P ih code i pc stk loc h n sl = some r)
    (hk : ∀ pc stk loc h n sl, ih code pc stk loc h n sl = some r → x_PR p l e R s m args below meth c Q D cl A en rn rp nL n0 sl0 nF slF ad0 pc stk loc h n sl) : x_PR p l e R s m args below meth c Q D cl A en rn rp nL n0 sl0 nF slF ad0 pc stk loc h n sl := by
  match stk, hr with
  | k :: v :: t, hr =>
    obtain ⟨h1, hr⟩ := x_if_n hr
    obtain ⟨h2, hr⟩ := x_if_n hr
    obtain ⟨h3, hr⟩ := x_if_n hr
    obtain ⟨h4, hr⟩ := x_if_n hr
    obtain ⟨h8, hz8, hr⟩ := x_bind_some hr
    obtain ⟨h9, hz9, hr⟩ := x_bind_some hr
    rw [x_force_eq, x_force_eq] at hr
    obtain ⟨g1, g2, K⟩ := hk _ _ _ _ _ _ hr
    have g1 : n + 1 + v.2.1 ≤ nF := g1
    have g2 : sl + (v.2.1 + v.2.1 * k.2.1) ≤ slF := g2
    have b3 : v.2.1 ≤ 67108864 := x_ble h3
    have b4 : k.2.1 ≤ 67108864 := x_ble h4
    refine ⟨by omega, by omega, fun H locs ad st ls cells slots hst hls hw hc hsl => ?_⟩
    obtain ⟨vk, st2, rfl, hvk, hst2⟩ := x_SR_cons hst
    obtain ⟨vv, st3, rfl, hvv, hst3⟩ := x_SR_cons hst2
    rw [x_V_tag0 hvk h2, x_V_tag0 hvv h1]
    obtain ⟨ws, tys, had, hlen, hK, hP, hD, hS, hC⟩ := hw
    obtain ⟨own, index, ty, k1, k2, k3, k4, k5, k6, k7, hA⟩ := hs
    obtain ⟨cy, ky, cmy, hcy, hky, hkk⟩ := Cond.arrayClass_spec k4
    have hc0 := hc.1
    have m3 : v.2.1 < 2 ^ 31 := by omega
    have m4 : k.2.1 < 2 ^ 31 := by omega
    have hP0 : va_P D cl (ws ++ va_pl [] (fun _ => .inr (0, []))) H := by rw [show va_pl [] (fun _ => (.inr (0, []) : va_E)) = [] from rfl, List.append_nil]; exact hP
    have hD0 : va_D A (ws ++ va_pl [] (fun _ => .inr (0, []))) := by rw [show va_pl [] (fun _ => (.inr (0, []) : va_E)) = [] from rfl, List.append_nil]; exact hD
    -- what the two kinds say
    have hkind : ∃ z : vp_A, z = x_dfa i.2.1 k.2.1 ∧ (∀ c : ClassId, Jvm.Free.Multi.innerC c k.2.1 (defaultValue ty) = vp_cell c z) ∧ fits ty (defaultValue ty) = true ∧ (defaultValue ty).isDefault = true ∧ componentBytes ty ≤ 8 ∧ x_ty rn i.2.1 i.2.2.1 = ty ∧ va_RA s cy ty ∧ (((1 ≤ i.2.1 ∧ i.2.1 ≤ 5) ∧ x_hd i.2.2.2 = 0) ∨ (i.2.1 = 6 ∧ x_hd i.2.2.2 = 2) ∨ (i.2.1 = 8 ∧ x_hd i.2.2.2 = 5)) := by
      obtain ⟨op, ia, ib, itab⟩ := i
      rcases k5 with ⟨e1, e2, e3⟩ | ⟨e1, e2, e3⟩
      · dsimp only at e1 e3 ⊢
        subst e1 e2
        exact ⟨_, rfl, fun c => by show ({ cls := c, slots := Array.replicate k.2.1 _, vm := .none } : Cell) = _; rw [arrV_new]; rfl, rfl, rfl, by decide, rfl, hcy, Or.inl ⟨⟨by decide, by decide⟩, e3⟩⟩
      · dsimp only at e1 e3 ⊢
        subst e1 e2
        exact ⟨_, rfl, fun c => by show ({ cls := c, slots := Array.replicate k.2.1 _, vm := .none } : Cell) = _; rw [arrV_new]; rfl, rfl, rfl, by decide, rfl, hcy, Or.inr (Or.inl ⟨rfl, e3⟩)⟩
    obtain ⟨z, hz0, hz1, hz2, hz3, hz4, hz5, hz6, hz7⟩ := hkind
    have hmul : k.2.1 * componentBytes ty ≤ k.2.1 * 8 := Nat.mul_le_mul_left _ hz4
    refine va_mna hexec hb k1 k2 k3 k4 hcy hK hP0 hD0 hS hA (nI_pos m3) (nI_pos m4) (nI_clamp m3) (nI_clamp m4) (by omega) (by omega) (by omega) hz2 hz3 (by omega) (by omega) hz1 k7.1 ?_
    intro q rr cA H1 hinj hnin kk1 p1 d1 s1
    -- the new world
    have ews : (ws ++ [(q, (.inl (cA, v.2.1, .inr (.inr (.inr (.inr (fun i => if i < v.2.1 then some (rr i) else none))))) : va_E))]) ++ va_pl ([] ++ (List.range v.2.1).map rr) (vr_up (fun _ => .inr (0, [])) ((List.range v.2.1).map rr) (.inl (cy, z))) =
        (ws ++ [(q, (.inl (cA, v.2.1, .inr (.inr (.inr (.inr (fun i => if i < v.2.1 then some (rr i) else none))))) : va_E))]) ++ ((List.range v.2.1).map rr).map (fun a => (a, (.inl (cy, z) : va_E))) := by
      congr 1
      unfold va_pl
      rw [List.nil_append]
      apply List.map_congr_left
      intro a ha
      rw [vr_up_in ha]
    rw [ews] at p1 d1
    have hK2 : va_K D cl ((tys ++ [(cA, .array ty)]) ++ [(cy, ty)]) s := by
      refine ⟨hK.1, fun j w hj => ?_⟩
      by_cases hl : j < (tys ++ [(cA, FieldType.array ty)]).length
      · rw [List.getElem?_append_left hl] at hj
        exact kk1.2 j w hj
      · rw [List.getElem?_append_right (by omega)] at hj
        have h0 : j - (tys ++ [(cA, FieldType.array ty)]).length < 1 := (List.getElem?_eq_some_iff.mp hj).1
        rw [show j - (tys ++ [(cA, FieldType.array ty)]).length = 0 by omega] at hj
        cases hj
        exact ⟨fun N9 z9 => ⟨(fun q hq => by cases hq), ky, hky, cmy, hkk⟩, hz6⟩
    have hadl : ad.length = n := by rw [had, List.length_map]; exact hlen
    have hX : x_W D cl A en rn s H1 locs h9 (n + 1 + v.2.1) (ad ++ (q :: (List.range v.2.1).map rr)) := by
      refine ⟨_, _, ?_, ?_, hK2, p1, d1, s1, fun j w hj => ?_⟩
      · rw [List.map_append, List.map_append, List.map_map, had, List.append_assoc]
        congr 2
        exact (List.map_id _).symm
      · rw [List.length_append, List.length_append, List.length_map, List.length_map, List.length_range, hlen]; rfl
      · have hlt : ∀ k c0, x_hget h k = some c0 → k < n := fun k c0 h0 => by obtain ⟨q, hq, -⟩ := hC k c0 h0; rw [← hlen]; exact (List.getElem?_eq_some_iff.mp hq).1
        have hlt8 : ∀ k c0, x_hget h8 k = some c0 → k < n + 1 := by
          intro k c0 hk0
          rw [x_hget_hpush hz8 k (fun k c0 h0 => hlt k c0 h0)] at hk0
          by_cases hkn : k = n
          · omega
          · rw [if_neg hkn] at hk0
            have := hlt _ _ hk0
            omega
        rw [x_pushs_get hz9 hlt8 j, x_hget_hpush hz8 j (fun k c0 h0 => hlt k c0 h0)] at hj
        have hl1 : (ws ++ [(q, (.inl (cA, v.2.1, .inr (.inr (.inr (.inr (fun i => if i < v.2.1 then some (rr i) else none))))) : va_E))]).length = n + 1 := by rw [List.length_append, hlen]; rfl
        by_cases q1 : n + 1 ≤ j ∧ j < n + 1 + v.2.1
        · have q1' : Nat.succ n ≤ j ∧ j < Nat.succ n + v.2.1 := q1
          rw [if_pos q1'] at hj
          refine ⟨(rr (j - (n + 1)), .inl (cy, z)), ?_, ?_⟩
          · rw [List.getElem?_append_right (by omega), hl1, List.getElem?_map, x_range_get rr (by omega)]; rfl
          · rw [← Option.some.inj hj, hz0]
            have := x_C_newa (ad := ad ++ (q :: (List.range v.2.1).map rr)) (en := en) (rn := rn) (tys := tys ++ [(cA, FieldType.array ty)]) (cA := cy) (k := i.2.1) (b := i.2.2.1) (N := k.2.1) (d := x_hd i.2.2.2) hz7
            rw [hz5] at this
            exact this
        · have q1' : ¬ (Nat.succ n ≤ j ∧ j < Nat.succ n + v.2.1) := q1
          rw [if_neg q1'] at hj
          by_cases q2 : j = n
          · rw [if_pos q2] at hj
            subst q2
            refine ⟨(q, _), by rw [List.getElem?_append_left (by omega), ← hlen, List.getElem?_append_right (Nat.le_refl _), Nat.sub_self]; rfl, ?_⟩
            rw [← Option.some.inj hj]
            refine Or.inr (Or.inr (Or.inr ⟨rfl, cA, _, tys.length, by rw [x_refs_len], ?_, fun i9 x hx => ?_⟩))
            · rw [List.getElem?_append_left (by rw [List.length_append]; exact Nat.lt_succ_self _), List.getElem?_append_right (Nat.le_refl _), Nat.sub_self, k6]; rfl
            · rw [x_refs_get] at hx
              by_cases q3 : i9 < v.2.1
              · rw [if_pos q3] at hx ⊢
                rw [← Option.some.inj hx]
                refine ⟨rr i9, ?_, rfl⟩
                show (ad ++ (q :: (List.range v.2.1).map rr))[Nat.succ j + i9]? = _
                rw [List.getElem?_append_right (by omega), hadl, show Nat.succ j + i9 - j = i9 + 1 by omega, List.getElem?_cons_succ]
                exact x_range_get rr q3
              · rw [if_neg q3] at hx; cases hx
          · rw [if_neg q2] at hj
            obtain ⟨w0, w1, w2⟩ := hC j w hj
            have hjl := hlt _ _ hj
            refine ⟨w0, by rw [List.getElem?_append_left (by omega), List.getElem?_append_left (by omega)]; exact w1, ?_⟩
            have := x_C_grow (ad2 := q :: (List.range v.2.1).map rr) (t2 := [(cA, FieldType.array ty)] ++ [(cy, ty)]) w2
            rw [← List.append_assoc] at this
            exact this
    have hE : x_E ad0 (ad ++ (q :: (List.range v.2.1).map rr)) (cells + 1 + v.2.1) n0 (n + 1 + v.2.1) := by
      obtain ⟨-, ad3, rfl⟩ := hc
      exact ⟨by omega, ad3 ++ _, List.append_assoc _ _ _⟩
    exact k7.2 ▸ K H1 locs (ad ++ (q :: (List.range v.2.1).map rr)) (.ref q :: st3) ls (cells + 1 + v.2.1) (slots + v.2.1 + v.2.1 * k.2.1) (x_SR_mk ⟨q, by show (ad ++ (q :: (List.range v.2.1).map rr))[n]? = _; rw [List.getElem?_append_right (by omega), hadl, Nat.sub_self]; rfl, rfl⟩ (x_SR_grow hst3)) (x_LR_grow hls) hX hE (by show slots + v.2.1 + v.2.1 * k.2.1 + sl0 = sl + (v.2.1 + v.2.1 * k.2.1); omega)
end AMOPS17
