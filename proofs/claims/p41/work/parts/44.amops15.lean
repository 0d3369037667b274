section AMOPS15
variable {p : Program} {l : Launch} {e : Env} {R : Room} {s : State} {m : MethodId} {args : Array Value} {below : List Frame} {meth : Method} {c : Code}
variable {cc : ByteArray} {D : va_G} {cl : List vw_C} {en : XE} {rn : Nat → FieldType} {rp : Nat → Nat} {nL n0 sl0 nF slF : Nat} {ad0 : List Nat}
variable {P : XK} {ih : XF} {code : List XI} {i : XI} {pc n sl : Nat} {stk loc : List XV} {h : XH} {r : Nat × XV × XH × Nat × Nat}
/-- what is wanted of a method's end -/
abbrev x_Q (below : List Frame) (D : va_G) (cl : List vw_C) (en : XE) (rn : Nat → FieldType) (r : Nat × XV × XH × Nat × Nat) (ad0 : List Nat) (n0 sl0 : Nat) (args : Array Value) (s : State) : State → Prop :=
  MQ below (x_Qc D cl en rn r ad0 s.heap.size) args s (r.2.2.2.1 - n0) (r.2.2.2.2 - sl0) (x_Af ad0 s.heap.size)
def x_rett (t : Nat) (ret : Option FieldType) : Prop := match t with
  | 1 => ret = some .int
  | 3 => ret = some .boolean
  | 6 => ret = some .long
  | 7 => ret = some .double
  | 8 => ∃ rt, ret = some rt ∧ ((∃ n, rt = .object n) ∨ ∃ t, rt = .array t)
  | _ => False
def x_retI (t : Nat) : Instr := match t with
  | 6 => .lreturn
  | 7 => .dreturn
  | 8 => .areturn
  | _ => .ireturn
def xs_ret (meth : Method) (cc : ByteArray) (rp : Nat → Nat) (pc : Nat) : Prop := meth.sig.returnType = none ∧ decode cc (rp pc) = .ok (.return_, 1)
def xs_retv (meth : Method) (cc : ByteArray) (rp : Nat → Nat) (pc : Nat) (i : XI) : Prop := x_rett i.2.1 meth.sig.returnType ∧ decode cc (rp pc) = .ok (x_retI i.2.1, 1)
set_option maxHeartbeats 1000000 in
theorem xk_ret (hexec : p.tables.exec = Jvm.exec) (hb : c.code = cc) (hlocks : meth.locks = false) (hF : nF = r.2.2.2.1 ∧ slF = r.2.2.2.2) (hs : xs_ret meth cc rp pc) (hr : xo_ret P ih code i pc stk loc h n sl = some r) :
    x_PR p l e R s m args below meth c (x_Q below D cl en rn r ad0 n0 sl0 args s) D cl (x_Af ad0 s.heap.size) en rn rp nL n0 sl0 nF slF ad0 pc stk loc h n sl := by
  match stk, hr with
  | [], hr =>
    have hr := (Option.some.inj hr).symm
    subst hr
    obtain ⟨hF1, hF2⟩ := hF
    have hF1 : n = nF := hF1.symm
    have hF2 : sl = slF := hF2.symm
    subst hF1 hF2
    refine ⟨Nat.le_refl _, Nat.le_refl _, fun H locs ad st ls cells slots hst hls hw hc hsl => ?_⟩
    have hst : st = [] := hst
    subst hst
    obtain ⟨hc0, ad2, rfl⟩ := hc
    obtain ⟨hM, hS⟩ := x_W_M hw
    have e1 : cells = n - n0 := by omega
    have e2 : slots = sl - sl0 := by omega
    subst e1 e2
    exact W.vret hexec hb hs.1 (fun t ht hW => ⟨⟨ad2, none, rfl, Or.inl ⟨rfl, rfl⟩, by rw [ht]; exact x_M_moved hW.alike hM⟩, hS.F ht⟩) hS.2.2 hs.2
set_option maxHeartbeats 1000000 in
theorem xk_retv (hexec : p.tables.exec = Jvm.exec) (hb : c.code = cc) (hlocks : meth.locks = false) (hF : nF = r.2.2.2.1 ∧ slF = r.2.2.2.2) (hs : xs_retv meth cc rp pc i) (hr : xo_retv P ih code i pc stk loc h n sl = some r) :
    x_PR p l e R s m args below meth c (x_Q below D cl en rn r ad0 n0 sl0 args s) D cl (x_Af ad0 s.heap.size) en rn rp nL n0 sl0 nF slF ad0 pc stk loc h n sl := by
  match stk, hr with
  | [v], hr =>
    obtain ⟨hfit, hr⟩ := x_if_n hr
    have hr := (Option.some.inj hr).symm
    subst hr
    obtain ⟨hF1, hF2⟩ := hF
    have hF1 : n = nF := hF1.symm
    have hF2 : sl = slF := hF2.symm
    subst hF1 hF2
    refine ⟨Nat.le_refl _, Nat.le_refl _, fun H locs ad st ls cells slots hst hls hw hc hsl => ?_⟩
    obtain ⟨w, st2, rfl, hv, hst2⟩ := x_SR_cons hst
    have hst2 : st2 = [] := hst2
    subst hst2
    obtain ⟨hc0, ad2, rfl⟩ := hc
    obtain ⟨hM, hS⟩ := x_W_M hw
    have e1 : cells = n - n0 := by omega
    have e2 : slots = sl - sl0 := by omega
    subst e1 e2
    have hq : ∀ t : State, t.heap = H → s.WarmedH t.vm → x_Qc D cl en rn ((1, v, h, n, sl) : Nat × XV × XH × Nat × Nat) ad0 s.heap.size args s (.returned (some w)) t := fun t ht hW =>
      ⟨⟨ad2, some w, rfl, Or.inr ⟨rfl, w, rfl, hv⟩, by rw [ht]; exact x_M_moved hW.alike hM⟩, hS.F ht⟩
    obtain ⟨op, t, ib, itab⟩ := i
    obtain ⟨hs1, hs2⟩ := hs
    dsimp only at hs1 hs2 hfit
    match t, hs1, hs2, hfit with
    | 1, hs1, hs2, hfit =>
      obtain ⟨y, rfl⟩ : ∃ y, w = .int y := x_fitv_sound (t := 1) ⟨by decide, by decide⟩ hfit hv
      exact W.iret hexec hb hs1 hq hS.2.2 hs2
    | 3, hs1, hs2, hfit =>
      obtain ⟨k, hk, rfl⟩ : ∃ k, k ≤ 1 ∧ w = .int (Int32.ofNat k) := x_fitv_sound (t := 3) ⟨by decide, by decide⟩ hfit hv
      refine W.zret hexec hb hs1 ?_ hq hS.2.2 hs2
      rcases (show k = 0 ∨ k = 1 by omega) with rfl | rfl <;> rfl
    | 6, hs1, hs2, hfit =>
      obtain ⟨y, rfl⟩ : ∃ y, w = .long y := x_fitv_sound (t := 6) ⟨by decide, by decide⟩ hfit hv
      exact W.lret hexec hb hs1 hq hS.2.2 hs2
    | 7, hs1, hs2, hfit =>
      obtain ⟨y, rfl⟩ : ∃ y, w = .double y := x_fitv_sound (t := 7) ⟨by decide, by decide⟩ hfit hv
      exact W.dret hexec hb hs1 hq hS.2.2 hs2
    | 8, ⟨rt, hrt, hrt2⟩, hs2, hfit =>
      have hw9 : w = .null ∨ ∃ a, w = .ref a := x_fitv_sound (t := 8) ⟨by decide, by decide⟩ hfit hv
      exact W.aret hexec hb hrt hrt2 hw9 hq hS.2.2 hs2
/-- the tables of the methods: their names, words, locals -/
abbrev XT : Type := (Nat → MethodName) × (Nat → List Cond) × (Nat → Nat)
/-- what is known of an instruction's site -/
def x_site (T : XT) (p : Program) (l : Launch) (e : Env) (R : Room) (s : State) (m : MethodId) (args : Array Value) (below : List Frame) (meth : Method) (c : Code) (Q : State → Prop) (D : va_G) (cl : List vw_C) (A : Nat → Prop) (en : XE) (rn : Nat → FieldType) (rp : Nat → Nat) (nL : Nat) (cc : ByteArray) (pc : Nat) (i : XI) : Prop := match i.1 with
  | 0 => xs_load cc rp pc i
  | 1 => xs_getf p l e R s m args below meth c Q D cl A rp pc i
  | 2 => xs_const p l e R s m args below meth c Q en rp pc i
  | 3 => xs_icmp cc rp pc i
  | 4 => xs_if0 cc rp pc i
  | 5 => xs_goto cc rp pc i
  | 6 => xs_iinc cc rp pc i
  | 7 => xs_store cc rp pc i
  | 8 => xs_ast cc rp pc i
  | 9 => x_at cc rp pc .arraylength 1
  | 10 => (x_hd i.2.2.2 ≤ 8 ∧ 1 ≤ x_hd i.2.2.2) ∧ xs_putf p l e R s m args below meth c Q D cl A rp pc i
  | 11 => xs_call p l e R s m args below meth c D cl (T.1 i.2.1) (T.2.1 i.2.1) (T.2.2 i.2.1) rp nL pc i ∧ T.2.2 i.2.1 ≤ 45
  | 12 => xs_ret meth cc rp pc
  | 13 => xs_retv meth cc rp pc i
  | 14 => x_at cc rp pc .dup 1
  | 15 => xs_iop cc rp pc i
  | 16 => xs_ald cc rp pc i
  | 17 => xs_new p l e R s m args below meth c Q D cl A rp pc i
  | 18 => xs_newa p l e R s m args below meth c Q D cl A rn rp pc i
  | 19 => x_at cc rp pc .ineg 1
  | 20 => xs_mna R s m args A rn cc rp pc i
  | 21 => xs_store2 cc rp pc i
  | 22 => xs_lop cc rp pc i
  | 23 => x_at cc rp pc .i2l 1
  | 24 => x_at cc rp pc .l2i 1
  | 25 => xs_i2n cc rp pc i
  | 26 => x_at cc rp pc .iushr 1
  | 27 => x_at cc rp pc .lcmp 1
  | 28 => x_at cc rp pc .pop 1
  | 29 => x_at cc rp pc .dup2 1
  | 30 => xs_copy R s m args c cc rp nL pc
  | 31 => xs_gets p l e R s m args below meth c Q A en rp pc i
  | 32 => xs_ifnull cc rp pc i
  | 33 => xs_switch p l e R s m args below meth c Q rp pc i
  | 34 => xs_clone R s m args c A cc rp nL pc
  | 35 => xs_cast s m args cc rp pc
  | 36 => xs_imm R s m args c cc rp nL pc i
  | 40 => xs_objinit p l e R s m args below meth c Q D cl rp nL pc
  | 41 => xs_slen p l e R s m args below meth c Q A en rp nL pc
  | 42 => xs_sat p l e R s m args below meth c Q A en rp nL pc
  | _ => True
set_option maxHeartbeats 4000000 in
/-- all points of a method's run -/
theorem x_body {T : XT} {d : Nat} (hfr : d + 9 ≤ R.frames) (hlo : 64 * d + 192 ≤ R.locals) {G : (Nat → Prop) → State → Heap → Prop} (hG : x_G3 G) (hg : G (x_Af ad0 s.heap.size) s s.heap) (hRc : nF - n0 ≤ R.cells) (hRs : slF - sl0 ≤ R.slots)
    (hexec : p.tables.exec = Jvm.exec) (hb : c.code = cc) (hlocks : meth.locks = false) (hF : nF = r.2.2.2.1 ∧ slF = r.2.2.2.2)
    (hno : ∃ (ty : FieldType) (f : Nat → Value), va_T ty en.2.1 0 f (x_Af ad0 s.heap.size) s s.heap) (hrn : ∀ b, (∃ C, rn b = .object C) ∨ ∃ t, rn b = .array t) (hrob : ∀ b : Nat, x_rob[b]? = some 1 → ∃ C, rn b = .object C) (hrcs : ∀ ci b : Nat, x_rcs[ci]? = some b → ∃ q : vw_C, cl[ci]? = some q ∧ rn b = .object q.1)
    (hcal : ∀ (M : Nat) (xs : List XV) (h : XH) (n sl : Nat) (r1 : Nat × XV × XH × Nat × Nat), (x_flat xs).length ≤ T.2.2 M → P M (x_pad (x_flat xs) (T.2.2 M)) h n sl = some r1 → x_Met l D cl en rn G (T.1 M) (T.2.1 M) (d + 8) (64 * d + 128) xs h n sl r1)
    (hs : ∀ pc i, code[pc]? = some i → x_site T p l e R s m args below meth c (x_Q below D cl en rn r ad0 n0 sl0 args s) D cl (x_Af ad0 s.heap.size) en rn rp nL cc pc i) :
    ∀ (k pc : Nat) (stk loc : List XV) (h : XH) (n sl : Nat), x_run P k code pc stk loc h n sl = some r → x_PR p l e R s m args below meth c (x_Q below D cl en rn r ad0 n0 sl0 args s) D cl (x_Af ad0 s.heap.size) en rn rp nL n0 sl0 nF slF ad0 pc stk loc h n sl := by
  have hA : ∀ q, s.heap.size ≤ q → x_Af ad0 s.heap.size q := fun q hq => Or.inr hq
  intro k
  induction k with
  | zero => intro pc stk loc h n sl hr; cases hr
  | succ k hk =>
    intro pc stk loc h n sl hr
    obtain ⟨i, hi, hr⟩ := x_orec hr
    obtain ⟨f, hf, hr⟩ := x_orec hr
    rw [x_nth_eq] at hi
    have hsite := hs pc i hi
    obtain ⟨op, ia, ib, itab⟩ := i
    have hr : f P (x_run P k) code (op, ia, ib, itab) pc stk loc h n sl = some r := hr
    unfold x_site at hsite
    dsimp only at hsite hf
    match op, hf, hsite with
    | 0, hf, hsite => cases hf; exact xk_load hexec hb hsite hr hk
    | 1, hf, hsite => cases hf; exact xk_getf hsite hr hk
    | 2, hf, hsite => cases hf; exact xk_const hexec hb hsite hr hk
    | 3, hf, hsite => cases hf; exact xk_icmp hexec hb hsite hr hk
    | 4, hf, hsite => cases hf; exact xk_if0 hexec hb hsite hr hk
    | 5, hf, hsite => cases hf; exact xk_goto hexec hb hsite hr hk
    | 6, hf, hsite => cases hf; exact xk_iinc hexec hb hsite hr hk
    | 7, hf, hsite => cases hf; exact xk_store hexec hb hsite hr hk
    | 8, hf, hsite => cases hf; exact xk_ast hexec hb hrob hrcs hsite hr hk
    | 9, hf, hsite => cases hf; exact xk_alen hexec hb hno hsite hr hk
    | 10, hf, hsite => cases hf; exact xk_putf hsite hr hk
    | 11, hf, hsite => cases hf; exact xk_call hG hg hA hRc hRs hfr (by have := hsite.2; omega) hsite.1 (fun xs h n sl r1 h2 h3 => hcal _ xs h n sl r1 h2 h3) hr hk
    | 12, hf, hsite => cases hf; exact xk_ret hexec hb hlocks hF hsite hr
    | 13, hf, hsite => cases hf; exact xk_retv hexec hb hlocks hF hsite hr
    | 14, hf, hsite => cases hf; exact xk_dup hexec hb hsite hr hk
    | 15, hf, hsite => cases hf; exact xk_iop hexec hb hsite hr hk
    | 16, hf, hsite => cases hf; exact xk_ald hexec hb hrn hsite hr hk
    | 17, hf, hsite => cases hf; exact xk_new hRc hRs hsite hr hk
    | 18, hf, hsite => cases hf; exact xk_newa hRc hRs hsite hr hk
    | 19, hf, hsite => cases hf; exact xk_ineg hexec hb hsite hr hk
    | 20, hf, hsite => cases hf; exact xk_mna hexec hb hRc hRs hsite hr hk
    | 21, hf, hsite => cases hf; exact xk_store2 hexec hb hsite hr hk
    | 22, hf, hsite => cases hf; exact xk_lop hexec hb hsite hr hk
    | 23, hf, hsite => cases hf; exact xk_i2l hexec hb hsite hr hk
    | 24, hf, hsite => cases hf; exact xk_l2i hexec hb hsite hr hk
    | 25, hf, hsite => cases hf; exact xk_i2n hexec hb hsite hr hk
    | 26, hf, hsite => cases hf; exact xk_iushr hexec hb hsite hr hk
    | 27, hf, hsite => cases hf; exact xk_lcmp hexec hb hsite hr hk
    | 28, hf, hsite => cases hf; exact xk_pop hexec hb hsite hr hk
    | 29, hf, hsite => cases hf; exact xk_dup2 hexec hb hsite hr hk
    | 30, hf, hsite => cases hf; exact xk_copy hexec hb hrob hrcs hsite hr hk
    | 31, hf, hsite => cases hf; exact xk_gets hsite hr hk
    | 32, hf, hsite => cases hf; exact xk_ifnull hexec hb hsite hr hk
    | 33, hf, hsite => cases hf; exact xk_switch hsite hr hk
    | 34, hf, hsite => cases hf; exact xk_clone hexec hb hRc hRs hsite hr hk
    | 35, hf, hsite => cases hf; exact xk_cast hexec hb hsite hr hk
    | 36, hf, hsite => cases hf; exact xk_imm hexec hb hRc hRs hsite hr hk
    | 37, hf, hsite => cases hf; cases hr
    | 38, hf, hsite => cases hf; cases hr
    | 39, hf, hsite => cases hf; cases hr
    | 40, hf, hsite => cases hf; exact xk_objinit hsite hr hk
    | 41, hf, hsite => cases hf; exact xk_slen hRc hRs hsite hr hk
    | 42, hf, hsite => cases hf; exact xk_sat hRc hRs hsite hr hk
    | n + 43, hf, hsite => cases hf
end AMOPS15
