section AMSITES
variable {p : Program} {l : Launch} {e : Env} {R : Room} {s : State} {m : MethodId} {args : Array Value} {below : List Frame} {meth : Method} {c : Code} {Q : State → Prop}
variable {cc : ByteArray} {D : va_G} {cl : List vw_C} {A : Nat → Prop} {en : XE} {rn : Nat → FieldType} {rp : Nat → Nat} {nL : Nat} {pc : Nat} {i : XI}
/-- a field's type, by its kind -/
def x_kty (t : Nat) (ty : FieldType) : Prop := match t with
  | 1 => ty = .int
  | 3 => ty = .boolean
  | 6 => ty = .long
  | 7 => ty = .double
  | 8 => (∃ C, ty = .object C) ∨ ∃ u, ty = .array u
  | _ => False
theorem x_fit_ok {t : Nat} {ty : FieldType} {v : Value} (h : x_kty t ty) (hv : x_fit t v) : narrow ty v = v ∧ fits ty v = true := by
  match t, h, hv with
  | 1, h, ⟨y, hy⟩ => subst h; subst hy; exact ⟨rfl, rfl⟩
  | 3, h, ⟨k, hk, hy⟩ =>
    subst h; subst hy
    rcases (show k = 0 ∨ k = 1 by omega) with rfl | rfl
    · exact ⟨rfl, rfl⟩
    · exact ⟨rfl, rfl⟩
  | 6, h, ⟨y, hy⟩ => subst h; subst hy; exact ⟨rfl, rfl⟩
  | 7, h, ⟨y, hy⟩ => subst h; subst hy; exact ⟨rfl, rfl⟩
  | 8, h, hy =>
    rcases h with ⟨C, rfl⟩ | ⟨u, rfl⟩ <;> rcases hy with rfl | ⟨a, rfl⟩ <;> exact ⟨rfl, rfl⟩
theorem x_kty_1 {t : Nat} {ty : FieldType} (h : x_kty t ty) : t ≤ 8 ∧ 1 ≤ t := by
  match t, h with
  | 1, _ => exact ⟨by decide, by decide⟩
  | 3, _ => exact ⟨by decide, by decide⟩
  | 6, _ => exact ⟨by decide, by decide⟩
  | 7, _ => exact ⟨by decide, by decide⟩
  | 8, _ => exact ⟨by decide, by decide⟩
/-- a class of the table: its fields lie as the words say -/
def x_Cls (Ts : List Cond) (C : String) (F : u_T) (N : Nat) (ty : Nat → FieldType) : Prop :=
  (∀ w ∈ u_ws C F N, w ∈ Ts) ∧ (∀ k, k < N → parseFieldDescriptor (F k).2.2.1 = some (ty k)) ∧ (∀ a, a < N → ∀ b, b < N → a ≠ b → (F a).2.1 ≠ (F b).2.1) ∧ ∀ k, k < N → (F k).1 = C
theorem xc_getf {Ts : List Cond} (hexec : p.tables.exec = Jvm.exec) (hb : c.code = cc) {own C : String} {F : u_T} {N index : Nat} {ty : Nat → FieldType} (hts : ∀ w ∈ Ts, w.before args s = true) (hC : x_Cls Ts C F N ty) (hown : s.vm.findClass own = some m.cls) (hc : cl[i.2.1]? = some (C, F, N)) (hk : i.2.2.1 < N)
    (hlink : (Cond.fieldLink own index C (F i.2.2.1).2.1 (F i.2.2.1).2.2.1) ∈ Ts) (hd : x_at cc rp pc (.getfield index) 3) : xs_getf p l e R s m args below meth c Q D cl A rp pc i :=
  fun H locs ls cells slots st ws tys q0 a fs v hK hP he hv kk => va_get hexec hb hts hC.1 hown hK hP q0 he hc i.2.2.1 hk (hts _ hlink) (fun x h9 => by rw [hC.2.2.2 _ hk] at h9; exact h9) hv hd.1 (hd.2 ▸ kk)
theorem xc_putf {Ts : List Cond} (hexec : p.tables.exec = Jvm.exec) (hb : c.code = cc) {own C : String} {F : u_T} {N index : Nat} {ty : Nat → FieldType} (hts : ∀ w ∈ Ts, w.before args s = true) (hC : x_Cls Ts C F N ty) (hown : s.vm.findClass own = some m.cls) (hc : cl[i.2.1]? = some (C, F, N)) (hk : i.2.2.1 < N)
    (hlink : (Cond.fieldLink own index C (F i.2.2.1).2.1 (F i.2.2.1).2.2.1) ∈ Ts) (hfin : (F i.2.2.1).2.2.2 = false) (hty : x_kty (x_hd i.2.2.2) (ty i.2.2.1)) (hd : x_at cc rp pc (.putfield index) 3) : (x_hd i.2.2.2 ≤ 8 ∧ 1 ≤ x_hd i.2.2.2) ∧ xs_putf p l e R s m args below meth c Q D cl A rp pc i := by
  refine ⟨x_kty_1 hty, fun H locs ls cells slots st ws tys q0 a fs v hK hP hD hS he hl hf kk => ?_⟩
  obtain ⟨n1, n2⟩ := x_fit_ok hty hf
  exact va_put hexec hb hts hC.1 ty hC.2.1 hC.2.2.1 hown hK hP hD hS q0 he hc i.2.2.1 hk (hts _ hlink) (fun x h9 => by rw [hC.2.2.2 _ hk] at h9; exact h9) hfin (hC.2.1 _ hk) n1 n2 hl hd.1 (fun H1 locs1 p1 d1 s1 => hd.2 ▸ kk H1 locs1 p1 d1 s1)
theorem xc_putfF {Ts : List Cond} (hexec : p.tables.exec = Jvm.exec) (hb : c.code = cc) {C : String} {F : u_T} {N index : Nat} {ty : Nat → FieldType} (hts : ∀ w ∈ Ts, w.before args s = true) (hC : x_Cls Ts C F N ty) (hown : s.vm.findClass C = some m.cls) (hc : cl[i.2.1]? = some (C, F, N)) (hk : i.2.2.1 < N) (hin : meth.name = "<init>")
    (hlink : (Cond.fieldLink C index C (F i.2.2.1).2.1 (F i.2.2.1).2.2.1) ∈ Ts) (hfin : (F i.2.2.1).2.2.2 = true) (hty : x_kty (x_hd i.2.2.2) (ty i.2.2.1)) (hd : x_at cc rp pc (.putfield index) 3) : (x_hd i.2.2.2 ≤ 8 ∧ 1 ≤ x_hd i.2.2.2) ∧ xs_putf p l e R s m args below meth c Q D cl A rp pc i := by
  refine ⟨x_kty_1 hty, fun H locs ls cells slots st ws tys q0 a fs v hK hP hD hS he hl hf kk => ?_⟩
  obtain ⟨n1, n2⟩ := x_fit_ok hty hf
  exact va_putF hexec hb hts hC.1 ty hC.2.1 hC.2.2.1 hown hK hP hD hS q0 he hc i.2.2.1 hk (hts _ hlink) (fun x h9 => by rw [hC.2.2.2 _ hk] at h9; exact h9) hfin hin (hC.2.2.2 _ hk) (hC.2.1 _ hk) n1 n2 hl hd.1 (fun H1 locs1 p1 d1 s1 => hd.2 ▸ kk H1 locs1 p1 d1 s1)
theorem xc_new {Ts : List Cond} (hexec : p.tables.exec = Jvm.exec) (hb : c.code = cc) {own C : String} {F : u_T} {N index : Nat} {ty : Nat → FieldType} (hts : ∀ w ∈ Ts, w.before args s = true) (hC : x_Cls Ts C F N ty) (hown : s.vm.findClass own = some m.cls) (hA : ∀ q, s.heap.size ≤ q → A q) (hc : cl[i.2.1]? = some (C, F, N)) (hN : i.2.2.1 = N)
    (hcl : (Cond.classLink own index C) ∈ Ts) (hinst : (Cond.instantiable C N) ∈ Ts) (hini : (Cond.initialized C) ∈ Ts) (htb : ∀ q ∈ i.2.2.2, q.2 = 0 ∨ q.2 = 2 ∨ q.2 = 4 ∨ q.2 = 5) (hdf : ∀ j, j < N → defaultValue (ty j) = vp_V (x_dfl i.2.2.2) j) (hd : x_at cc rp pc (.new index) 3) : xs_new p l e R s m args below meth c Q D cl A rp pc i := by
  refine ⟨htb, fun H locs ls cells slots st ws tys hK hP hD hS hcells hslots kk => ?_⟩
  rw [hN] at hslots kk
  exact va_new hexec hb hts hC.1 ty hC.2.1 hown (hts _ hcl) (hts _ hinst) (hts _ hini) hK hP hD hS hA hc hdf hcells hslots hd.1 (fun q H1 p1 d1 s1 => hd.2 ▸ kk q H1 p1 d1 s1)
theorem xc_ldcS (hexec : p.tables.exec = Jvm.exec) (hb : c.code = cc) {own tx : String} {index : Nat} (hown : s.vm.findClass own = some m.cls) (hZ : vk_R own index tx (en.2.2 i.2.2.1) s) (hd : x_at cc rp pc (.ldc index) 2) (hi : i.2.1 = 8) : xs_const p l e R s m args below meth c Q en rp pc i := by
  exact ⟨.ref (en.2.2 i.2.2.1), fun ad => by rw [hi]; exact rfl, fun H locs ls cells slots st kk => va_ldcS hexec hb hown hZ hd.1 (hd.2 ▸ kk)⟩
/-- the rows of a tableswitch -/
def x_tbp (rp : Nat → Nat) (pc : Nat) : Int → List Int → List (Nat × Nat) → Bool
  | _, [], [] => true
  | a, o :: r, (k, t) :: u => (decide ((a + 4294967296) % 4294967296 = (k : Int)) && decide (((rp pc : Nat) : Int) + o = ((rp t : Nat) : Int))) && x_tbp rp pc (a + 1) r u
  | _, _, _ => false
theorem x_assoc_cons (k t : Nat) (u : List (Nat × Nat)) (v d : Nat) : x_assoc ((k, t) :: u) v d = if k = v then t else x_assoc u v d := by
  show x_if (Nat.beq k v) t (x_assoc u v d) = _
  by_cases h : k = v
  · subst h
    rw [if_pos rfl, Nat.beq_refl]; rfl
  · rw [if_neg h]
    cases hb : Nat.beq k v with
    | true => exact absurd (x_beq hb) h
    | false => rfl
theorem x_tb_in {v d : Nat} {z : Int} (hv : v < 4294967296) (hz : z + 2147483648 = (((v + 2147483648) % 4294967296 : Nat) : Int)) : ∀ (offs : List Int) (tb : List (Nat × Nat)) (a : Int), x_tbp rp pc a offs tb = true → -2147483648 ≤ a → a + (offs.length : Int) ≤ 2147483648 → a ≤ z → z < a + (offs.length : Int) → ∃ o, offs[(z - a).toNat]? = some o ∧ ((rp pc : Nat) : Int) + o = ((rp (x_assoc tb v d) : Nat) : Int)
  | [], tb, a, _, _, _, h1, h2 => by exfalso; simp at h2; omega
  | o :: r, [], a, h, _, _, _, _ => by cases h
  | o :: r, (k, t) :: u, a, h, h0, h9, h1, h2 => by
    have h : ((decide ((a + 4294967296) % 4294967296 = (k : Int)) && decide (((rp pc : Nat) : Int) + o = ((rp t : Nat) : Int))) && x_tbp rp pc (a + 1) r u) = true := h
    rw [Bool.and_eq_true, Bool.and_eq_true, decide_eq_true_eq, decide_eq_true_eq] at h
    obtain ⟨⟨e1, e2⟩, e3⟩ := h
    rw [List.length_cons] at h9 h2
    rw [x_assoc_cons]
    by_cases hza : z = a
    · rw [if_pos (by omega), hza, Int.sub_self]
      exact ⟨o, rfl, e2⟩
    · rw [if_neg (by omega)]
      obtain ⟨o2, f1, f2⟩ := x_tb_in hv hz r u (a + 1) e3 (by omega) (by omega) (by omega) (by omega)
      refine ⟨o2, ?_, f2⟩
      rw [show (z - a).toNat = (z - (a + 1)).toNat + 1 by omega, List.getElem?_cons_succ]
      exact f1
theorem x_tb_out {v d : Nat} {z : Int} (hv : v < 4294967296) (hz : z + 2147483648 = (((v + 2147483648) % 4294967296 : Nat) : Int)) : ∀ (offs : List Int) (tb : List (Nat × Nat)) (a : Int), x_tbp rp pc a offs tb = true → -2147483648 ≤ a → a + (offs.length : Int) ≤ 2147483648 → (z < a ∨ a + (offs.length : Int) ≤ z) → x_assoc tb v d = d
  | [], [], a, _, _, _, _ => rfl
  | [], _ :: _, a, h, _, _, _ => by cases h
  | o :: r, [], a, h, _, _, _ => by cases h
  | o :: r, (k, t) :: u, a, h, h0, h9, h1 => by
    have h : ((decide ((a + 4294967296) % 4294967296 = (k : Int)) && decide (((rp pc : Nat) : Int) + o = ((rp t : Nat) : Int))) && x_tbp rp pc (a + 1) r u) = true := h
    rw [Bool.and_eq_true, Bool.and_eq_true, decide_eq_true_eq, decide_eq_true_eq] at h
    obtain ⟨⟨e1, e2⟩, e3⟩ := h
    rw [List.length_cons] at h9 h1
    rw [x_assoc_cons, if_neg (by omega)]
    exact x_tb_out hv hz r u (a + 1) e3 (by omega) (by omega) (by omega)
theorem xc_table (hexec : p.tables.exec = Jvm.exec) (hb : c.code = cc) {dflt lo hi : Int} {offs : Array Int} {len : Nat} (hd : decode cc (rp pc) = .ok (.tableswitch dflt lo hi offs, len)) (hchk : x_tbp rp pc lo offs.toList i.2.2.2 = true) (hlo : -2147483648 ≤ lo) (hhi : hi + 1 = lo + (offs.toList.length : Int)) (hh : hi < 2147483648)
    (hdf : ((rp pc : Nat) : Int) + dflt = ((rp i.2.2.1 : Nat) : Int)) : xs_switch p l e R s m args below meth c Q rp pc i := by
  intro H locs ls cells slots st v hv kk
  have hz := xi_rng v
  by_cases h1 : (Int32.ofNat v).toInt < lo
  · rw [x_tb_out hv hz _ _ _ hchk hlo (by omega) (Or.inl h1)] at kk
    exact lv_tableOut hexec hb hd (Or.inl h1) hdf kk
  · by_cases h2 : hi < (Int32.ofNat v).toInt
    · rw [x_tb_out hv hz _ _ _ hchk hlo (by omega) (Or.inr (by omega))] at kk
      exact lv_tableOut hexec hb hd (Or.inr h2) hdf kk
    · obtain ⟨o, o1, o2⟩ := x_tb_in (d := i.2.2.1) hv hz _ _ _ hchk hlo (by omega) (by omega) (by omega)
      exact lv_tableIn hexec hb hd h1 h2 (by rw [← Array.getElem?_toList]; exact o1) o2 kk
/-- the rows of a lookupswitch -/
def x_lkp (rp : Nat → Nat) (pc : Nat) : List (Int × Int) → List (Nat × Nat) → Bool
  | [], [] => true
  | (a, o) :: r, (k, t) :: u => (decide ((a + 4294967296) % 4294967296 = (k : Int)) && decide (-2147483648 ≤ a ∧ a < 2147483648) && decide (((rp pc : Nat) : Int) + o = ((rp t : Nat) : Int))) && x_lkp rp pc r u
  | _, _ => false
theorem x_lk_off {v d : Nat} {z dflt : Int} (hv : v < 4294967296) (hz : z + 2147483648 = (((v + 2147483648) % 4294967296 : Nat) : Int)) (hd : ((rp pc : Nat) : Int) + dflt = ((rp d : Nat) : Int)) : ∀ (ps : List (Int × Int)) (tb : List (Nat × Nat)), x_lkp rp pc ps tb = true → ((rp pc : Nat) : Int) + Op.lookupswitch.offset ps dflt z = ((rp (x_assoc tb v d) : Nat) : Int)
  | [], [], _ => hd
  | [], _ :: _, h => by cases h
  | _ :: _, [], h => by cases h
  | (a, o) :: r, (k, t) :: u, h => by
    have h : ((decide ((a + 4294967296) % 4294967296 = (k : Int)) && decide (-2147483648 ≤ a ∧ a < 2147483648) && decide (((rp pc : Nat) : Int) + o = ((rp t : Nat) : Int))) && x_lkp rp pc r u) = true := h
    rw [Bool.and_eq_true, Bool.and_eq_true, Bool.and_eq_true, decide_eq_true_eq, decide_eq_true_eq, decide_eq_true_eq] at h
    obtain ⟨⟨⟨e1, e4⟩, e2⟩, e3⟩ := h
    rw [x_assoc_cons, Op.lookupswitch.offset_cons]
    by_cases hza : a = z
    · rw [if_pos hza, if_pos (by omega)]
      exact e2
    · rw [if_neg hza, if_neg (by omega)]
      exact x_lk_off hv hz hd r u e3
theorem xc_lookup (hexec : p.tables.exec = Jvm.exec) (hb : c.code = cc) {dflt : Int} {ps : Array (Int × Int)} {len : Nat} (hd : decode cc (rp pc) = .ok (.lookupswitch dflt ps, len)) (hp : (ps.toList.zip (ps.toList.drop 1)).all (fun (a, next) => a.1 < next.1) = true) (hchk : x_lkp rp pc ps.toList i.2.2.2 = true)
    (hdf : ((rp pc : Nat) : Int) + dflt = ((rp i.2.2.1 : Nat) : Int)) : xs_switch p l e R s m args below meth c Q rp pc i := by
  intro H locs ls cells slots st v hv kk
  exact lv_lookup hexec hb hd hp rfl (x_lk_off hv (xi_rng v) hdf _ _ hchk) kk
theorem xc_objinit {Ts : List Cond} (hexec : p.tables.exec = Jvm.exec) (hb : c.code = cc) (hml : c.maxLocals = nL) {own : String} {index : Nat} (hown : s.vm.findClass own = some m.cls) (hts : ∀ w ∈ Ts, w.before args s = true) (hlink : (Cond.methodLink own index objectInit) ∈ Ts) (hinst : (Cond.instanceMethod objectInit) ∈ Ts) (hcode : (Cond.code objectInit ⟨#[0xb1]⟩ 1 none) ∈ Ts)
    (hf : 1 ≤ R.frames) (hlo : 20 ≤ R.locals) (hd : x_at cc rp pc (.invokespecial index) 3) : xs_objinit p l e R s m args below meth c Q D cl rp nL pc := by
  intro H locs ls cells slots st ws tys q0 a ci fs hK hP he hsz hcat kk
  exact W.objInit hexec hb hown (hts _ hlink) (hts _ hinst) (hts _ hcode) rfl (by rw [hml]; exact hsz) rfl hd.1 hf (by show 2 * 0 + _ + 12 ≤ _; omega) (W.eq (g2 := F0 m (rp (pc + 1)) ls st) (by rw [hd.2]) kk)
section CALLS
variable {Ts wy ws' : List Cond} {own : String} {index yL n : Nat} {y : MethodName} {bytes : ByteArray} {ret : Option FieldType}
theorem xc_callS (S : CallFix p m c cc nL s args Ts own) (hG : GoodIn Ts wy) (hw : wy = .code y bytes yL ret :: ws') (hini : (Cond.initialized y.cls) ∈ Ts) (hl : (Cond.methodLink own index y) ∈ Ts) (hst : (Cond.static y) ∈ Ts)
    (hd : y.cls ≠ "java/lang/invoke/MethodHandle" ∧ y.cls ≠ "java/lang/invoke/VarHandle" ∧ (parseMethodDescriptor y.desc).map (fun d => d.parameters.length) = some i.2.2.1) (h2 : x_hd i.2.2.2 = yL) (hdec : x_at cc rp pc (.invokestatic index) 3) : xs_call p l e R s m args below meth c D cl y wy yL rp nL pc i := by
  refine ⟨hdec.2, h2, fun rm Pc Qc mc ms free H locs cells slots ls av rest hM hrc hrs hfr hlo hp hlen _ hsz hcat hc1 hs1 => ?_⟩
  have hts := S.2.2.2.2
  exact va_runS S hM ⟨callB_of i.2.2.1 hts hG hw hrc hrs (hts _ hini) (hts _ hl) hd ⟨hfr, hlo⟩, hts _ hst⟩ hp rfl hlen hsz rfl (lv_room hcat) hdec.1 ⟨hc1, hs1⟩
theorem xc_callV {C : String} {F : u_T} {N ci : Nat} (S : CallFix p m c cc nL s args Ts own) (hG : GoodIn Ts wy) (hw : wy = .code y bytes yL ret :: ws') (hini : (Cond.initialized y.cls) ∈ Ts) (hl : (Cond.methodLink own index y) ∈ Ts) (hin : (Cond.instanceMethod y) ∈ Ts) (hse : (Cond.selects C y y) ∈ Ts) (hc : cl[ci]? = some (C, F, N)) (h0 : x_hd2 i.2.2.2 = ci + 1) (hn : i.2.2.1 = n + 1)
    (hd : y.cls ≠ "java/lang/invoke/MethodHandle" ∧ y.cls ≠ "java/lang/invoke/VarHandle" ∧ (parseMethodDescriptor y.desc).map (fun d => d.parameters.length) = some n) (h2 : x_hd i.2.2.2 = yL) (hdec : x_at cc rp pc (.invokevirtual index) 3) : xs_call p l e R s m args below meth c D cl y wy yL rp nL pc i := by
  refine ⟨hdec.2, h2, fun rm Pc Qc mc ms free H locs cells slots ls av rest hM hrc hrs hfr hlo hp hlen hrec hsz hcat hc1 hs1 => ?_⟩
  have hts := S.2.2.2.2
  rcases hrec with hrec | ⟨ws, tys, k, q0, a, fs, r, k1, rfl, hK, hP, he⟩
  · omega
  · have hk : k = ci := by omega
    subst hk
    have hst : (Value.ref a :: r).reverse ++ rest = r.reverse ++ .ref a :: rest := by rw [List.reverse_cons, List.append_assoc]; rfl
    rw [hst]
    exact va_runV S hM ⟨callB_of n hts hG hw hrc hrs (hts _ hini) (hts _ hl) hd ⟨hfr, hlo⟩, hts _ hin, hts _ hse⟩ ⟨hp.1, va_recv hK hP hc he, hp.2⟩ rfl (by rw [List.length_cons] at hlen; omega) hsz rfl (lv_room hcat) hdec.1 ⟨hc1, hs1⟩
theorem xc_callI {ci : Nat} (S : CallFix p m c cc nL s args Ts own) (hG : GoodIn Ts wy) (hw : wy = .code y bytes yL none :: ws') (hini : (Cond.initialized y.cls) ∈ Ts) (hl : (Cond.methodLink own index y) ∈ Ts) (hin : (Cond.instanceMethod y) ∈ Ts) (hy1 : y.name = "<init>") (h0 : x_hd2 i.2.2.2 = ci + 1) (hn : i.2.2.1 = n + 1)
    (hd : y.cls ≠ "java/lang/invoke/MethodHandle" ∧ y.cls ≠ "java/lang/invoke/VarHandle" ∧ (parseMethodDescriptor y.desc).map (fun d => d.parameters.length) = some n) (h2 : x_hd i.2.2.2 = yL) (hdec : x_at cc rp pc (.invokespecial index) 3) : xs_call p l e R s m args below meth c D cl y wy yL rp nL pc i := by
  refine ⟨hdec.2, h2, fun rm Pc Qc mc ms free H locs cells slots ls av rest hM hrc hrs hfr hlo hp hlen hrec hsz hcat hc1 hs1 => ?_⟩
  have hts := S.2.2.2.2
  rcases hrec with hrec | ⟨ws, tys, k, q0, a, fs, r, k1, rfl, hK, hP, he⟩
  · omega
  · have hst : (Value.ref a :: r).reverse ++ rest = r.reverse ++ .ref a :: rest := by rw [List.reverse_cons, List.append_assoc]; rfl
    rw [hst]
    exact va_runI S hM ⟨callB_of n hts hG hw hrc hrs (hts _ hini) (hts _ hl) hd ⟨hfr, hlo⟩, hy1, hts _ hin⟩ hp rfl (by rw [List.length_cons] at hlen; omega) hsz rfl (lv_room hcat) hdec.1 ⟨hc1, hs1⟩
theorem xc_callIN {ci : Nat} {host : String} (S : CallFix p m c cc nL s args Ts own) (hG : GoodIn Ts wy) (hw : wy = .code y bytes yL none :: ws') (hini : (Cond.initialized y.cls) ∈ Ts) (hl : va_Nw (.methodLinkNest own index y host) s) (hin : (Cond.instanceMethod y) ∈ Ts) (hy1 : y.name = "<init>") (h0 : x_hd2 i.2.2.2 = ci + 1) (hn : i.2.2.1 = n + 1)
    (hd : y.cls ≠ "java/lang/invoke/MethodHandle" ∧ y.cls ≠ "java/lang/invoke/VarHandle" ∧ (parseMethodDescriptor y.desc).map (fun d => d.parameters.length) = some n) (h2 : x_hd i.2.2.2 = yL) (hdec : x_at cc rp pc (.invokespecial index) 3) : xs_call p l e R s m args below meth c D cl y wy yL rp nL pc i := by
  refine ⟨hdec.2, h2, fun rm Pc Qc mc ms free H locs cells slots ls av rest hM hrc hrs hfr hlo hp hlen hrec hsz hcat hc1 hs1 => ?_⟩
  have hts := S.2.2.2.2
  rcases hrec with hrec | ⟨ws, tys, k, q0, a, fs, r, k1, rfl, hK, hP, he⟩
  · omega
  · have hst : (Value.ref a :: r).reverse ++ rest = r.reverse ++ .ref a :: rest := by rw [List.reverse_cons, List.append_assoc]; rfl
    rw [hst]
    exact va_runIN S hM ⟨va_cnB n hts hG hw hrc hrs hl (hts _ hini) hd ⟨hfr, hlo⟩, hy1, hts _ hin⟩ hp rfl (by rw [List.length_cons] at hlen; omega) hsz rfl (lv_room hcat) hdec.1 ⟨hc1, hs1⟩
theorem xc_callVN {C : String} {F : u_T} {N ci : Nat} {host : String} (S : CallFix p m c cc nL s args Ts own) (hG : GoodIn Ts wy) (hw : wy = .code y bytes yL ret :: ws') (hini : (Cond.initialized y.cls) ∈ Ts) (hl : va_Nw (.methodLinkNest own index y host) s) (hin : (Cond.instanceMethod y) ∈ Ts) (hse : (Cond.selects C y y) ∈ Ts) (hc : cl[ci]? = some (C, F, N)) (h0 : x_hd2 i.2.2.2 = ci + 1) (hn : i.2.2.1 = n + 1)
    (hd : y.cls ≠ "java/lang/invoke/MethodHandle" ∧ y.cls ≠ "java/lang/invoke/VarHandle" ∧ (parseMethodDescriptor y.desc).map (fun d => d.parameters.length) = some n) (h2 : x_hd i.2.2.2 = yL) (hdec : x_at cc rp pc (.invokevirtual index) 3) : xs_call p l e R s m args below meth c D cl y wy yL rp nL pc i := by
  refine ⟨hdec.2, h2, fun rm Pc Qc mc ms free H locs cells slots ls av rest hM hrc hrs hfr hlo hp hlen hrec hsz hcat hc1 hs1 => ?_⟩
  have hts := S.2.2.2.2
  rcases hrec with hrec | ⟨ws, tys, k, q0, a, fs, r, k1, rfl, hK, hP, he⟩
  · omega
  · have hk : k = ci := by omega
    subst hk
    have hst : (Value.ref a :: r).reverse ++ rest = r.reverse ++ .ref a :: rest := by rw [List.reverse_cons, List.append_assoc]; rfl
    rw [hst]
    exact va_runVN S hM ⟨va_cnB n hts hG hw hrc hrs hl (hts _ hini) hd ⟨hfr, hlo⟩, hts _ hin, hts _ hse⟩ ⟨hp.1, va_recv hK hP hc he, hp.2⟩ rfl (by rw [List.length_cons] at hlen; omega) hsz rfl (lv_room hcat) hdec.1 ⟨hc1, hs1⟩
end CALLS
theorem x_nmI : "[" ++ (FieldType.array .int).toString = "[[I" := by decide +kernel
theorem x_nmJ : "[" ++ (FieldType.array .long).toString = "[[J" := by decide +kernel
theorem xc_mnaI {own : String} {index : Nat} (hown : s.vm.findClass own = some m.cls) (hl : (Cond.classLink own index "[[I").before args s = true) (ho : va_AOA .int s) (ha : (Cond.arrayClass .int).before args s = true) (hi : i.2.1 = 1 ∧ x_hd i.2.2.2 = 0) (hr : rn (x_hd2 i.2.2.2) = .array .int) (hd : x_at cc rp pc (.multianewarray index 2) 4) (hA : ∀ q, s.heap.size ≤ q → A q) : xs_mna R s m args A rn cc rp pc i :=
  ⟨own, index, .int, hown, by rw [x_nmI]; exact hl, ho, ha, Or.inl ⟨hi.1, rfl, hi.2⟩, hr, hd, hA⟩
theorem xc_mnaJ {own : String} {index : Nat} (hown : s.vm.findClass own = some m.cls) (hl : (Cond.classLink own index "[[J").before args s = true) (ho : va_AOA .long s) (ha : (Cond.arrayClass .long).before args s = true) (hi : i.2.1 = 6 ∧ x_hd i.2.2.2 = 2) (hr : rn (x_hd2 i.2.2.2) = .array .long) (hd : x_at cc rp pc (.multianewarray index 2) 4) (hA : ∀ q, s.heap.size ≤ q → A q) : xs_mna R s m args A rn cc rp pc i :=
  ⟨own, index, .long, hown, by rw [x_nmJ]; exact hl, ho, ha, Or.inr ⟨hi.1, rfl, hi.2⟩, hr, hd, hA⟩
end AMSITES
