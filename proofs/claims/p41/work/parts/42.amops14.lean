section AMOPS14
variable {p : Program} {l : Launch} {e : Env} {R : Room} {s : State} {m : MethodId} {args : Array Value} {below : List Frame} {meth : Method} {c : Code} {Q : State → Prop}
variable {cc : ByteArray} {D : va_G} {cl : List vw_C} {A : Nat → Prop} {en : XE} {rn : Nat → FieldType} {rp : Nat → Nat} {nL n0 sl0 nF slF : Nat} {ad0 : List Nat}
variable {P : XK} {ih : XF} {code : List XI} {i : XI} {pc n sl : Nat} {stk loc : List XV} {h : XH} {r : Nat × XV × XH × Nat × Nat}
/-- the world without the frame -/
def x_M (D : va_G) (cl : List vw_C) (A : Nat → Prop) (en : XE) (rn : Nat → FieldType) (s : State) (H : Heap) (h : XH) (n : Nat) (ad : List Nat) : Prop :=
  ∃ (ws : va_W) (tys : List (ClassId × FieldType)), ad = ws.map Prod.fst ∧ ws.length = n ∧ va_K D cl tys s ∧ va_P D cl ws H ∧ va_D A ws ∧
    ∀ k c, x_hget h k = some c → ∃ q : Nat × va_E, ws[k]? = some q ∧ x_C ad en rn tys c q.2
theorem x_W_M {H : Heap} {locs : List Loc} {ad : List Nat} (hw : x_W D cl A en rn s H locs h n ad) : x_M D cl A en rn s H h n ad ∧ va_S A s.heap H locs := by
  obtain ⟨ws, tys, had, hlen, hK, hP, hD, hS, hC⟩ := hw
  exact ⟨⟨ws, tys, had, hlen, hK, hP, hD, hC⟩, hS⟩
theorem x_M_W {H : Heap} {locs : List Loc} {ad : List Nat} (hm : x_M D cl A en rn s H h n ad) (hS : va_S A s.heap H locs) : x_W D cl A en rn s H locs h n ad := by
  obtain ⟨ws, tys, had, hlen, hK, hP, hD, hC⟩ := hm
  exact ⟨ws, tys, had, hlen, hK, hP, hD, hS, hC⟩
theorem x_M_moved {u U : State} {H : Heap} {ad : List Nat} (hvm : u.vm.Alike U.vm) (hm : x_M D cl A en rn u H h n ad) : x_M D cl A en rn U H h n ad := by
  obtain ⟨ws, tys, had, hlen, hK, hP, hD, hC⟩ := hm
  exact ⟨ws, tys, had, hlen, va_K.moved hvm hK, hP, hD, hC⟩
theorem x_adw {ws : va_W} {q : Nat} (h : q ∈ ws.map Prod.fst) : ∃ (k : Nat) (w : Nat × va_E), ws[k]? = some w ∧ w.1 = q := by
  obtain ⟨w, hw, e⟩ := List.mem_map.mp h
  obtain ⟨k, hk⟩ := List.mem_iff_getElem?.mp hw
  exact ⟨k, w, hk, e⟩
theorem x_M_in {H : Heap} {ad : List Nat} (hm : x_M D cl A en rn s H h n ad) : ∀ q ∈ ad, A q := by
  obtain ⟨ws, tys, had, hlen, hK, hP, hD, hC⟩ := hm
  intro q hq
  rw [had] at hq
  obtain ⟨k, w, hk, e⟩ := x_adw hq
  rw [← e]
  exact hD.2 k w hk
theorem x_M_A {B : Nat → Prop} {H : Heap} {ad : List Nat} (hB : ∀ q ∈ ad, B q) (hm : x_M D cl A en rn s H h n ad) : x_M D cl B en rn s H h n ad := by
  obtain ⟨ws, tys, had, hlen, hK, hP, hD, hC⟩ := hm
  refine ⟨ws, tys, had, hlen, hK, hP, hD.weaken (fun k w hk _ => hB _ ?_), hC⟩
  rw [had]
  exact List.mem_map.mpr ⟨w, List.mem_of_getElem? hk, rfl⟩
theorem x_SR_app {ad : List Nat} : ∀ {a b : List XV} {st : List Value}, x_SR ad en (a ++ b) st → ∃ s1 s2, st = s1 ++ s2 ∧ x_SR ad en a s1 ∧ x_SR ad en b s2
  | [], _, st, h => ⟨[], st, rfl, rfl, h⟩
  | _ :: _, _, _, ⟨v, q, h1, h2, h3⟩ => by
    obtain ⟨s1, s2, e1, e2, e3⟩ := x_SR_app h3
    exact ⟨v :: s1, s2, by rw [h1, e1]; rfl, ⟨v, s1, rfl, h2, e2⟩, e3⟩
theorem x_SR_appm {ad : List Nat} : ∀ {a b : List XV} {s1 s2 : List Value}, x_SR ad en a s1 → x_SR ad en b s2 → x_SR ad en (a ++ b) (s1 ++ s2)
  | [], _, s1, s2, h1, h2 => by rw [show s1 = [] from h1]; exact h2
  | _ :: _, _, _, _, ⟨v, q, h1, h2, h3⟩, hb => ⟨v, q ++ _, by rw [h1]; rfl, h2, x_SR_appm h3 hb⟩
theorem x_SR_rev {ad : List Nat} : ∀ {a : List XV} {s1 : List Value}, x_SR ad en a s1 → x_SR ad en a.reverse s1.reverse
  | [], s1, h => by rw [show s1 = [] from h]; rfl
  | x :: t, _, ⟨v, q, h1, h2, h3⟩ => by
    rw [h1, List.reverse_cons, List.reverse_cons]
    exact x_SR_appm (x_SR_rev h3) ⟨v, [], rfl, h2, rfl⟩
theorem x_SR_len {ad : List Nat} : ∀ {a : List XV} {s1 : List Value}, x_SR ad en a s1 → s1.length = a.length
  | [], s1, h => by rw [show s1 = [] from h]; rfl
  | _ :: _, _, ⟨v, q, h1, _, h3⟩ => by rw [h1, List.length_cons, List.length_cons, x_SR_len h3]
/-- arguments as they lie in the locals -/
noncomputable def x_flat (l : List XV) : List XV := l.flatMap (fun v => if x_cat2 v = true then [v, (11, 0, 0)] else [v])
theorem x_flat_cons (v : XV) (t : List XV) : x_flat (v :: t) = (if x_cat2 v = true then [v, (11, 0, 0)] else [v]) ++ x_flat t := rfl
theorem x_flat_app (a b : List XV) : x_flat (a ++ b) = x_flat a ++ x_flat b := List.flatMap_append
theorem x_take_spec {m : Nat} : ∀ {stk acc : List XV} {k : List XV → List XV → XR} {r : Nat × XV × XH × Nat × Nat}, x_take m stk acc k = some r → ∃ xs t, stk = xs ++ t ∧ xs.length = m ∧ k (x_flat xs.reverse ++ acc) t = some r := by
  induction m with
  | zero => intro stk acc k r hr; exact ⟨[], stk, rfl, rfl, hr⟩
  | succ m ih =>
    intro stk acc k r hr
    obtain ⟨v, t, rfl, hr⟩ := x_lrec hr
    obtain ⟨xs, t2, e1, e2, e3⟩ := ih hr
    refine ⟨v :: xs, t2, by rw [e1]; rfl, by rw [List.length_cons, e2], ?_⟩
    rw [List.reverse_cons, x_flat_app, List.append_assoc]
    rw [x_if_eq] at e3
    have : x_flat [v] ++ acc = if x_cat2 v = true then v :: (11, 0, 0) :: acc else v :: acc := by
      rw [x_flat_cons]
      split <;> rfl
    rw [this]
    exact e3
theorem x_flat_slots {ad : List Nat} : ∀ {xs : List XV} {av : List Value}, x_SR ad en xs av → (lg_sl av).length = (x_flat xs).length
  | [], av, h => by rw [show av = [] from h]; rfl
  | x :: t, _, ⟨v, q, h1, h2, h3⟩ => by
    have hc := x_V_cat h2
    rw [h1, x_flat_cons, show lg_sl (v :: q) = (if v.category = 2 then [.val v, .second] else [.val v]) ++ lg_sl q from rfl, List.length_append, List.length_append, x_flat_slots h3, hc]
    by_cases h : x_cat2 x = true
    · rw [if_pos h, if_pos h, if_pos rfl]; rfl
    · rw [if_neg h, if_neg h, if_neg (by decide)]; rfl
theorem x_flat_args {ad : List Nat} : ∀ {xs : List XV} {av : List Value}, x_SR ad en xs av → ∀ (off i : Nat) (x : XV), (x_flat xs)[i]? = some x → x.1 ≠ 11 → ∃ v, (off + i, v) ∈ lv_args off av ∧ x_V ad en x v
  | [], _, _ => fun off i x hx _ => by cases hx
  | y :: t, _, ⟨v, q, h1, h2, h3⟩ => by
    intro off i x hx h11
    have hc := x_V_cat h2
    rw [x_flat_cons] at hx
    rw [h1]
    show ∃ w, (off + i, w) ∈ (off, v) :: lv_args (if v.category = 2 then off + 2 else off + 1) q ∧ x_V ad en x w
    rw [hc]
    by_cases h : x_cat2 y = true
    · rw [if_pos h] at hx ⊢
      rw [if_pos rfl]
      match i, hx with
      | 0, hx => exact ⟨v, by rw [Nat.add_zero]; exact List.mem_cons_self, by rw [← Option.some.inj hx]; exact h2⟩
      | 1, hx => exact absurd (by rw [← Option.some.inj hx]) h11
      | j + 2, hx =>
        obtain ⟨w, w1, w2⟩ := x_flat_args h3 (off + 2) j x hx h11
        exact ⟨w, by rw [show off + (j + 2) = off + 2 + j by omega]; exact List.mem_cons_of_mem _ w1, w2⟩
    · rw [if_neg h] at hx ⊢
      rw [if_neg (by decide)]
      match i, hx with
      | 0, hx => exact ⟨v, by rw [Nat.add_zero]; exact List.mem_cons_self, by rw [← Option.some.inj hx]; exact h2⟩
      | j + 1, hx =>
        obtain ⟨w, w1, w2⟩ := x_flat_args h3 (off + 1) j x hx h11
        exact ⟨w, by rw [show off + (j + 1) = off + 1 + j by omega]; exact List.mem_cons_of_mem _ w1, w2⟩
/-- the locals at a method's entry -/
theorem x_LR_entry {ad : List Nat} {xs : List XV} {av : List Value} (hx : x_SR ad en xs av) (hl : (x_flat xs).length ≤ nL) : x_LR ad en nL (x_pad (x_flat xs) nL) ((lg_sl av ++ List.replicate (nL - (lg_sl av).length) Slot.unset).toArray) := by
  have hsl := x_flat_slots hx
  refine ⟨?_, lv_args 0 av, lv_entry av (by rw [hsl]; exact hl), fun i x hi h11 => ?_⟩
  · show (x_flat xs ++ List.replicate (nL - x_len (x_flat xs)) _).length = nL
    rw [List.length_append, List.length_replicate, x_len_eq]
    omega
  · have hi : (x_flat xs ++ List.replicate (nL - x_len (x_flat xs)) ((11, 0, 0) : XV))[i]? = some x := hi
    by_cases hlt : i < (x_flat xs).length
    · rw [List.getElem?_append_left hlt] at hi
      obtain ⟨v, v1, v2⟩ := x_flat_args hx 0 i x hi h11
      exact ⟨v, by rw [Nat.zero_add] at v1; exact v1, v2⟩
    · rw [List.getElem?_append_right (by omega), List.getElem?_replicate] at hi
      split at hi
      · exact absurd (by rw [← Option.some.inj hi]) h11
      · cases hi
/-- what a method may change -/
def x_Af (ad : List Nat) (sz : Nat) : Nat → Prop := fun q => q ∈ ad ∨ sz ≤ q
/-- what a method may lean on, besides the world: it stays where nothing is changed -/
def x_G3 (G : (Nat → Prop) → State → Heap → Prop) : Prop :=
  (∀ (A : Nat → Prop) (u U : State) (H : Heap), u.WarmedH U.vm → G A u H → G A U H) ∧
  (∀ (A : Nat → Prop) (U : State) (H H1 : Heap), (∀ q : Nat, q < H.size → ¬ A q → H1[q]? = H[q]?) → G A U H → G A U H1) ∧
  (∀ (A B : Nat → Prop) (U : State) (H : Heap), (∀ q, B q → A q) → G A U H → G B U H) ∧
  (∀ (A : Nat → Prop) (u U : State) (H : Heap), U.vm = u.vm → G A u H → G A U H)
def x_Pc (D : va_G) (cl : List vw_C) (en : XE) (rn : Nat → FieldType) (G : (Nat → Prop) → State → Heap → Prop) (h : XH) (n : Nat) (ad : List Nat) (xs : List XV) (sz : Nat) : Array Value → State → Prop := fun v U =>
  ∃ av : List Value, v = av.toArray ∧ x_SR ad en xs av ∧ U.heap.size = sz ∧ x_M D cl (fun _ => True) en rn U U.heap h n ad ∧ G (x_Af ad sz) U U.heap
def x_Qc (D : va_G) (cl : List vw_C) (en : XE) (rn : Nat → FieldType) (r : Nat × XV × XH × Nat × Nat) (ad : List Nat) (sz : Nat) : Array Value → State → Outcome → State → Prop := fun _ st oc t =>
  (∃ (ad2 : List Nat) (o : Option Value), oc = .returned o ∧ ((r.1 = 0 ∧ o = none) ∨ (r.1 = 1 ∧ ∃ v, o = some v ∧ x_V (ad ++ ad2) en r.2.1 v)) ∧ x_M D cl (x_Af ad sz) en rn t t.heap r.2.2.1 r.2.2.2.1 (ad ++ ad2)) ∧ va_F (x_Af ad sz) st t
/-- a method's contract, out of a run of AM -/
def x_Met (l : Launch) (D : va_G) (cl : List vw_C) (en : XE) (rn : Nat → FieldType) (G : (Nat → Prop) → State → Heap → Prop) (y : MethodName) (ws : List Cond) (fr lo : Nat) (xs : List XV) (h : XH) (n sl : Nat) (r : Nat × XV × XH × Nat × Nat) : Prop :=
  ∀ (ad : List Nat) (sz : Nat), Met l y ws ({ frames := fr, cells := r.2.2.2.1 - n, slots := r.2.2.2.2 - sl, locals := lo }) (x_Pc D cl en rn G h n ad xs sz) (x_Qc D cl en rn r ad sz) (r.2.2.2.1 - n) (r.2.2.2.2 - sl) (x_Af ad sz)
/-- a call's site -/
def xs_call (p : Program) (l : Launch) (e : Env) (R : Room) (s : State) (m : MethodId) (args : Array Value) (below : List Frame) (meth : Method) (c : Code) (D : va_G) (cl : List vw_C) (y : MethodName) (wy : List Cond) (yL : Nat) (rp : Nat → Nat) (nL pc : Nat) (i : XI) : Prop :=
  rp (pc + 1) = rp pc + 3 ∧ x_hd i.2.2.2 = yL ∧ ∀ (rm : Room) (Pc : Array Value → State → Prop) (Qc : Array Value → State → Outcome → State → Prop) (mc ms : Nat) (free : Addr → Prop) (H : Heap) (locs : List Loc) (cells slots : Nat) (ls : Array Slot) (av rest : List Value),
    Met l y wy rm Pc Qc mc ms free → rm.cells = mc → rm.slots = ms → rm.frames + 1 ≤ R.frames → 8 + (yL + 11) + rm.locals ≤ R.locals → PreS s H Pc av → av.length = i.2.2.1 →
    (x_hd2 i.2.2.2 = 0 ∨ ∃ (ws : va_W) (tys : List (ClassId × FieldType)) (k q0 a : Nat) (fs r : List Value), x_hd2 i.2.2.2 = k + 1 ∧ av = .ref a :: r ∧ va_K D cl tys s ∧ va_P D cl ws H ∧ ws[q0]? = some (a, .inr (k, fs))) →
    ls.size = nL → (rest.map fun v => v.category).sum ≤ 8 → cells + mc ≤ R.cells → slots + ms ≤ R.slots →
    va_Run p l e R s m args below meth c H locs cells slots mc ms (F0 m (rp pc) ls (av.reverse ++ rest)) rest (Qc av.toArray) free
theorem x_rcv_spec {H : Heap} {locs : List Loc} {ad : List Nat} {xs : List XV} {av : List Value} {k : Nat} (hq : x_rcv h (x_flat xs) k = true) (hx : x_SR ad en xs av) (hw : x_W D cl A en rn s H locs h n ad) :
    k = 0 ∨ ∃ (ws : va_W) (tys : List (ClassId × FieldType)) (k' q0 a : Nat) (fs r : List Value), k = k' + 1 ∧ av = .ref a :: r ∧ va_K D cl tys s ∧ va_P D cl ws H ∧ ws[q0]? = some (a, .inr (k', fs)) := by
  unfold x_rcv at hq
  cases h0 : Nat.beq k 0 with
  | true => exact Or.inl (x_beq h0)
  | false =>
    rw [h0, x_if_false] at hq
    refine Or.inr ?_
    match xs, hx, hq with
    | x :: t, ⟨v, q, e1, e2, e3⟩, hq =>
      have hq2 : x_if (Nat.beq x.1 6) (Option.rec (motive := fun _ => Bool) false (fun c => x_if (Nat.beq c.1 0) (Nat.beq (Nat.succ c.2.1) k) false) (x_hget h x.2.1)) false = true := by
        rw [x_flat_cons] at hq
        by_cases h9 : x_cat2 x = true
        · rw [if_pos h9] at hq; exact hq
        · rw [if_neg h9] at hq; exact hq
      cases h6 : Nat.beq x.1 6 with
      | false => rw [h6] at hq2; cases hq2
      | true =>
        rw [h6, x_if_true] at hq2
        cases hg : x_hget h x.2.1 with
        | none => rw [hg] at hq2; cases hq2
        | some cell =>
          rw [hg] at hq2
          have hq3 : x_if (Nat.beq cell.1 0) (Nat.beq (Nat.succ cell.2.1) k) false = true := hq2
          cases h7 : Nat.beq cell.1 0 with
          | false => rw [h7] at hq3; cases hq3
          | true =>
            rw [h7, x_if_true] at hq3
            obtain ⟨a, ha, ev⟩ := x_ref e2 h6
            obtain ⟨ws, tys, had, hlen, hK, hP, hD, hS, hC⟩ := hw
            obtain ⟨w, hw1, hcc⟩ := hC _ _ hg
            have hwq := x_wsq (had ▸ ha) hw1
            have h30 := x_beq h7
            rcases hcc with ⟨-, vs, he, -, -⟩ | ⟨h0, -⟩ | ⟨h0, -⟩ | ⟨h0, -⟩
            · exact ⟨ws, tys, cell.2.1, _, a, vs, q, (x_beq hq3).symm, by rw [e1, ev], hK, hP, by rw [he] at hwq; exact hwq⟩
            · omega
            · omega
            · omega
set_option maxHeartbeats 1000000 in
theorem xk_call {G : (Nat → Prop) → State → Heap → Prop} {y : MethodName} {wy : List Cond} {yL fr lo : Nat} (hG : x_G3 G) (hg : G A s s.heap) (hA : ∀ q, s.heap.size ≤ q → A q) (hRc : nF - n0 ≤ R.cells) (hRs : slF - sl0 ≤ R.slots) (hfr : fr + 1 ≤ R.frames) (hlo : 8 + (yL + 11) + lo ≤ R.locals)
    (hs : xs_call p l e R s m args below meth c D cl y wy yL rp nL pc i)
    (hcal : ∀ (xs : List XV) (h : XH) (n sl : Nat) (r1 : Nat × XV × XH × Nat × Nat), (x_flat xs).length ≤ yL → P i.2.1 (x_pad (x_flat xs) yL) h n sl = some r1 → x_Met l D cl en rn G y wy fr lo xs h n sl r1)
    (hr : xo_call P ih code i pc stk loc h n sl = some r)
    (hk : ∀ pc stk loc h n sl, ih code pc stk loc h n sl = some r → x_PR p l e R s m args below meth c Q D cl A en rn rp nL n0 sl0 nF slF ad0 pc stk loc h n sl) : x_PR p l e R s m args below meth c Q D cl A en rn rp nL n0 sl0 nF slF ad0 pc stk loc h n sl := by
  obtain ⟨xs, t, rfl, hlen, hr⟩ := x_take_spec hr
  rw [List.append_nil] at hr
  obtain ⟨g8, hr⟩ := x_if_n hr
  obtain ⟨gL, hr⟩ := x_if_n hr
  obtain ⟨gR, hr⟩ := x_if_n hr
  obtain ⟨r1, hr1, hr⟩ := x_bind_some hr
  obtain ⟨c1, hr⟩ := x_if_n hr
  obtain ⟨c2, hr⟩ := x_if_n hr
  have c1 := x_ble c1
  have c2 := x_ble c2
  obtain ⟨hs1, hs2, hs3⟩ := hs
  rw [hs2] at gL hr1
  have hfl : (x_flat xs.reverse).length ≤ yL := by rw [← x_len_eq]; exact x_ble gL
  have hMet := hcal xs.reverse h n sl r1 hfl hr1
  have key : ∃ st2 : List XV, (r1.1 = 0 ∧ st2 = t ∨ r1.1 = 1 ∧ st2 = r1.2.1 :: t) ∧ ih code (pc + 1) st2 loc r1.2.2.1 r1.2.2.2.1 r1.2.2.2.2 = some r := by
    rcases x_if_some hr with ⟨h1, hr⟩ | ⟨h1, hr⟩
    · rw [x_force_eq] at hr
      exact ⟨t, Or.inl ⟨x_beq h1, rfl⟩, hr⟩
    · obtain ⟨h2, hr⟩ := x_if_n hr
      rw [x_force_eq] at hr
      exact ⟨_, Or.inr ⟨x_beq h2, rfl⟩, hr⟩
  obtain ⟨st9, hst9, hrk⟩ := key
  obtain ⟨g1, g2, K⟩ := hk _ _ _ _ _ _ hrk
  refine ⟨by omega, by omega, fun H locs ad st ls cells slots hst hls hw hc hsl => ?_⟩
  obtain ⟨s1, s2, rfl, hx1, hx2⟩ := x_SR_app hst
  have hav := x_SR_rev hx1
  obtain ⟨hM, hS⟩ := x_W_M hw
  have hAf : ∀ q, x_Af ad H.size q → A q := by
    intro q hq
    rcases hq with hq | hq
    · exact x_M_in hM q hq
    · exact hA q (Nat.le_trans hS.1 hq)
  have hGH : G (x_Af ad H.size) s H := hG.2.2.1 _ _ _ _ hAf (hG.2.1 _ _ _ _ hS.2.1 hg)
  have hpre : PreS s H (x_Pc D cl en rn G h n ad xs.reverse H.size) s1.reverse := by
    refine ⟨fun a U g mk q => ?_, fun U hU hW => ?_⟩
    · obtain ⟨av, q0, q1, q2, q3, q4⟩ := q
      exact ⟨av, q0, q1, q2, x_M_moved (u := U) (U := U.calling g mk a) (Vm.Alike.refl U.vm) q3, hG.2.2.2 _ U (U.calling g mk a) _ rfl q4⟩
    · exact ⟨s1.reverse, rfl, hav, by rw [hU], by rw [hU]; exact x_M_A (fun _ _ => trivial) (x_M_moved hW.alike hM), by rw [hU]; exact hG.1 _ _ _ _ hW hGH⟩
  have hc0 : cells + n0 = n := hc.1
  have hrun := hs3 _ _ _ _ _ _ H locs cells slots ls s1.reverse s2 (hMet ad H.size) rfl rfl hfr hlo hpre (by rw [List.length_reverse, x_SR_len hx1, hlen]) (x_rcv_spec gR hav hw) (x_LR_size hls) (by rw [x_cats_sum hx2]; exact x_ble g8) (by omega) (by omega)
  rw [List.reverse_reverse] at hrun
  intro T hT X
  obtain ⟨v, st₀, t1, T', L, e0, X', hL, e1, e2, ⟨⟨ad2, o, ho, hv, hM1⟩, hz, hkp⟩, stp⟩ := hrun T hT X
  have ho : v = o := Outcome.returned.inj ho
  subst ho
  rw [e0] at hz hkp
  have hvm : s.vm.Alike t1.vm := by rw [← e2]; exact X'.warmed.alike
  have hin : ∀ q ∈ ad ++ ad2, A q := fun q hq => hAf q (x_M_in hM1 q hq)
  have hM2 : x_M D cl A en rn s T'.heap r1.2.2.1 r1.2.2.2.1 (ad ++ ad2) := by rw [e1]; exact x_M_A hin (x_M_moved hvm.symm hM1)
  have hS2 : va_S A s.heap T'.heap (locs ++ L) := by
    refine ⟨Nat.le_trans hS.1 (by rw [e1]; exact hz), fun q h1 h2 => ?_, fun q hq => ?_⟩
    · rw [e1, hkp q (Nat.lt_of_lt_of_le h1 hS.1) (fun z => h2 (hAf q z))]
      exact hS.2.1 q h1 h2
    · rcases List.mem_append.mp hq with h | h
      · exact hS.2.2 q h
      · exact hAf _ (hL q h)
  have hst3 : x_SR (ad ++ ad2) en st9 (v.toList ++ s2) := by
    rcases hst9 with ⟨w1, rfl⟩ | ⟨w1, rfl⟩
    · rcases hv with ⟨-, rfl⟩ | ⟨w2, -⟩
      · exact x_SR_grow hx2
      · omega
    · rcases hv with ⟨w2, -⟩ | ⟨-, v2, rfl, hv2⟩
      · omega
      · exact ⟨v2, s2, rfl, hv2, x_SR_grow hx2⟩
  have hE : x_E ad0 (ad ++ ad2) (cells + (r1.2.2.2.1 - n)) n0 r1.2.2.2.1 := by
    obtain ⟨-, ad3, rfl⟩ := hc
    exact ⟨by omega, ad3 ++ ad2, List.append_assoc _ _ _⟩
  obtain ⟨t2, a1, b1⟩ := K T'.heap (locs ++ L) (ad ++ ad2) (v.toList ++ s2) ls (cells + (r1.2.2.2.1 - n)) (slots + (r1.2.2.2.2 - sl)) hst3 (x_LR_grow hls) (x_M_W hM2 hS2) hE (by omega) T' rfl X'
  rw [hs1] at a1
  exact ⟨t2, stp t2 a1, b1⟩
end AMOPS14
