section AMOPS13
variable {p : Program} {l : Launch} {e : Env} {R : Room} {s : State} {m : MethodId} {args : Array Value} {below : List Frame} {meth : Method} {c : Code} {Q : State → Prop}
variable {cc : ByteArray} {D : va_G} {cl : List vw_C} {A : Nat → Prop} {en : XE} {rn : Nat → FieldType} {rp : Nat → Nat} {nL n0 sl0 nF slF : Nat} {ad0 : List Nat}
variable {P : XK} {ih : XF} {code : List XI} {i : XI} {pc n sl : Nat} {stk loc : List XV} {h : XH} {r : Nat × XV × XH × Nat × Nat}
set_option maxHeartbeats 1000000 in
theorem xk_dup2 (hexec : p.tables.exec = Jvm.exec) (hb : c.code = cc) (hs : x_at cc rp pc .dup2 1) (hr : xo_dup2 P ih code i pc stk loc h n sl = some r)
    (hk : ∀ pc stk loc h n sl, ih code pc stk loc h n sl = some r → x_PR p l e R s m args below meth c Q D cl A en rn rp nL n0 sl0 nF slF ad0 pc stk loc h n sl) : x_PR p l e R s m args below meth c Q D cl A en rn rp nL n0 sl0 nF slF ad0 pc stk loc h n sl := by
  match stk, hr with
  | x :: y :: t, hr =>
    rcases x_if_some hr with ⟨h1, hr⟩ | ⟨h1, hr⟩
    · rw [x_force_eq] at hr
      obtain ⟨g1, g2, K⟩ := hk _ _ _ _ _ _ hr
      refine ⟨g1, g2, fun H locs ad st ls cells slots hst hls hw hc hsl => ?_⟩
      obtain ⟨vx, st2, rfl, hvx, hst2⟩ := x_SR_cons hst
      have hcat := x_V_cat hvx
      rw [h1] at hcat
      exact lv_dup2_2 hexec hb hs.1 hcat (hs.2 ▸ K H locs ad (vx :: vx :: st2) ls cells slots (x_SR_mk hvx (x_SR_mk hvx hst2)) hls hw hc hsl)
    · obtain ⟨h2, hr⟩ := x_if_n' hr
      rw [x_force_eq] at hr
      obtain ⟨g1, g2, K⟩ := hk _ _ _ _ _ _ hr
      refine ⟨g1, g2, fun H locs ad st ls cells slots hst hls hw hc hsl => ?_⟩
      obtain ⟨vx, st2, rfl, hvx, hst2⟩ := x_SR_cons hst
      obtain ⟨vy, st3, rfl, hvy, hst3⟩ := x_SR_cons hst2
      have hcat := x_V_cat hvx
      rw [h1] at hcat
      have hcat2 := x_V_cat hvy
      rw [h2] at hcat2
      exact lv_dup2_11 hexec hb hs.1 hcat hcat2 (hs.2 ▸ K H locs ad (vx :: vy :: vx :: vy :: st3) ls cells slots (x_SR_mk hvx (x_SR_mk hvy (x_SR_mk hvx (x_SR_mk hvy hst3)))) hls hw hc hsl)
/-- a switch on a known int -/
def xs_switch (p : Program) (l : Launch) (e : Env) (R : Room) (s : State) (m : MethodId) (args : Array Value) (below : List Frame) (meth : Method) (c : Code) (Q : State → Prop) (rp : Nat → Nat) (pc : Nat) (i : XI) : Prop :=
  ∀ (H : Heap) (locs : List Loc) (ls : Array Slot) (cells slots : Nat) (st : List Value) (v : Nat), v < 4294967296 → W p l e R s m args below meth c H locs cells slots Q (F0 m (rp (x_assoc i.2.2.2 v i.2.2.1)) ls st) → W p l e R s m args below meth c H locs cells slots Q (F0 m (rp pc) ls (.int (Int32.ofNat v) :: st))
set_option maxHeartbeats 1000000 in
theorem xk_switch (hs : xs_switch p l e R s m args below meth c Q rp pc i) (hr : xo_switch P ih code i pc stk loc h n sl = some r)
    (hk : ∀ pc stk loc h n sl, ih code pc stk loc h n sl = some r → x_PR p l e R s m args below meth c Q D cl A en rn rp nL n0 sl0 nF slF ad0 pc stk loc h n sl) : x_PR p l e R s m args below meth c Q D cl A en rn rp nL n0 sl0 nF slF ad0 pc stk loc h n sl := by
  match stk, hr with
  | x :: t, hr =>
    obtain ⟨h1, hr⟩ := x_if_n hr
    rw [x_force_eq, x_force_eq] at hr
    obtain ⟨g1, g2, K⟩ := hk _ _ _ _ _ _ hr
    refine ⟨g1, g2, fun H locs ad st ls cells slots hst hls hw hc hsl => ?_⟩
    obtain ⟨vx, st2, rfl, hvx, hst2⟩ := x_SR_cons hst
    rw [x_V_tag0 hvx h1, xi_ext (a := x.2.1) (b := x.2.1 % 4294967296) (by omega)]
    exact hs H locs ls cells slots st2 _ (Nat.mod_lt _ (by decide)) (K H locs ad st2 ls cells slots hst2 hls hw hc hsl)
theorem x_cats_sum {ad : List Nat} : ∀ {stk : List XV} {st : List Value}, x_SR ad en stk st → (st.map fun v => v.category).sum = x_cats stk
  | [], _, h => by rw [show _ = [] from h]; rfl
  | x :: t, _, ⟨v, q, h1, h2, h3⟩ => by
    rw [h1, List.map_cons, List.sum_cons, x_cats_sum h3, x_V_cat h2]
    show _ = Nat.add (x_if (x_cat2 x) 2 1) (x_cats t)
    rw [x_if_eq]
    rfl
theorem x_LR_size {ad : List Nat} {ls : Array Slot} (hh : x_LR ad en nL loc ls) : ls.size = nL := by
  obtain ⟨-, lv, h1, -⟩ := hh
  exact h1.1
/-- what isn't written is read -/
def xs_gets (p : Program) (l : Launch) (e : Env) (R : Room) (s : State) (m : MethodId) (args : Array Value) (below : List Frame) (meth : Method) (c : Code) (Q : State → Prop) (A : Nat → Prop) (en : XE) (rp : Nat → Nat) (pc : Nat) (i : XI) : Prop :=
  ∃ v : Value, (∀ ad, x_V ad en (i.2.1, 0, 0) v) ∧ ∀ (H : Heap) (locs : List Loc) (ls : Array Slot) (cells slots : Nat) (st : List Value), va_S A s.heap H locs → W p l e R s m args below meth c H locs cells slots Q (F0 m (rp (pc + 1)) ls (v :: st)) → W p l e R s m args below meth c H locs cells slots Q (F0 m (rp pc) ls st)
set_option maxHeartbeats 1000000 in
theorem xk_gets (hs : xs_gets p l e R s m args below meth c Q A en rp pc i) (hr : xo_gets P ih code i pc stk loc h n sl = some r)
    (hk : ∀ pc stk loc h n sl, ih code pc stk loc h n sl = some r → x_PR p l e R s m args below meth c Q D cl A en rn rp nL n0 sl0 nF slF ad0 pc stk loc h n sl) : x_PR p l e R s m args below meth c Q D cl A en rn rp nL n0 sl0 nF slF ad0 pc stk loc h n sl := by
  have hr2 : ih code (pc + 1) ((i.2.1, 0, 0) :: stk) loc h n sl = some r := by
    have h9 : x_force (Nat.succ pc) (fun p => ih code p ((i.2.1, 0, 0) :: stk) loc h n sl) = some r := hr
    rw [x_force_eq] at h9
    exact h9
  obtain ⟨g1, g2, K⟩ := hk _ _ _ _ _ _ hr2
  obtain ⟨v, hv, hs⟩ := hs
  refine ⟨g1, g2, fun H locs ad st ls cells slots hst hls hw hc hsl => ?_⟩
  have hw9 := hw
  obtain ⟨ws, tys, had, hlen, hK, hP, hD, hS, hC⟩ := hw9
  exact hs H locs ls cells slots st hS (K H locs ad (v :: st) ls cells slots (x_SR_mk (hv ad) hst) hls hw hc hsl)
/-- Object.<init> of one of ours -/
def xs_objinit (p : Program) (l : Launch) (e : Env) (R : Room) (s : State) (m : MethodId) (args : Array Value) (below : List Frame) (meth : Method) (c : Code) (Q : State → Prop) (D : va_G) (cl : List vw_C) (rp : Nat → Nat) (nL pc : Nat) : Prop :=
  ∀ (H : Heap) (locs : List Loc) (ls : Array Slot) (cells slots : Nat) (st : List Value) (ws : va_W) (tys : List (ClassId × FieldType)) (q0 a ci : Nat) (fs : List Value), va_K D cl tys s → va_P D cl ws H → ws[q0]? = some (a, .inr (ci, fs)) → ls.size = nL → (st.map fun v => v.category).sum ≤ 8 → W p l e R s m args below meth c H locs cells slots Q (F0 m (rp (pc + 1)) ls st) → W p l e R s m args below meth c H locs cells slots Q (F0 m (rp pc) ls (.ref a :: st))
set_option maxHeartbeats 1000000 in
theorem xk_objinit (hs : xs_objinit p l e R s m args below meth c Q D cl rp nL pc) (hr : xo_objinit P ih code i pc stk loc h n sl = some r)
    (hk : ∀ pc stk loc h n sl, ih code pc stk loc h n sl = some r → x_PR p l e R s m args below meth c Q D cl A en rn rp nL n0 sl0 nF slF ad0 pc stk loc h n sl) : x_PR p l e R s m args below meth c Q D cl A en rn rp nL n0 sl0 nF slF ad0 pc stk loc h n sl := by
  match stk, hr with
  | x :: t, hr =>
    obtain ⟨h1, hr⟩ := x_if_n hr
    obtain ⟨cell, h2, hr⟩ := x_bind_some hr
    obtain ⟨h3, hr⟩ := x_if_n hr
    obtain ⟨h8, hr⟩ := x_if_n hr
    rw [x_force_eq] at hr
    obtain ⟨g1, g2, K⟩ := hk _ _ _ _ _ _ hr
    refine ⟨g1, g2, fun H locs ad st ls cells slots hst hls hw hc hsl => ?_⟩
    obtain ⟨vx, st2, rfl, hvx, hst2⟩ := x_SR_cons hst
    obtain ⟨a, ha, ev⟩ := x_ref hvx h1
    rw [ev]
    have hw9 := hw
    obtain ⟨ws, tys, had, hlen, hK, hP, hD, hS, hC⟩ := hw9
    obtain ⟨q, hq, hcc⟩ := hC _ _ h2
    have hwq := x_wsq (had ▸ ha) hq
    have h30 := x_beq h3
    rcases hcc with ⟨-, vs, he, -, -⟩ | ⟨h0, -⟩ | ⟨h0, -⟩ | ⟨h0, -⟩
    · exact hs H locs ls cells slots st2 ws tys _ a _ vs hK hP (he ▸ hwq) (x_LR_size hls) (by rw [x_cats_sum hst2]; exact x_ble h8) (K H locs ad st2 ls cells slots hst2 hls hw hc hsl)
    · omega
    · omega
    · omega
theorem x_V_tag8 {ad : List Nat} {x : XV} {v : Value} (hv : x_V ad en x v) (h0 : Nat.beq x.1 8 = true) : v = .ref (en.2.2 x.2.1) := by
  obtain ⟨t, u, w⟩ := x
  have ht : t = 8 := x_beq h0
  subst ht
  exact hv
/-- the length of a String constant -/
def xs_slen (p : Program) (l : Launch) (e : Env) (R : Room) (s : State) (m : MethodId) (args : Array Value) (below : List Frame) (meth : Method) (c : Code) (Q : State → Prop) (A : Nat → Prop) (en : XE) (rp : Nat → Nat) (nL pc : Nat) : Prop :=
  ∀ (H : Heap) (locs : List Loc) (ls : Array Slot) (cells slots : Nat) (st : List Value) (k : Nat) (t : List Nat), x_strs[k]? = some t → va_S A s.heap H locs → cells ≤ R.cells → slots ≤ R.slots → ls.size = nL → (st.map fun v => v.category).sum ≤ 8 → W p l e R s m args below meth c H locs cells slots Q (F0 m (rp (pc + 1)) ls (.int (Int32.ofNat t.length) :: st)) → W p l e R s m args below meth c H locs cells slots Q (F0 m (rp pc) ls (.ref (en.2.2 k) :: st))
set_option maxHeartbeats 1000000 in
theorem xk_slen (hRc : nF - n0 ≤ R.cells) (hRs : slF - sl0 ≤ R.slots) (hs : xs_slen p l e R s m args below meth c Q A en rp nL pc) (hr : xo_slen P ih code i pc stk loc h n sl = some r)
    (hk : ∀ pc stk loc h n sl, ih code pc stk loc h n sl = some r → x_PR p l e R s m args below meth c Q D cl A en rn rp nL n0 sl0 nF slF ad0 pc stk loc h n sl) : x_PR p l e R s m args below meth c Q D cl A en rn rp nL n0 sl0 nF slF ad0 pc stk loc h n sl := by
  match stk, hr with
  | x :: t, hr =>
    obtain ⟨h1, hr⟩ := x_if_n hr
    obtain ⟨h8, hr⟩ := x_if_n hr
    obtain ⟨tx, h2, hr⟩ := x_bind_some hr
    rw [x_force_eq, x_force_eq, x_len_eq] at hr
    rw [x_nth_eq] at h2
    obtain ⟨g1, g2, K⟩ := hk _ _ _ _ _ _ hr
    refine ⟨g1, g2, fun H locs ad st ls cells slots hst hls hw hc hsl => ?_⟩
    obtain ⟨vx, st2, rfl, hvx, hst2⟩ := x_SR_cons hst
    rw [x_V_tag8 hvx h1]
    have hw9 := hw
    obtain ⟨ws, tys, had, hlen, hK, hP, hD, hS, hC⟩ := hw9
    exact hs H locs ls cells slots st2 _ _ h2 hS (by have := hc.1; omega) (by omega) (x_LR_size hls) (by rw [x_cats_sum hst2]; exact x_ble h8) (K H locs ad (_ :: st2) ls cells slots (x_SR_mk rfl hst2) hls hw hc hsl)
/-- a sign of a String constant -/
def xs_sat (p : Program) (l : Launch) (e : Env) (R : Room) (s : State) (m : MethodId) (args : Array Value) (below : List Frame) (meth : Method) (c : Code) (Q : State → Prop) (A : Nat → Prop) (en : XE) (rp : Nat → Nat) (nL pc : Nat) : Prop :=
  ∀ (H : Heap) (locs : List Loc) (ls : Array Slot) (cells slots : Nat) (st : List Value) (k j q : Nat) (t : List Nat), x_strs[k]? = some t → t[j]? = some q → va_S A s.heap H locs → cells ≤ R.cells → slots ≤ R.slots → ls.size = nL → (st.map fun v => v.category).sum ≤ 8 → W p l e R s m args below meth c H locs cells slots Q (F0 m (rp (pc + 1)) ls (.int (Int32.ofNat q) :: st)) → W p l e R s m args below meth c H locs cells slots Q (F0 m (rp pc) ls (.int (Int32.ofNat j) :: .ref (en.2.2 k) :: st))
set_option maxHeartbeats 1000000 in
theorem xk_sat (hRc : nF - n0 ≤ R.cells) (hRs : slF - sl0 ≤ R.slots) (hs : xs_sat p l e R s m args below meth c Q A en rp nL pc) (hr : xo_sat P ih code i pc stk loc h n sl = some r)
    (hk : ∀ pc stk loc h n sl, ih code pc stk loc h n sl = some r → x_PR p l e R s m args below meth c Q D cl A en rn rp nL n0 sl0 nF slF ad0 pc stk loc h n sl) : x_PR p l e R s m args below meth c Q D cl A en rn rp nL n0 sl0 nF slF ad0 pc stk loc h n sl := by
  match stk, hr with
  | j :: x :: t, hr =>
    obtain ⟨h1, hr⟩ := x_if_n hr
    obtain ⟨h1j, hr⟩ := x_if_n hr
    obtain ⟨h8, hr⟩ := x_if_n hr
    obtain ⟨tx, h2, hr⟩ := x_bind_some hr
    obtain ⟨q, h3, hr⟩ := x_bind_some hr
    rw [x_force_eq] at hr
    rw [x_nth_eq] at h2 h3
    obtain ⟨g1, g2, K⟩ := hk _ _ _ _ _ _ hr
    refine ⟨g1, g2, fun H locs ad st ls cells slots hst hls hw hc hsl => ?_⟩
    obtain ⟨vj, st2, rfl, hvj, hst2⟩ := x_SR_cons hst
    obtain ⟨vx, st3, rfl, hvx, hst3⟩ := x_SR_cons hst2
    rw [x_V_tag8 hvx h1, x_V_tag0 hvj h1j]
    have hw9 := hw
    obtain ⟨ws, tys, had, hlen, hK, hP, hD, hS, hC⟩ := hw9
    exact hs H locs ls cells slots st3 _ _ _ _ h2 h3 hS (by have := hc.1; omega) (by omega) (x_LR_size hls) (by rw [x_cats_sum hst3]; exact x_ble h8) (K H locs ad (_ :: st3) ls cells slots (x_SR_mk rfl hst3) hls hw hc hsl)
end AMOPS13
