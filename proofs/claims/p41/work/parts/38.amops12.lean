section AMOPS12
variable {p : Program} {l : Launch} {e : Env} {R : Room} {s : State} {m : MethodId} {args : Array Value} {below : List Frame} {meth : Method} {c : Code} {Q : State → Prop}
variable {cc : ByteArray} {D : va_G} {cl : List vw_C} {A : Nat → Prop} {en : XE} {rn : Nat → FieldType} {rp : Nat → Nat} {nL n0 sl0 nF slF : Nat} {ad0 : List Nat}
variable {P : XK} {ih : XF} {code : List XI} {i : XI} {pc n sl : Nat} {stk loc : List XV} {h : XH} {r : Nat × XV × XH × Nat × Nat}
/-- what a new array holds -/
def x_dfa (k N : Nat) : vp_A := match k with
  | 6 => (N, .inr (.inl (fun _ => 0)))
  | 8 => (N, .inr (.inr (.inr (.inr (fun _ => none)))))
  | _ => (N, .inl (fun _ => 0))
theorem x_gget_one {N i : Nat} {v x : XV} (hx : x_gget (x_gcons N v []) i = some x) : x = v := by
  rw [x_gget_gcons, x_gget_cons] at hx
  split at hx
  · exact (Option.some.inj hx).symm
  · cases hx
theorem x_glen_one {N : Nat} {v : XV} : x_glen (x_gcons N v []) = N := by
  rw [x_glen_gcons]
  rfl
/-- a new array of kind i.2.1, class i.2.2.1 -/
def xs_newa (p : Program) (l : Launch) (e : Env) (R : Room) (s : State) (m : MethodId) (args : Array Value) (below : List Frame) (meth : Method) (c : Code) (Q : State → Prop) (D : va_G) (cl : List vw_C) (A : Nat → Prop) (rn : Nat → FieldType) (rp : Nat → Nat) (pc : Nat) (i : XI) : Prop :=
  (((1 ≤ i.2.1 ∧ i.2.1 ≤ 5) ∧ x_hd i.2.2.2 = 0) ∨ (i.2.1 = 6 ∧ x_hd i.2.2.2 = 2) ∨ (i.2.1 = 8 ∧ x_hd i.2.2.2 = 5)) ∧
  ∀ (H : Heap) (locs : List Loc) (ls : Array Slot) (cells slots : Nat) (st : List Value) (ws : va_W) (tys : List (ClassId × FieldType)) (N : Nat), va_K D cl tys s → va_P D cl ws H → va_D A ws → va_S A s.heap H locs → N ≤ 67108864 → cells + 1 ≤ R.cells → slots + N ≤ R.slots →
    (∀ (q : Nat) (cA : ClassId) (H1 : Heap), va_K D cl (tys ++ [(cA, x_ty rn i.2.1 i.2.2.1)]) s → va_P D cl (ws ++ [(q, .inl (cA, x_dfa i.2.1 N))]) H1 → va_D A (ws ++ [(q, .inl (cA, x_dfa i.2.1 N))]) → va_S A s.heap H1 locs → W p l e R s m args below meth c H1 locs (cells + 1) (slots + N) Q (F0 m (rp (pc + 1)) ls (.ref q :: st))) →
    W p l e R s m args below meth c H locs cells slots Q (F0 m (rp pc) ls (.int (Int32.ofNat N) :: st))
theorem x_C_newa {ad : List Nat} {tys : List (ClassId × FieldType)} {cA : ClassId} {k b N d : Nat} (hd : ((1 ≤ k ∧ k ≤ 5) ∧ d = 0) ∨ (k = 6 ∧ d = 2) ∨ (k = 8 ∧ d = 5)) : x_C ad en rn (tys ++ [(cA, x_ty rn k b)]) (k, b, x_gcons N (d, 0, 0) []) (.inl (cA, x_dfa k N)) := by
  have ht : ∀ ty : FieldType, (tys ++ [(cA, ty)])[tys.length]? = some (cA, ty) := fun ty => by rw [List.getElem?_append_right (Nat.le_refl _), Nat.sub_self]; rfl
  rcases hd with ⟨hk, rfl⟩ | ⟨rfl, rfl⟩ | ⟨rfl, rfl⟩
  · refine Or.inr (Or.inl ⟨hk, cA, fun _ => 0, tys.length, ?_, ht _, fun i x hx => ?_⟩)
    · have e : x_dfa k N = (N, .inl (fun _ => 0)) := by
        match k, hk with
        | 1, _ => rfl
        | 2, _ => rfl
        | 3, _ => rfl
        | 4, _ => rfl
        | 5, _ => rfl
      rw [e]
      show Sum.inl (cA, (N, _)) = Sum.inl (cA, (x_glen (x_gcons N (0, 0, 0) []), _))
      rw [x_glen_one]
    · rw [x_gget_one hx]; rfl
  · refine Or.inr (Or.inr (Or.inl ⟨rfl, cA, fun _ => 0, tys.length, ?_, ht _, fun i x hx => ?_⟩))
    · show Sum.inl (cA, (N, _)) = Sum.inl (cA, (x_glen (x_gcons N (2, 0, 0) []), _))
      rw [x_glen_one]
    · rw [x_gget_one hx]; rfl
  · refine Or.inr (Or.inr (Or.inr ⟨rfl, cA, fun _ => none, tys.length, ?_, ht _, fun i x hx => ?_⟩))
    · show Sum.inl (cA, (N, _)) = Sum.inl (cA, (x_glen (x_gcons N (5, 0, 0) []), _))
      rw [x_glen_one]
    · rw [x_gget_one hx]; rfl
set_option maxHeartbeats 1000000 in
theorem xk_newa (hRc : nF - n0 ≤ R.cells) (hRs : slF - sl0 ≤ R.slots) (hs : xs_newa p l e R s m args below meth c Q D cl A rn rp pc i) (hr : xo_newa P ih code i pc stk loc h n sl = some r)
    (hk : ∀ pc stk loc h n sl, ih code pc stk loc h n sl = some r → x_PR p l e R s m args below meth c Q D cl A en rn rp nL n0 sl0 nF slF ad0 pc stk loc h n sl) : x_PR p l e R s m args below meth c Q D cl A en rn rp nL n0 sl0 nF slF ad0 pc stk loc h n sl := by
  match stk, hr with
  | x :: t, hr =>
    obtain ⟨h1, hr⟩ := x_if_n hr
    obtain ⟨h2, hr⟩ := x_if_n hr
    have hr2 : x_bind (x_hpush h n (i.2.1, i.2.2.1, x_gcons x.2.1 (x_hd i.2.2.2, 0, 0) [])) (fun h2 => x_force (Nat.succ n) (fun m => x_force (Nat.succ pc) (fun p => ih code p ((6, n, 0) :: t) loc h2 m (Nat.add sl x.2.1)))) = some r := hr
    obtain ⟨h9, hz, hr2⟩ := x_bind_some hr2
    rw [x_force_eq, x_force_eq] at hr2
    obtain ⟨g1, g2, K⟩ := hk _ _ _ _ _ _ hr2
    have g1 : n + 1 ≤ nF := g1
    have g2 : sl + x.2.1 ≤ slF := g2
    refine ⟨by omega, by omega, fun H locs ad st ls cells slots hst hls hw hc hsl => ?_⟩
    obtain ⟨vx, st3, rfl, hvx, hst3⟩ := x_SR_cons hst
    rw [x_V_tag0 hvx h1]
    obtain ⟨ws, tys, had, hlen, hK, hP, hD, hS, hC⟩ := hw
    refine hs.2 H locs ls cells slots st3 ws tys x.2.1 hK hP hD hS (x_ble h2) (by have := hc.1; omega) (by omega) fun q cA H1 k1 p1 d1 s1 => ?_
    exact K H1 locs (ad ++ [q]) (.ref q :: st3) ls (cells + 1) (slots + x.2.1) (x_SR_mk (x_ad_last (by rw [had, List.length_map]; exact hlen)) (x_SR_grow hst3)) (x_LR_grow hls)
      (x_W_push had hlen k1 hC hz (x_C_newa hs.1) p1 d1 s1) (x_E_push hc) (by show slots + x.2.1 + sl0 = sl + x.2.1; omega)
def x_atp (k : Nat) : ArrayType := match k with
  | 2 => .byte
  | 3 => .boolean
  | 4 => .char
  | 5 => .short
  | 6 => .long
  | _ => .int
/-- the site of a 'newarray' -/
theorem xc_newa (hexec : p.tables.exec = Jvm.exec) (hb : c.code = cc) (hA : ∀ q, s.heap.size ≤ q → A q) (harr : (Cond.arrayClass (newarray.typeOf (x_atp i.2.1))).before args s = true) (hi : (1 ≤ i.2.1 ∧ i.2.1 ≤ 5 ∧ x_hd i.2.2.2 = 0) ∨ (i.2.1 = 6 ∧ x_hd i.2.2.2 = 2)) (hd : x_at cc rp pc (.newarray (x_atp i.2.1)) 2) : xs_newa p l e R s m args below meth c Q D cl A rn rp pc i := by
  refine ⟨by omega, fun H locs ls cells slots st ws tys N hK hP hD hS hN hcl hsl kk => ?_⟩
  have hNl : N < 2 ^ 31 := by omega
  have hn := nI_pos hNl
  have hcl2 := nI_clamp hNl
  obtain ⟨op, ia, ib, itab⟩ := i
  dsimp only at hi harr hd kk ⊢
  have hcase : ia = 1 ∨ ia = 2 ∨ ia = 3 ∨ ia = 4 ∨ ia = 5 ∨ ia = 6 := by omega
  clear hi
  rcases hcase with rfl | rfl | rfl | rfl | rfl | rfl
  · exact va_newa hexec hb harr (ty := .int) rfl hK hP hD hS hA (a0 := (N, .inl (fun _ => 0))) (fun cA => rfl) hn hcl2 (by show N * 4 ≤ _; omega) hcl hsl hd.1 (hd.2 ▸ kk)
  · exact va_newa hexec hb harr (ty := .byte) rfl hK hP hD hS hA (a0 := (N, .inl (fun _ => 0))) (fun cA => rfl) hn hcl2 (by show N * 1 ≤ _; omega) hcl hsl hd.1 (hd.2 ▸ kk)
  · exact va_newa hexec hb harr (ty := .boolean) rfl hK hP hD hS hA (a0 := (N, .inl (fun _ => 0))) (fun cA => rfl) hn hcl2 (by show N * 1 ≤ _; omega) hcl hsl hd.1 (hd.2 ▸ kk)
  · exact va_newa hexec hb harr (ty := .char) rfl hK hP hD hS hA (a0 := (N, .inl (fun _ => 0))) (fun cA => rfl) hn hcl2 (by show N * 2 ≤ _; omega) hcl hsl hd.1 (hd.2 ▸ kk)
  · exact va_newa hexec hb harr (ty := .short) rfl hK hP hD hS hA (a0 := (N, .inl (fun _ => 0))) (fun cA => rfl) hn hcl2 (by show N * 2 ≤ _; omega) hcl hsl hd.1 (hd.2 ▸ kk)
  · exact va_newa hexec hb harr (ty := .long) rfl hK hP hD hS hA (a0 := (N, .inr (.inl (fun _ => 0)))) (fun cA => rfl) hn hcl2 (by show N * 8 ≤ _; omega) hcl hsl hd.1 (hd.2 ▸ kk)
/-- the site of an 'anewarray' -/
theorem xc_newq (hexec : p.tables.exec = Jvm.exec) (hb : c.code = cc) (hA : ∀ q, s.heap.size ≤ q → A q) {own C : String} {index : Nat} (hown : s.vm.findClass own = some m.cls) (hclink : (Cond.classLink own index C).before args s = true) (hover : va_AO C s) (hi : i.2.1 = 8 ∧ x_hd i.2.2.2 = 5) (hrn : rn i.2.2.1 = .object C) (hd : x_at cc rp pc (.anewarray index) 3) : xs_newa p l e R s m args below meth c Q D cl A rn rp pc i := by
  refine ⟨by omega, fun H locs ls cells slots st ws tys N hK hP hD hS hN hcl hsl kk => ?_⟩
  have hNl : N < 2 ^ 31 := by omega
  obtain ⟨op, ia, ib, itab⟩ := i
  dsimp only at hi kk hrn ⊢
  obtain ⟨rfl, -⟩ := hi
  have e : x_ty rn 8 ib = .object C := hrn
  rw [e] at kk
  exact va_newq hexec hb hown hclink hover hK hP hD hS hA (nI_pos hNl) (nI_clamp hNl) (by omega) hcl hsl hd.1 (hd.2 ▸ kk)
end AMOPS12
