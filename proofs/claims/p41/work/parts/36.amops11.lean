section AMOPS11
variable {p : Program} {l : Launch} {e : Env} {R : Room} {s : State} {m : MethodId} {args : Array Value} {below : List Frame} {meth : Method} {c : Code} {Q : State → Prop}
variable {cc : ByteArray} {D : va_G} {cl : List vw_C} {A : Nat → Prop} {en : XE} {rn : Nat → FieldType} {rp : Nat → Nat} {nL n0 sl0 nF slF : Nat} {ad0 : List Nat}
variable {P : XK} {ih : XF} {code : List XI} {i : XI} {pc n sl : Nat} {stk loc : List XV} {h : XH} {r : Nat × XV × XH × Nat × Nat}
theorem x_SR_grow {ad ad2 : List Nat} : ∀ {stk : List XV} {st : List Value}, x_SR ad en stk st → x_SR (ad ++ ad2) en stk st
  | [], _, h => h
  | _ :: _, _, ⟨v, r, h1, h2, h3⟩ => ⟨v, r, h1, x_V_grow h2, x_SR_grow h3⟩
theorem x_LR_grow {ad ad2 : List Nat} {ls : Array Slot} (hh : x_LR ad en nL loc ls) : x_LR (ad ++ ad2) en nL loc ls := by
  obtain ⟨h1, lv, h2, h3⟩ := hh
  exact ⟨h1, lv, h2, fun i x hx h11 => by obtain ⟨v, v1, v2⟩ := h3 i x hx h11; exact ⟨v, v1, x_V_grow v2⟩⟩
theorem x_tys_grow {tys t2 : List (ClassId × FieldType)} {t0 : Nat} {q : ClassId × FieldType} (hh : tys[t0]? = some q) : (tys ++ t2)[t0]? = some q := by
  rw [List.getElem?_append_left (List.getElem?_eq_some_iff.mp hh).1]
  exact hh
theorem x_C_grow {ad ad2 : List Nat} {tys t2 : List (ClassId × FieldType)} {cell : XC} {e1 : va_E} (hh : x_C ad en rn tys cell e1) : x_C (ad ++ ad2) en rn (tys ++ t2) cell e1 := by
  rcases hh with ⟨h0, vs, he, hvl, hv⟩ | ⟨h0, cA, f, t0, he, hty, hv⟩ | ⟨h0, cA, f, t0, he, hty, hv⟩ | ⟨h0, cA, f, t0, he, hty, hv⟩
  · exact Or.inl ⟨h0, vs, he, hvl, fun i x hx => by obtain ⟨v, v1, v2⟩ := hv i x hx; exact ⟨v, v1, x_V_grow v2⟩⟩
  · exact Or.inr (Or.inl ⟨h0, cA, f, t0, he, x_tys_grow hty, fun i x hx => x_V_grow (hv i x hx)⟩)
  · exact Or.inr (Or.inr (Or.inl ⟨h0, cA, f, t0, he, x_tys_grow hty, fun i x hx => x_V_grow (hv i x hx)⟩))
  · exact Or.inr (Or.inr (Or.inr ⟨h0, cA, f, t0, he, x_tys_grow hty, fun i x hx => x_V_grow (hv i x hx)⟩))
/-- one cell more -/
theorem x_W_push {s : State} {H1 : Heap} {locs1 : List Loc} {tys t2 : List (ClassId × FieldType)} {ws : va_W} {ad : List Nat} {h2 : XH} {a : Nat} {e1 : va_E} {c1 : XC} (had : ad = ws.map Prod.fst) (hlen : ws.length = n) (hK : va_K D cl (tys ++ t2) s) (hC : ∀ k c, x_hget h k = some c → ∃ q : Nat × va_E, ws[k]? = some q ∧ x_C ad en rn tys c q.2) (hh : x_hpush h n c1 = some h2) (hc1 : x_C ad en rn (tys ++ t2) c1 e1)
    (hP : va_P D cl (ws ++ [(a, e1)]) H1) (hD : va_D A (ws ++ [(a, e1)])) (hS : va_S A s.heap H1 locs1) : x_W D cl A en rn s H1 locs1 h2 (n + 1) (ad ++ [a]) := by
  refine ⟨ws ++ [(a, e1)], tys ++ t2, by rw [List.map_append, had]; rfl, by rw [List.length_append, hlen]; rfl, hK, hP, hD, hS, fun k c hk => ?_⟩
  rw [x_hget_hpush hh k (fun k c0 h0 => by obtain ⟨q, hq, -⟩ := hC k c0 h0; rw [← hlen]; exact (List.getElem?_eq_some_iff.mp hq).1)] at hk
  by_cases hkn : k = n
  · rw [if_pos hkn] at hk
    subst hkn
    refine ⟨(a, e1), by rw [← hlen, List.getElem?_append_right (Nat.le_refl _), Nat.sub_self]; rfl, ?_⟩
    have := x_C_grow (ad2 := [a]) (t2 := []) hc1
    rw [List.append_nil] at this
    rw [← Option.some.inj hk]
    exact this
  · rw [if_neg hkn] at hk
    obtain ⟨q, q1, q2⟩ := hC k c hk
    exact ⟨q, by rw [List.getElem?_append_left (List.getElem?_eq_some_iff.mp q1).1]; exact q1, x_C_grow q2⟩
theorem x_ad_last {ad : List Nat} {a : Nat} (hl : ad.length = n) : x_V (ad ++ [a]) en (6, n, 0) (.ref a) :=
  ⟨a, by rw [← hl, List.getElem?_append_right (Nat.le_refl _), Nat.sub_self]; rfl, rfl⟩
/-- the default of a tag -/
def x_dv (t : Nat) : Value := match t with
  | 0 => .int 0
  | 2 => .long 0
  | 4 => .double 0
  | _ => .null
def x_dfl (tb : List (Nat × Nat)) : List Value := tb.flatMap (fun q => List.replicate q.1 (x_dv q.2))
theorem x_dv_V {ad : List Nat} {t : Nat} (ht : t = 0 ∨ t = 2 ∨ t = 4 ∨ t = 5) : x_V ad en (t, 0, 0) (x_dv t) := by
  rcases ht with rfl | rfl | rfl | rfl
  · rfl
  · rfl
  · exact ⟨_, rfl⟩
  · rfl
theorem x_dfl_ok {ad : List Nat} : ∀ (tb : List (Nat × Nat)), (∀ q ∈ tb, q.2 = 0 ∨ q.2 = 2 ∨ q.2 = 4 ∨ q.2 = 5) → (x_dfl tb).length = x_glen (tb.map (fun q => (q.1, ((q.2, 0, 0) : XV)))) ∧ ∀ i x, x_gget (tb.map (fun q => (q.1, ((q.2, 0, 0) : XV)))) i = some x → ∃ v, (x_dfl tb)[i]? = some v ∧ x_V ad en x v
  | [], _ => ⟨rfl, fun i x hx => by cases hx⟩
  | (k, t) :: tb, ht => by
    obtain ⟨h1, h2⟩ := x_dfl_ok (ad := ad) tb (fun q hq => ht q (List.mem_cons_of_mem _ hq))
    have e : x_dfl ((k, t) :: tb) = List.replicate k (x_dv t) ++ x_dfl tb := rfl
    refine ⟨?_, fun i x hx => ?_⟩
    · rw [e, List.length_append, List.length_replicate, h1]
      rfl
    · rw [e]
      have hx : x_gget ((k, ((t, 0, 0) : XV)) :: tb.map (fun q => (q.1, ((q.2, 0, 0) : XV)))) i = some x := hx
      rw [x_gget_cons] at hx
      dsimp only at hx
      by_cases hik : i < k
      · rw [if_pos hik] at hx
        rw [← Option.some.inj hx]
        exact ⟨x_dv t, by rw [List.getElem?_append_left (by rw [List.length_replicate]; exact hik), List.getElem?_replicate, if_pos hik], x_dv_V (ht (k, t) List.mem_cons_self)⟩
      · rw [if_neg hik] at hx
        obtain ⟨v, v1, v2⟩ := h2 _ _ hx
        exact ⟨v, by rw [List.getElem?_append_right (by rw [List.length_replicate]; omega), List.length_replicate]; exact v1, v2⟩
/-- a new object: i.2.1 its class, i.2.2.1 its slots -/
def xs_new (p : Program) (l : Launch) (e : Env) (R : Room) (s : State) (m : MethodId) (args : Array Value) (below : List Frame) (meth : Method) (c : Code) (Q : State → Prop) (D : va_G) (cl : List vw_C) (A : Nat → Prop) (rp : Nat → Nat) (pc : Nat) (i : XI) : Prop :=
  (∀ q ∈ i.2.2.2, q.2 = 0 ∨ q.2 = 2 ∨ q.2 = 4 ∨ q.2 = 5) ∧
  ∀ (H : Heap) (locs : List Loc) (ls : Array Slot) (cells slots : Nat) (st : List Value) (ws : va_W) (tys : List (ClassId × FieldType)), va_K D cl tys s → va_P D cl ws H → va_D A ws → va_S A s.heap H locs → cells + 1 ≤ R.cells → slots + i.2.2.1 ≤ R.slots →
    (∀ (q : Nat) (H1 : Heap), va_P D cl (ws ++ [(q, .inr (i.2.1, x_dfl i.2.2.2))]) H1 → va_D A (ws ++ [(q, .inr (i.2.1, x_dfl i.2.2.2))]) → va_S A s.heap H1 locs → W p l e R s m args below meth c H1 locs (cells + 1) (slots + i.2.2.1) Q (F0 m (rp (pc + 1)) ls (.ref q :: st))) →
    W p l e R s m args below meth c H locs cells slots Q (F0 m (rp pc) ls st)
set_option maxHeartbeats 1000000 in
theorem xk_new (hRc : nF - n0 ≤ R.cells) (hRs : slF - sl0 ≤ R.slots) (hs : xs_new p l e R s m args below meth c Q D cl A rp pc i) (hr : xo_new P ih code i pc stk loc h n sl = some r)
    (hk : ∀ pc stk loc h n sl, ih code pc stk loc h n sl = some r → x_PR p l e R s m args below meth c Q D cl A en rn rp nL n0 sl0 nF slF ad0 pc stk loc h n sl) : x_PR p l e R s m args below meth c Q D cl A en rn rp nL n0 sl0 nF slF ad0 pc stk loc h n sl := by
  have hr2 : x_bind (x_hpush h n (0, i.2.1, i.2.2.2.map (fun q => (q.1, ((q.2, 0, 0) : XV))))) (fun h2 => x_force (Nat.succ n) (fun m => x_force (Nat.succ pc) (fun p => ih code p ((6, n, 0) :: stk) loc h2 m (Nat.add sl i.2.2.1)))) = some r := hr
  obtain ⟨h9, hz, hr2⟩ := x_bind_some hr2
  rw [x_force_eq, x_force_eq] at hr2
  obtain ⟨g1, g2, K⟩ := hk _ _ _ _ _ _ hr2
  have g1 : n + 1 ≤ nF := g1
  have g2 : sl + i.2.2.1 ≤ slF := g2
  refine ⟨by omega, by omega, fun H locs ad st ls cells slots hst hls hw hc hsl => ?_⟩
  obtain ⟨ws, tys, had, hlen, hK, hP, hD, hS, hC⟩ := hw
  refine hs.2 H locs ls cells slots st ws tys hK hP hD hS (by have := hc.1; omega) (by omega) fun q H1 p1 d1 s1 => ?_
  obtain ⟨f1, f2⟩ := x_dfl_ok (en := en) (ad := ad) i.2.2.2 hs.1
  have hc1 : x_C ad en rn (tys ++ []) (0, i.2.1, i.2.2.2.map (fun q => (q.1, ((q.2, 0, 0) : XV)))) (.inr (i.2.1, x_dfl i.2.2.2)) := Or.inl ⟨rfl, _, rfl, f1, f2⟩
  exact K H1 locs (ad ++ [q]) (.ref q :: st) ls (cells + 1) (slots + i.2.2.1) (x_SR_mk (x_ad_last (by rw [had, List.length_map]; exact hlen)) (x_SR_grow hst)) (x_LR_grow hls)
    (x_W_push (t2 := []) had hlen (by rw [List.append_nil]; exact hK) hC hz hc1 p1 d1 s1) (x_E_push hc) (by show slots + i.2.2.1 + sl0 = sl + i.2.2.1; omega)
end AMOPS11
