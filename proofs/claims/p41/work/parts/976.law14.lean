section LAW14
variable {p : Program} {l : Launch} {e : Env} {R : Room} {s : State} {m : MethodId} {args : Array Value} {below : List Frame} {meth : Method} {c : Code} {Q : State → Prop}
variable {D : va_G} {cl : List vw_C} {A : Nat → Prop} {en : XE} {rn : Nat → FieldType} {rp : Nat → Nat}
/-- a new object beside a view: a view of its own -/
theorem zL_new {i : XI} {H : Heap} {locs : List Loc} {cells slots pc n : Nat} {ls : Array Slot} {st : List Value} {h : XH} {ad : List Nat} (hs : xs_new p l e R s m args below meth c Q D cl A rp pc i) (hM : x_M D cl A en rn s H h n ad) (hS : va_S A s.heap H locs) (hc : cells + 1 ≤ R.cells) (hsl : slots + i.2.2.1 ≤ R.slots)
    (hk : ∀ (q : Nat) (H1 : Heap), x_M D cl A en rn s H1 h n ad → x_M D cl A en rn s H1 [[(0, i.2.1, i.2.2.2.map (fun q => (q.1, ((q.2, 0, 0) : XV))))]] 1 [q] → q ∉ ad → va_S A s.heap H1 locs → W p l e R s m args below meth c H1 locs (cells + 1) (slots + i.2.2.1) Q (F0 m (rp (pc + 1)) ls (.ref q :: st))) :
    W p l e R s m args below meth c H locs cells slots Q (F0 m (rp pc) ls st) := by
  obtain ⟨ws, tys, had, hlen, hK, hP, hD, hC⟩ := hM
  refine hs.2 H locs ls cells slots st ws tys hK hP hD hS hc hsl fun q H1 p1 d1 s1 => ?_
  obtain ⟨f1, f2⟩ := x_dfl_ok (en := en) (ad := []) i.2.2.2 hs.1
  have hleft : ∀ (k : Nat) (w : Nat × va_E), ws[k]? = some w → (ws ++ [(q, Sum.inr (i.2.1, x_dfl i.2.2.2))])[k]? = some w := fun k w hk => by
    rw [List.getElem?_append_left (List.getElem?_eq_some_iff.mp hk).1]; exact hk
  have hright : ∀ (k : Nat) (w : Nat × va_E), ([(q, Sum.inr (i.2.1, x_dfl i.2.2.2))] : va_W)[k]? = some w → (ws ++ [(q, Sum.inr (i.2.1, x_dfl i.2.2.2))])[ws.length + k]? = some w := fun k w hk => by
    rw [List.getElem?_append_right (Nat.le_add_right _ _), Nat.add_sub_cancel_left]; exact hk
  have hc1 : x_C [] en rn (tys ++ []) (0, i.2.1, i.2.2.2.map (fun q => (q.1, ((q.2, 0, 0) : XV)))) (.inr (i.2.1, x_dfl i.2.2.2)) := Or.inl ⟨rfl, _, rfl, f1, f2⟩
  have hone := x_W_push (D := D) (cl := cl) (A := A) (en := en) (rn := rn) (s := s) (H1 := H1) (locs1 := locs) (tys := tys) (t2 := []) (ws := []) (ad := []) (n := 0) (h2 := [[(0, i.2.1, i.2.2.2.map (fun q => (q.1, ((q.2, 0, 0) : XV))))]]) (a := q) (h := []) rfl rfl (by rw [List.append_nil]; exact hK) (fun k c h => by cases (show (none : Option XC) = some c from h)) rfl hc1
    (fun k w hk => p1 _ w (hright k w hk)) ⟨fun a b w v ha hb hab => by
      have := d1.1 _ _ _ _ (hright a w ha) (hright b v hb) hab
      omega, fun k w hk => d1.2 _ w (hright k w hk)⟩ s1
  refine hk q H1 ⟨ws, tys, had, hlen, hK, fun k w hk => p1 k w (hleft k w hk), hD, hC⟩ (x_W_M hone).1 (fun hq => ?_) s1
  rw [had] at hq
  obtain ⟨k, w, hw, ew⟩ := x_adw hq
  have := d1.1 _ _ _ _ (hleft k w hw) (hright 0 _ rfl) ew
  have hlt := (List.getElem?_eq_some_iff.mp hw).1
  omega
end LAW14
