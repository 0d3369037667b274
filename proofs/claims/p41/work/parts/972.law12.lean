section LAW12
variable {p : Program} {l : Launch} {e : Env} {R : Room} {s : State} {m : MethodId} {args : Array Value} {below : List Frame} {meth : Method} {c : Code} {Q : State → Prop}
variable {D : va_G} {cl : List vw_C} {A : Nat → Prop} {en : XE} {rn : Nat → FieldType} {rp : Nat → Nat} {nL : Nat} {T : XT} {P : List (List XI)} {G : (Nat → Prop) → State → Heap → Prop}
set_option maxHeartbeats 1000000 in
/-- the same, where AM's run from these very cells is known -/
theorem zL_callX {d M n sl pc cells slots F1 : Nat} {i : XI} {h : XH} {r1 : Nat × XV × XH × Nat × Nat} {xs : List XV} {av rest : List Value} {H : Heap} {locs : List Loc} {ls : Array Slot} {ad : List Nat} (hall : zAll T l D cl en rn G P) (hG : x_G3 G) (hg : G A s s.heap) (hA : ∀ q, s.heap.size ≤ q → A q)
    (hs : xs_call p l e R s m args below meth c D cl (T.1 M) (T.2.1 M) (T.2.2 M) rp nL pc i) (hrun : x_dep P F1 d M (x_pad (x_flat xs) (T.2.2 M)) h n sl = some r1) (hfl : (x_flat xs).length ≤ T.2.2 M) (hlen : xs.length = i.2.2.1) (hM : x_M D cl A en rn s H h n ad) (hx : x_SR ad en xs av) (hS : va_S A s.heap H locs)
    (hrc : x_hd2 i.2.2.2 = 0 ∨ x_rcv h (x_flat xs) (x_hd2 i.2.2.2) = true) (hls : ls.size = nL) (hcat : (rest.map fun v => v.category).sum ≤ 8) (hfr : d + 8 + 1 ≤ R.frames) (hlo : 8 + (T.2.2 M + 11) + (64 * d + 128) ≤ R.locals)
    (c1 : n ≤ r1.2.2.2.1) (c2 : sl ≤ r1.2.2.2.2) (c3 : cells + (r1.2.2.2.1 - n) ≤ R.cells) (c4 : slots + (r1.2.2.2.2 - sl) ≤ R.slots)
    (hk : ∀ (H2 : Heap) (locs2 : List Loc) (ad2 : List Nat) (o : Option Value), ((r1.1 = 0 ∧ o = none) ∨ (r1.1 = 1 ∧ ∃ v, o = some v ∧ x_V (ad ++ ad2) en r1.2.1 v)) → x_M D cl A en rn s H2 r1.2.2.1 r1.2.2.2.1 (ad ++ ad2) → (∀ q ∈ ad ++ ad2, q ∈ ad ∨ H.size ≤ q) → (∀ q, q < H.size → q ∉ ad → H2[q]? = H[q]?) → H.size ≤ H2.size → va_S A s.heap H2 locs2 →
      W p l e R s m args below meth c H2 locs2 (cells + (r1.2.2.2.1 - n)) (slots + (r1.2.2.2.2 - sl)) Q (F0 m (rp (pc + 1)) ls (o.toList ++ rest))) :
    W p l e R s m args below meth c H locs cells slots Q (F0 m (rp pc) ls (av.reverse ++ rest)) := by
  have hMet := hall F1 d M xs h n sl r1 hfl hrun
  obtain ⟨hs1, hs2, hs3⟩ := hs
  have hAf : ∀ q, x_Af ad H.size q → A q := by
    intro q hq
    rcases hq with hq | hq
    · exact x_M_in hM q hq
    · exact hA q (Nat.le_trans hS.1 hq)
  have hGH : G (x_Af ad H.size) s H := hG.2.2.1 _ _ _ _ hAf (hG.2.1 _ _ _ _ hS.2.1 hg)
  have hpre : PreS s H (x_Pc D cl en rn G h n ad xs H.size) av := by
    refine ⟨fun a U g mk q => ?_, fun U hU hW => ?_⟩
    · obtain ⟨av, q0, q1, q2, q3, q4⟩ := q
      exact ⟨av, q0, q1, q2, x_M_moved (u := U) (U := U.calling g mk a) (Vm.Alike.refl U.vm) q3, hG.2.2.2 _ U (U.calling g mk a) _ rfl q4⟩
    · exact ⟨av, rfl, hx, by rw [hU], by rw [hU]; exact x_M_A (fun _ _ => trivial) (x_M_moved hW.alike hM), by rw [hU]; exact hG.1 _ _ _ _ hW hGH⟩
  have hrcv : x_hd2 i.2.2.2 = 0 ∨ ∃ (ws : va_W) (tys : List (ClassId × FieldType)) (k q0 a : Nat) (fs r : List Value), x_hd2 i.2.2.2 = k + 1 ∧ av = .ref a :: r ∧ va_K D cl tys s ∧ va_P D cl ws H ∧ ws[q0]? = some (a, .inr (k, fs)) := by
    rcases hrc with h0 | h1
    · exact Or.inl h0
    · exact x_rcv_spec (h := h) (xs := xs) h1 hx (x_M_W hM hS)
  have hrunW := hs3 _ _ _ _ _ _ H locs cells slots ls av rest (hMet ad H.size) rfl rfl hfr hlo hpre (by rw [x_SR_len hx, hlen]) hrcv hls hcat c3 c4
  intro T0 hT X
  obtain ⟨v, st₀, t1, T', L, e0, X', hL, e1, e2, ⟨⟨ad2, o, ho, hvv, hM1⟩, hz, hkp⟩, stp⟩ := hrunW T0 hT X
  have ho : v = o := Outcome.returned.inj ho
  subst ho
  rw [e0] at hz hkp
  have hvm : s.vm.Alike t1.vm := by rw [← e2]; exact X'.warmed.alike
  have hin0 : ∀ q ∈ ad ++ ad2, x_Af ad H.size q := x_M_in hM1
  have hM2 : x_M D cl A en rn s T'.heap r1.2.2.1 r1.2.2.2.1 (ad ++ ad2) := by rw [e1]; exact x_M_A (fun q hq => hAf q (hin0 q hq)) (x_M_moved hvm.symm hM1)
  have hS2 : va_S A s.heap T'.heap (locs ++ L) := by
    refine ⟨Nat.le_trans hS.1 (by rw [e1]; exact hz), fun q h1 h2 => ?_, fun q hq => ?_⟩
    · rw [e1, hkp q (Nat.lt_of_lt_of_le h1 hS.1) (fun z => h2 (hAf q z))]
      exact hS.2.1 q h1 h2
    · rcases List.mem_append.mp hq with h | h
      · exact hS.2.2 q h
      · exact hAf _ (hL q h)
  obtain ⟨t2, a1, b1⟩ := hk T'.heap (locs ++ L) ad2 v hvv hM2 hin0 (fun q h1 h2 => by
      rw [e1]
      exact hkp q h1 (fun z => z.elim h2 (fun z => absurd z (Nat.not_le.mpr h1)))) (by rw [e1]; exact hz) hS2 T' rfl X'
  rw [hs1] at a1
  exact ⟨t2, stp t2 a1, b1⟩
end LAW12
