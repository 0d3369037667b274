section LAW1
variable {p : Program} {l : Launch} {e : Env} {R : Room} {s : State} {m : MethodId} {args : Array Value} {below : List Frame} {meth : Method} {c : Code} {Q : State → Prop}
variable {D : va_G} {cl : List vw_C} {A : Nat → Prop} {en : XE} {rn : Nat → FieldType} {rp : Nat → Nat} {nL : Nat} {T : XT} {P : List (List XI)} {G : (Nat → Prop) → State → Heap → Prop}
theorem x_M_kept {H H1 : Heap} {h : XH} {n : Nat} {ad : List Nat} (hm : x_M D cl A en rn s H h n ad) (hq : ∀ q ∈ ad, H1[q]? = H[q]?) : x_M D cl A en rn s H1 h n ad := by
  obtain ⟨ws, tys, had, hlen, hK, hP, hD, hC⟩ := hm
  exact ⟨ws, tys, had, hlen, hK, hP.kept (fun k q hk => hq _ (by rw [had]; exact List.mem_map.mpr ⟨q, List.mem_of_getElem? hk, rfl⟩)), hD, hC⟩
theorem x_M_lt {H : Heap} {h : XH} {n : Nat} {ad : List Nat} (hm : x_M D cl A en rn s H h n ad) : ∀ q ∈ ad, q < H.size := by
  obtain ⟨ws, tys, had, hlen, hK, hP, hD, hC⟩ := hm
  intro q hq
  rw [had] at hq
  obtain ⟨k, w, hk, e⟩ := x_adw hq
  rw [← e]
  exact (hP k w hk).lt
/-- a house's view: its cells, as φ says, at ad -/
def zS (D : va_G) (cl : List vw_C) (A : Nat → Prop) (en : XE) (rn : Nat → FieldType) (s : State) (H : Heap) (φ : FH) (n : Nat) (ad : List Nat) : Prop := ∃ h, x_h φ n h ∧ x_M D cl A en rn s H h n ad
theorem zS_kept {H H1 : Heap} {φ : FH} {n : Nat} {ad : List Nat} (hm : zS D cl A en rn s H φ n ad) (hq : ∀ q ∈ ad, H1[q]? = H[q]?) : zS D cl A en rn s H1 φ n ad := by
  obtain ⟨h, h1, h2⟩ := hm
  exact ⟨h, h1, x_M_kept h2 hq⟩
theorem zS_lt {H : Heap} {φ : FH} {n : Nat} {ad : List Nat} (hm : zS D cl A en rn s H φ n ad) : ∀ q ∈ ad, q < H.size := by
  obtain ⟨h, h1, h2⟩ := hm
  exact x_M_lt h2
theorem zS_in {H : Heap} {φ : FH} {n : Nat} {ad : List Nat} (hm : zS D cl A en rn s H φ n ad) : ∀ q ∈ ad, A q := by
  obtain ⟨h, h1, h2⟩ := hm
  exact x_M_in h2
theorem x_rcv0 {φ : FH} {n k N : Nat} {f : Nat → XV} {h : XH} {t : List XV} (hh : x_h φ n h) (e : φ 0 = some (0, k, N, f)) : x_rcv h ((6, 0, 0) :: t) (k + 1) = true := by
  obtain ⟨g, hg, -, -⟩ := x_h_get hh e
  show x_if (Nat.beq (k + 1) 0) true (x_if (Nat.beq 6 6) (Option.rec (motive := fun _ => Bool) false (fun c => x_if (Nat.beq c.1 0) (Nat.beq (Nat.succ c.2.1) (k + 1)) false) (x_hget h 0)) false) = true
  rw [hg]
  show Nat.beq (k + 1) (k + 1) = true
  exact Nat.beq_refl _
/-- what is known of AM: its runs are contracts -/
def zAll (T : XT) (l : Launch) (D : va_G) (cl : List vw_C) (en : XE) (rn : Nat → FieldType) (G : (Nat → Prop) → State → Heap → Prop) (P : List (List XI)) : Prop :=
  ∀ (fuel d M : Nat) (xs : List XV) (h : XH) (n sl : Nat) (r : Nat × XV × XH × Nat × Nat), (x_flat xs).length ≤ T.2.2 M → x_dep P fuel d M (x_pad (x_flat xs) (T.2.2 M)) h n sl = some r → x_Met l D cl en rn G (T.1 M) (T.2.1 M) (d + 8) (64 * d + 128) xs h n sl r
set_option maxHeartbeats 1000000 in
/-- a call over one view; what is beside it stays -/
theorem zL_call {d M n sl pc cells slots : Nat} {i : XI} {φ : FH} {Post : FP} {xs : List XV} {av rest : List Value} {H : Heap} {locs : List Loc} {ls : Array Slot} {ad : List Nat} (hall : zAll T l D cl en rn G P) (hG : x_G3 G) (hg : G A s s.heap) (hA : ∀ q, s.heap.size ≤ q → A q)
    (hs : xs_call p l e R s m args below meth c D cl (T.1 M) (T.2.1 M) (T.2.2 M) rp nL pc i) (hrun : x_f P d M (x_pad (x_flat xs) (T.2.2 M)) φ n sl Post) (hfl : (x_flat xs).length ≤ T.2.2 M) (hlen : xs.length = i.2.2.1) (hv : zS D cl A en rn s H φ n ad) (hx : x_SR ad en xs av) (hS : va_S A s.heap H locs)
    (hrc : x_hd2 i.2.2.2 = 0 ∨ ∃ (k N : Nat) (f : Nat → XV) (t : List XV), x_hd2 i.2.2.2 = k + 1 ∧ φ 0 = some (0, k, N, f) ∧ xs = (6, 0, 0) :: t) (hls : ls.size = nL) (hcat : (rest.map fun v => v.category).sum ≤ 8) (hfr : d + 8 + 1 ≤ R.frames) (hlo : 8 + (T.2.2 M + 11) + (64 * d + 128) ≤ R.locals)
    (hroom : ∀ u w φ2 n2 sl2, Post u w φ2 n2 sl2 → n ≤ n2 ∧ sl ≤ sl2 ∧ cells + (n2 - n) ≤ R.cells ∧ slots + (sl2 - sl) ≤ R.slots)
    (hk : ∀ u w φ2 n2 sl2, Post u w φ2 n2 sl2 → ∀ (H2 : Heap) (locs2 : List Loc) (ad2 : List Nat) (o : Option Value), ((u = 0 ∧ o = none) ∨ (u = 1 ∧ ∃ v, o = some v ∧ x_V (ad ++ ad2) en w v)) → zS D cl A en rn s H2 φ2 n2 (ad ++ ad2) → (∀ q ∈ ad ++ ad2, q ∈ ad ∨ H.size ≤ q) → (∀ q, q < H.size → q ∉ ad → H2[q]? = H[q]?) → H.size ≤ H2.size → va_S A s.heap H2 locs2 →
      W p l e R s m args below meth c H2 locs2 (cells + (n2 - n)) (slots + (sl2 - sl)) Q (F0 m (rp (pc + 1)) ls (o.toList ++ rest))) :
    W p l e R s m args below meth c H locs cells slots Q (F0 m (rp pc) ls (av.reverse ++ rest)) := by
  obtain ⟨h, hh, hM⟩ := hv
  obtain ⟨r1, ⟨φ2, hh2, hpost⟩, F1, hF1⟩ := hrun h hh
  have hMet := hall F1 d M xs h n sl r1 hfl (hF1 F1 (Nat.le_refl _))
  obtain ⟨c1, c2, c3, c4⟩ := hroom _ _ _ _ _ hpost
  obtain ⟨hs1, hs2, hs3⟩ := hs
  have hAf : ∀ q, x_Af ad H.size q → A q := by
    intro q hq
    rcases hq with hq | hq
    · exact x_M_in hM q hq
    · exact hA q (Nat.le_trans hS.1 hq)
  have hGH : G (x_Af ad H.size) s H := hG.2.2.1 _ _ _ _ hAf (hG.2.1 _ _ _ _ hS.2.1 hg)
  have hpre : PreS s H (x_Pc D cl en rn G h n ad xs H.size) av := by
    refine ⟨fun a U g mk q => ?_, fun U hU hW => ?_⟩
    · obtain ⟨av, q0, q1, q2, q3, q4⟩ := q
      exact ⟨av, q0, q1, q2, x_M_moved (u := U) (U := U.calling g mk a) (Vm.Alike.refl U.vm) q3, hG.2.2.2 _ U (U.calling g mk a) _ rfl q4⟩
    · exact ⟨av, rfl, hx, by rw [hU], by rw [hU]; exact x_M_A (fun _ _ => trivial) (x_M_moved hW.alike hM), by rw [hU]; exact hG.1 _ _ _ _ hW hGH⟩
  have hrcv : x_hd2 i.2.2.2 = 0 ∨ ∃ (ws : va_W) (tys : List (ClassId × FieldType)) (k q0 a : Nat) (fs r : List Value), x_hd2 i.2.2.2 = k + 1 ∧ av = .ref a :: r ∧ va_K D cl tys s ∧ va_P D cl ws H ∧ ws[q0]? = some (a, .inr (k, fs)) := by
    rcases hrc with h0 | ⟨k, N, f, t, h1, h2, h3⟩
    · exact Or.inl h0
    · refine x_rcv_spec (h := h) (xs := xs) ?_ hx (x_M_W hM hS)
      rw [h1, h3]
      exact x_rcv0 hh h2
  have hrunW := hs3 _ _ _ _ _ _ H locs cells slots ls av rest (hMet ad H.size) rfl rfl hfr hlo hpre (by rw [x_SR_len hx, hlen]) hrcv hls hcat c3 c4
  intro T0 hT X
  obtain ⟨v, st₀, t1, T', L, e0, X', hL, e1, e2, ⟨⟨ad2, o, ho, hvv, hM1⟩, hz, hkp⟩, stp⟩ := hrunW T0 hT X
  have ho : v = o := Outcome.returned.inj ho
  subst ho
  rw [e0] at hz hkp
  have hvm : s.vm.Alike t1.vm := by rw [← e2]; exact X'.warmed.alike
  have hin0 : ∀ q ∈ ad ++ ad2, x_Af ad H.size q := x_M_in hM1
  have hM2 : x_M D cl A en rn s T'.heap r1.2.2.1 r1.2.2.2.1 (ad ++ ad2) := by rw [e1]; exact x_M_A (fun q hq => hAf q (hin0 q hq)) (x_M_moved hvm.symm hM1)
  have hS2 : va_S A s.heap T'.heap (locs ++ L) := by
    refine ⟨Nat.le_trans hS.1 (by rw [e1]; exact hz), fun q h1 h2 => ?_, fun q hq => ?_⟩
    · rw [e1, hkp q (Nat.lt_of_lt_of_le h1 hS.1) (fun z => h2 (hAf q z))]
      exact hS.2.1 q h1 h2
    · rcases List.mem_append.mp hq with h | h
      · exact hS.2.2 q h
      · exact hAf _ (hL q h)
  obtain ⟨t2, a1, b1⟩ := hk _ _ _ _ _ hpost T'.heap (locs ++ L) ad2 v hvv ⟨_, hh2, hM2⟩ hin0 (fun q h1 h2 => by
      rw [e1]
      exact hkp q h1 (fun z => z.elim h2 (fun z => absurd z (Nat.not_le.mpr h1)))) (by rw [e1]; exact hz) hS2 T' rfl X'
  rw [hs1] at a1
  exact ⟨t2, stp t2 a1, b1⟩
/-- the law's world: two houses, apart -/
def zWd (D : va_G) (cl : List vw_C) (A : Nat → Prop) (en : XE) (rn : Nat → FieldType) (s : State) (H : Heap) (locs : List Loc) (cells slots : Nat) (φ : FH) (n sl : Nat) (ad : List Nat) (ψ : FH) (n' sl' : Nat) (ad' : List Nat) : Prop :=
  zS D cl A en rn s H φ n ad ∧ zS D cl A en rn s H ψ n' ad' ∧ (∀ q ∈ ad, q ∉ ad') ∧ va_S A s.heap H locs ∧ cells = n + n' ∧ slots = sl + sl'
theorem zWd.swap {H : Heap} {locs : List Loc} {cells slots : Nat} {φ ψ : FH} {n sl n' sl' : Nat} {ad ad' : List Nat} (h : zWd D cl A en rn s H locs cells slots φ n sl ad ψ n' sl' ad') : zWd D cl A en rn s H locs cells slots ψ n' sl' ad' φ n sl ad :=
  ⟨h.2.1, h.1, fun q h1 h2 => h.2.2.1 q h2 h1, h.2.2.2.1, by rw [h.2.2.2.2.1, Nat.add_comm], by rw [h.2.2.2.2.2, Nat.add_comm]⟩
/-- behind a call over the one -/
theorem zWd.call {H H2 : Heap} {locs locs2 : List Loc} {cells slots : Nat} {φ φ2 ψ : FH} {n sl n' sl' n2 sl2 : Nat} {ad ad2 ad' : List Nat} (h : zWd D cl A en rn s H locs cells slots φ n sl ad ψ n' sl' ad') (h1 : zS D cl A en rn s H2 φ2 n2 (ad ++ ad2)) (h2 : ∀ q ∈ ad ++ ad2, q ∈ ad ∨ H.size ≤ q) (h3 : ∀ q, q < H.size → q ∉ ad → H2[q]? = H[q]?) (h4 : va_S A s.heap H2 locs2) (h5 : n ≤ n2) (h6 : sl ≤ sl2) :
    zWd D cl A en rn s H2 locs2 (cells + (n2 - n)) (slots + (sl2 - sl)) φ2 n2 sl2 (ad ++ ad2) ψ n' sl' ad' := by
  have hlt := zS_lt h.2.1
  refine ⟨h1, zS_kept h.2.1 (fun q hq => h3 q (hlt q hq) (fun z => h.2.2.1 q z hq)), fun q hq hq2 => ?_, h4, ?_, ?_⟩
  · rcases h2 q hq with z | z
    · exact h.2.2.1 q z hq2
    · exact absurd z (Nat.not_le.mpr (hlt q hq2))
  · have := h.2.2.2.2.1; omega
  · have := h.2.2.2.2.2; omega
end LAW1
