section FPOP78
theorem PE_ref {made : Nat} {comb : Nat → Nat} {hm : Nat → MV} (r : Nat) : PE made (x_s comb made r) (x_em made hm) comb hm := by
  refine ⟨fun i hi => ?_, fun i hi => ?_⟩
  · unfold x_s; rw [if_neg (by omega)]
  · unfold x_em; rw [if_neg (by omega)]
theorem PE_ref40 {made : Nat} {comb : Nat → Nat} {hm : Nat → MV} (r : Nat) : PE made (x_s comb made r) hm comb hm := by
  refine ⟨fun i hi => ?_, fun i hi => rfl⟩
  unfold x_s; rw [if_neg (by omega)]
theorem MI_comb {made : Nat} {c1 c2 : Nat → Nat} {hm : Nat → MV} (h : MInv made c1 hm) (e : ∀ i, i < made → c2 i = c1 i) : MInv made c2 hm :=
  ⟨h.1, h.2.1, h.2.2.1, h.2.2.2.1, h.2.2.2.2.1, fun x hx => by rw [e x hx]; exact h.2.2.2.2.2.1 x hx, h.2.2.2.2.2.2⟩
theorem MI_ref {made : Nat} {comb : Nat → Nat} {hm : Nat → MV} (h : MInv made comb hm) (r : Nat) : MInv made (x_s comb made r) (x_em made hm) := by
  obtain ⟨a1, a2, a3, a4, a5⟩ := MI_em (x := made) h
  exact ⟨h.1, a1, a2, a3, a4, fun x hx => by rw [(PE_ref (comb := comb) (hm := hm) r).1 x hx]; exact h.2.2.2.2.2.1 x hx, a5⟩
/-- refused and asked: the population is as it was -/
theorem zc_ref {d n sl : Nat} {φ : FH} {tp : Nat → Nat} {lf : Nat} {mi : Nat} {made : Nat} {svm : Nat} {comb : Nat → Nat} {hm : Nat → MV} {sc : Nat → Nat} {sm : Nat → MV} {mh : MV} {noted : Nat} {verd : Nat} {ins : Nat → Nat} {ver : Nat → Nat} {sz : Nat} {bw : Nat → Nat} {x : Nat} (hG : zG φ 0 tp lf mi made 0 svm comb hm sc sm mh noted verd ins ver sz bw) (hI : MInv made comb hm) (hn0 : 486 ≤ n) (hmi : mi + 300 ≤ 20000) (hx32 : x < 4294967296) :
    x_f x_P (d + 26) 8 [(6, 0, 0), (0, x, 0), (11, 0, 0), (11, 0, 0)] φ n sl (x_bR n sl 0 0 (fun zw φ2 => ∃ (tp2 : Nat → Nat) (lf2 : Nat) (comb2 : Nat → Nat) (hm2 : Nat → MV), zw = (0, 1, 0) ∧ PE made comb2 hm2 comb hm ∧ MInv made comb2 hm2 ∧ zG φ2 0 tp2 lf2 mi made 0 svm comb2 hm2 sc sm mh noted verd ins ver sz bw)) := by
  have l255 : x &&& 255 = x % 256 := Nat.and_two_pow_sub_one_eq_mod x 8
  by_cases hr : made < 40
  · refine x_f_mono (zc_refuses hG hn0 hI.2.1 hmi hx32 l255 (Nat.mod_lt _ (by decide)) rfl hr) (fun u w φ2 n2 sl2 q => ?_)
    obtain ⟨q1, q2, q3, tpZ, q4, q5⟩ := q
    exact ⟨q1, q2, q3, _, _, _, _, q4, PE_ref 1, MI_ref hI 1, q5⟩
  · have h40 : made = 40 := by have := hI.1; omega
    subst h40
    refine x_f_mono (zc_refuses40 hG hn0 hI.2.1 hmi hx32 l255 (Nat.mod_lt _ (by decide)) rfl) (fun u w φ2 n2 sl2 q => ?_)
    obtain ⟨q1, q2, q3, tpZ, q4, q5⟩ := q
    exact ⟨q1, q2, q3, _, _, _, _, q4, PE_ref40 1, MI_comb hI (PE_ref40 (hm := hm) 1).1, q5⟩
/-- brought back: the population is as begin found it -/
theorem PE_back {made : Nat} {comb comb2 sc : Nat → Nat} {hm : Nat → MV} (h40 : made ≤ 40) : PE made (zsv (zsv comb sc) comb2) hm comb hm := by
  refine ⟨fun i hi => ?_, fun i hi => rfl⟩
  unfold zsv
  rw [if_pos (by omega), if_pos (by omega)]
theorem MI_back {made : Nat} {comb comb2 sc : Nat → Nat} {hm : Nat → MV} (h : MInv made comb hm) : MInv made (zsv (zsv comb sc) comb2) hm := MI_comb h (PE_back (hm := hm) h.1).1
theorem MI_0 {comb : Nat → Nat} : MInv 0 comb (fun _ => MV0) :=
  ⟨by decide, fun _ => ⟨zpv2_0.1, zpv2_0.2⟩, fun _ _ => Or.inl rfl, fun _ _ => Or.inl rfl, fun _ _ => Or.inl rfl, fun x hx => absurd hx (Nat.not_lt_zero _), fun _ h => absurd h (by show ¬ (0 = 6); decide)⟩
/-- six calls: what the population is behind them keeps its form -/
theorem stp_MI2 {made : Nat} {comb : Nat → Nat} {hm : Nat → MV} (h : MInv made comb hm) (x : Nat) : ∃ a made2 comb2 hm2, stp made comb hm x = (a, made2, comb2, hm2) ∧ MInv made2 comb2 hm2 := ⟨_, _, _, _, rfl, stp_MI h x⟩
/-- the same call in two houses of like population: the same answer, and like populations -/
theorem stp_both {made : Nat} {c1 c2 : Nat → Nat} {h1 h2 : Nat → MV} (h : PE made c1 h1 c2 h2) (i1 : MInv made c1 h1) (i2 : MInv made c2 h2) (x : Nat) : ∃ a made2 c12 h12 c22 h22, stp made c1 h1 x = (a, made2, c12, h12) ∧ stp made c2 h2 x = (a, made2, c22, h22) ∧ MInv made2 c12 h12 ∧ MInv made2 c22 h22 ∧ PE made2 c12 h12 c22 h22 := by
  have e := stp_PE h x
  have m1 := stp_MI i1 x
  have m2 := stp_MI i2 x
  cases hs1 : stp made c1 h1 x with
  | mk a R =>
    obtain ⟨made2, c12, h12⟩ := R
    cases hs2 : stp made c2 h2 x with
    | mk a' R' =>
      obtain ⟨made2', c22, h22⟩ := R'
      rw [hs1] at e m1
      rw [hs2] at e m2
      obtain ⟨e1, e2, e3⟩ := e
      have e1 : a = a' := e1
      have e2 : made2 = made2' := e2
      subst e1 e2
      exact ⟨a, made2, c12, h12, c22, h22, rfl, rfl, m1, m2, e3⟩
end FPOP78
