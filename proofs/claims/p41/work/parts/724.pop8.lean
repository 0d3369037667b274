section FPOP8
/-- how many of the first p are aggregates -/
def x_cnt (hm : Nat → MV) : Nat → Nat := fun p => Nat.rec (motive := fun _ => Nat) 0 (fun k ih => ih + if (hm k).1 = 6 then 1 else 0) p
theorem x_cnt_s (hm : Nat → MV) (p : Nat) : x_cnt hm (p + 1) = x_cnt hm p + if (hm p).1 = 6 then 1 else 0 := rfl
/-- x is taken out of the first p -/
def x_rm (x : Nat) (hm : Nat → MV) (p : Nat) : Nat → MV := fun i => if i < p ∧ x_ho (hm i) x then x_mwo (hm i) x else hm i
theorem x_rm_at {x p : Nat} {hm : Nat → MV} : x_rm x hm p p = hm p := by
  unfold x_rm
  rw [if_neg (by omega)]
theorem x_rm_no {x p : Nat} {hm : Nat → MV} (h : ¬ x_ho (hm p) x) (i : Nat) : x_rm x hm p i = x_rm x hm (p + 1) i := by
  unfold x_rm
  by_cases hi : i = p
  · rw [hi, if_neg (by omega), if_neg (fun z => h z.2)]
  · by_cases h1 : i < p ∧ x_ho (hm i) x
    · rw [if_pos h1, if_pos ⟨by omega, h1.2⟩]
    · rw [if_neg h1, if_neg (fun z => h1 ⟨by omega, z.2⟩)]
theorem x_rm_yes {x p : Nat} {hm : Nat → MV} (h : x_ho (hm p) x) (i : Nat) : (if i = p then x_mwo (hm p) x else x_rm x hm p i) = x_rm x hm (p + 1) i := by
  unfold x_rm
  by_cases hi : i = p
  · rw [if_pos hi, hi, if_pos ⟨by omega, h⟩]
  · rw [if_neg hi]
    by_cases h1 : i < p ∧ x_ho (hm i) x
    · rw [if_pos h1, if_pos ⟨by omega, h1.2⟩]
    · rw [if_neg h1, if_neg (fun z => h1 ⟨by omega, z.2⟩)]
theorem x_PS_7 {φ : FH} {A B made sv svm st : Nat} {comb : Nat → Nat} {hm : Nat → MV} (h : x_PS φ A B made sv svm st comb hm) : φ 7 = some (0, 2, 12, h.1.choose) := h.1.choose_spec.1
theorem e_remove_in {d x y n0 s0 A B made sv svm : Nat} {φ0 : FH} {comb : Nat → Nat} {hm0 : Nat → MV} {Post : FP} (hpv0 : ∀ i, x_pv (hm0 i)) (hx : x < 2147483648) (hy : y < 40) (h486 : 486 ≤ n0)
    (kk : ∀ (φ9 : FH) (n9 s9 st9 : Nat) (q9 : XV), n0 ≤ n9 → n9 ≤ n0 + 3 * x_cnt hm0 (y * 40 + 40) → s0 ≤ s9 → s9 ≤ s0 + 55 * x_cnt hm0 (y * 40 + 40) → x_PS φ9 A B made sv svm st9 comb (x_rm x hm0 (y * 40 + 40)) → (∀ j, j < n0 → j ≠ 7 → j ≠ 227 → φ9 j = φ0 j) → x_n x_P (d + 2) xc_61 38 [] [(6, 7, 0), (0, x, 0), (0, y, 0), (0, 40, 0), q9] φ9 n9 s9 Post) (k : Nat) : ∀ (a : Nat) {φ : FH} {n sl st : Nat} {q : XV}, a + k = 40 → n0 ≤ n → n ≤ n0 + 3 * x_cnt hm0 (y * 40 + a) → s0 ≤ sl → sl ≤ s0 + 55 * x_cnt hm0 (y * 40 + a) → x_PS φ A B made sv svm st comb (x_rm x hm0 (y * 40 + a)) → (∀ j, j < n0 → j ≠ 7 → j ≠ 227 → φ j = φ0 j) → x_n x_P (d + 2) xc_61 16 [] [(6, 7, 0), (0, x, 0), (0, y, 0), (0, a, 0), q] φ n sl Post := by
  induction k with
  | zero =>
    intro a φ n sl st q hak hn0 hn1 hs0 hs1 hS hfr
    have ha : a = 40 := by omega
    subst ha
    refine q_load (p2 := 17) rfl rfl rfl rfl ?_
    refine q_const (p2 := 18) rfl rfl ?_
    refine q_icmp_s (p2 := 19) rfl (by decide) (by omega) (by omega) rfl (fun _ => ?_) (fun hb => absurd (show ¬ (40 < 40) by omega) hb)
    exact kk _ _ _ _ _ hn0 hn1 hs0 hs1 hS hfr
  | succ k ih =>
    intro a φ n sl st q hak hn0 hn1 hs0 hs1 hS hfr
    refine x_n_lt (fun hlt => ?_)
    have hlt0 : ∀ j, φ j ≠ none → j < n := fun j hj => by
      cases hq : φ j with
      | none => exact absurd hq hj
      | some z => exact hlt j z hq
    have ⟨⟨fP, hP⟩, hC, held, hH, hM, hN⟩ := hS
    have hmv := hM (y * 40 + a) (by omega)
    rw [x_rm_at] at hmv
    have hpv := hpv0 (y * 40 + a)
    have hn : 486 ≤ n := by omega
    refine q_load (p2 := 17) rfl rfl rfl rfl ?_
    refine q_const (p2 := 18) rfl rfl ?_
    refine q_icmp_s (p2 := 19) rfl (by decide) (by omega) (by omega) rfl (fun hb => absurd hb (show ¬ (¬ (a < 40)) by omega)) (fun _ => ?_)
    refine q_load (p2 := 20) rfl rfl rfl rfl ?_
    refine q_load (p2 := 21) rfl rfl rfl rfl ?_
    refine q_load (p2 := 22) rfl rfl rfl rfl ?_
    refine q_callr (xs := [(0, a, 0), (0, y, 0), (6, 7, 0)]) (p2 := 23) rfl rfl rfl rfl (x_rcv_s 7 hP.1) rfl (e_heldByP hP hH (by omega) (by omega)) (Nat.le_refl _) (Nat.le_refl _) rfl ?_
    refine q_store (p2 := 24) rfl rfl rfl rfl rfl ?_
    refine q_load (p2 := 25) rfl rfl rfl rfl ?_
    refine q_load (p2 := 26) rfl rfl rfl rfl ?_
    refine q_callr (xs := [(0, x, 0), (6, (held (y * 40 + a)), 0)]) (p2 := 27) rfl rfl rfl rfl (x_rcv_0) rfl (e_isHolding hmv hx) (Nat.le_refl _) (Nat.le_refl _) rfl ?_
    by_cases hb1 : x_ho (hm0 (y * 40 + a)) x
    · rw [if_pos hb1]
      refine q_if0_s (p2 := 28) rfl (by decide) (by omega) rfl (fun hb => absurd hb (show ¬ (1 = 0) by omega)) (fun _ => ?_)
      refine q_load (p2 := 29) rfl rfl rfl rfl ?_
      refine q_load (p2 := 30) rfl rfl rfl rfl ?_
      refine q_load (p2 := 31) rfl rfl rfl rfl ?_
      refine q_load (p2 := 32) rfl rfl rfl rfl ?_
      refine q_load (p2 := 33) rfl rfl rfl rfl ?_
      refine q_load (p2 := 34) rfl rfl rfl rfl ?_
      refine q_callrB (xs := [(0, x, 0), (6, (held (y * 40 + a)), 0), (6, 7, 0)]) (p2 := 35) rfl rfl rfl rfl (x_rcv_s 7 hP.1) rfl (e_withoutP hP hN hmv hpv hx hn) rfl (fun w2 φ2 n2 sl2 hn2 hN2 hs2 hT2 hR2 => ?_)
      obtain ⟨v2, rfl, hv2, hfw⟩ := hR2
      have hS2 := x_PS_at hS (fun j _ hj => hfw j (hlt0 j hj))
      refine q_callvE (xs := [(6, v2, 0), (0, a, 0), (0, y, 0), (6, 7, 0)]) (p2 := 36) rfl rfl rfl rfl (x_rcv_s 7 (x_PS_7 hS2)) rfl (e_holdP hS2 hv2 (by omega) (by omega)) (Nat.le_refl _) (Nat.le_refl _) rfl (fun φ3 hR3 => ?_)
      obtain ⟨hS3, hfh⟩ := hR3
      refine q_iinc (z := a + 1) (p2 := 37) rfl rfl (Nat.mod_eq_of_lt (by omega)) rfl rfl ?_
      refine q_goto rfl ?_
      refine ih (a + 1) (by omega) (by omega) ?_ (by omega) ?_ (x_PS_eq hS3 (fun i _ => x_rm_yes hb1 i) (fun _ => rfl)) (fun j h1 h2 h3 => ((hfh j h2 h3).trans (hfw j (by omega))).trans (hfr j h1 h2 h3))
      · rw [show y * 40 + (a + 1) = y * 40 + a + 1 by omega, x_cnt_s]
        by_cases h6 : (hm0 (y * 40 + a)).1 = 6
        · rw [if_pos h6] at hN2 ⊢; omega
        · rw [if_neg h6] at hN2 ⊢; omega
      · rw [show y * 40 + (a + 1) = y * 40 + a + 1 by omega, x_cnt_s]
        by_cases h6 : (hm0 (y * 40 + a)).1 = 6
        · rw [if_pos h6] at hT2 ⊢; omega
        · rw [if_neg h6] at hT2 ⊢; omega
    · rw [if_neg hb1]
      refine q_if0_s (p2 := 28) rfl (by decide) (by omega) rfl (fun _ => ?_) (fun hb => absurd (show 0 = 0 by omega) hb)
      refine q_iinc (z := a + 1) (p2 := 37) rfl rfl (Nat.mod_eq_of_lt (by omega)) rfl rfl ?_
      refine q_goto rfl ?_
      refine ih (a + 1) (by omega) hn0 ?_ hs0 ?_ (x_PS_eq hS (fun i _ => x_rm_no hb1 i) (fun _ => rfl)) hfr
      · rw [show y * 40 + (a + 1) = y * 40 + a + 1 by omega, x_cnt_s]; omega
      · rw [show y * 40 + (a + 1) = y * 40 + a + 1 by omega, x_cnt_s]; omega
theorem e_remove_out {d x n0 s0 A B made sv svm : Nat} {φ0 : FH} {comb : Nat → Nat} {hm0 : Nat → MV} {Post : FP} (hpv0 : ∀ i, x_pv (hm0 i)) (hx : x < 2147483648) (hmade : made ≤ 40) (h486 : 486 ≤ n0)
    (kk : ∀ (φ9 : FH) (n9 s9 st9 : Nat) (q9 q8 : XV), n0 ≤ n9 → n9 ≤ n0 + 3 * x_cnt hm0 (made * 40) → s0 ≤ s9 → s9 ≤ s0 + 55 * x_cnt hm0 (made * 40) → x_PS φ9 A B made sv svm st9 comb (x_rm x hm0 (made * 40)) → (∀ j, j < n0 → j ≠ 7 → j ≠ 227 → φ9 j = φ0 j) → x_n x_P (d + 2) xc_61 40 [] [(6, 7, 0), (0, x, 0), (0, made, 0), q9, q8] φ9 n9 s9 Post) (k : Nat) : ∀ (y : Nat) {φ : FH} {n sl st : Nat} {q1 q2 : XV}, y + k = made → n0 ≤ n → n ≤ n0 + 3 * x_cnt hm0 (y * 40) → s0 ≤ sl → sl ≤ s0 + 55 * x_cnt hm0 (y * 40) → x_PS φ A B made sv svm st comb (x_rm x hm0 (y * 40)) → (∀ j, j < n0 → j ≠ 7 → j ≠ 227 → φ j = φ0 j) → x_n x_P (d + 2) xc_61 10 [] [(6, 7, 0), (0, x, 0), (0, y, 0), q1, q2] φ n sl Post := by
  induction k with
  | zero =>
    intro y φ n sl st q1 q2 hyk hn0 hn1 hs0 hs1 hS hfr
    have hy : made = y := by omega
    subst hy
    have ⟨⟨fP, hP⟩, hC, held, hH, hM, hN⟩ := hS
    refine q_load (p2 := 11) rfl rfl rfl rfl ?_
    refine q_load (p2 := 12) rfl rfl rfl rfl ?_
    refine q_getv (p2 := 13) rfl hP.1 (by decide) hP.2.2.2.1 rfl ?_
    refine q_icmp_s (p2 := 14) rfl (by decide) (by omega) (by omega) rfl (fun _ => ?_) (fun hb => absurd (show ¬ (made < made) by omega) hb)
    exact kk _ _ _ _ _ _ hn0 hn1 hs0 hs1 hS hfr
  | succ k ih =>
    intro y φ n sl st q1 q2 hyk hn0 hn1 hs0 hs1 hS hfr
    have ⟨⟨fP, hP⟩, hC, held, hH, hM, hN⟩ := hS
    refine q_load (p2 := 11) rfl rfl rfl rfl ?_
    refine q_load (p2 := 12) rfl rfl rfl rfl ?_
    refine q_getv (p2 := 13) rfl hP.1 (by decide) hP.2.2.2.1 rfl ?_
    refine q_icmp_s (p2 := 14) rfl (by decide) (by omega) (by omega) rfl (fun hb => absurd hb (show ¬ (¬ (y < made)) by omega)) (fun _ => ?_)
    refine q_const (p2 := 15) rfl rfl ?_
    refine q_store (p2 := 16) rfl rfl rfl rfl rfl ?_
    refine e_remove_in hpv0 hx (by omega) h486 (fun φ9 n9 s9 st9 q9 gn0 gn1 gs0 gs1 gS gfr => ?_) 40 0 rfl hn0 hn1 hs0 hs1 hS hfr
    refine q_iinc (z := y + 1) (p2 := 39) rfl rfl (Nat.mod_eq_of_lt (by omega)) rfl rfl ?_
    refine q_goto rfl ?_
    have e40 : y * 40 + 40 = (y + 1) * 40 := by omega
    rw [e40] at gn1 gs1 gS
    exact ih (y + 1) (by omega) gn0 gn1 gs0 gs1 gS gfr
theorem x_PS_comb {φ φ1 : FH} {A B made sv svm st x co : Nat} {comb : Nat → Nat} {hm : Nat → MV} {f1 : Nat → XV} (h : x_PS φ A B made sv svm st comb hm) (h1 : φ1 226 = some (1, 0, 512, f1)) (h2 : f1 x = (0, co, 0)) (h3 : ∀ i, i ≠ x → f1 i = (0, comb i, 0)) (h4 : ∀ j, j ≠ 226 → φ1 j = φ j) (hco : co < 2147483648) : x_PS φ1 A B made sv svm st (fun i => if i = x then co else comb i) hm := by
  obtain ⟨⟨f, a1⟩, a2, held, a3, a4, a5⟩ := h
  have e225 : ∀ j, j = 225 ∨ 486 ≤ j → φ j ≠ none → φ1 j = φ j := fun j hj _ => h4 j (by omega)
  exact ⟨⟨f, x_pop_at a1 (h4 7 (by decide))⟩, x_comb_upd h1 a2.2 hco h2 h3, held, x_held_at a3 (h4 227 (by decide)), fun i hi => x_mv_at (a4 i hi) e225, x_mv_at a5 e225⟩
/-- x holds nothing -/
def x_em (x : Nat) (hm : Nat → MV) : Nat → MV := fun i => if x * 40 ≤ i ∧ i < x * 40 + 40 then MV0 else hm i
theorem x_em_pv {x : Nat} {hm : Nat → MV} (h : ∀ i, x_pv (hm i)) (i : Nat) : x_pv (x_em x hm i) := by
  unfold x_em
  split
  · exact fun h => absurd h (by decide)
  · exact h i
theorem x_rm_0 {x : Nat} {hm : Nat → MV} (i : Nat) : hm i = x_rm x hm 0 i := by
  unfold x_rm
  rw [if_neg (fun z => Nat.not_lt_zero _ z.1)]
theorem x_PS_st {φ φ1 : FH} {A B made sv svm st st1 : Nat} {comb : Nat → Nat} {hm : Nat → MV} (h : x_PS φ A B made sv svm st comb hm) (h1 : ∀ j, j ≠ 7 → φ1 j = φ j) (h2 : ∃ f, x_pop φ1 A B made sv svm st1 f) : x_PS φ1 A B made sv svm st1 comb hm := by
  obtain ⟨-, a2, held, a3, a4, a5⟩ := h
  have e225 : ∀ j, j = 225 ∨ 486 ≤ j → φ j ≠ none → φ1 j = φ j := fun j hj _ => h1 j (by omega)
  exact ⟨h2, x_comb_at a2 (h1 226 (by decide)), held, x_held_at a3 (h1 227 (by decide)), fun i hi => x_mv_at (a4 i hi) e225, x_mv_at a5 e225⟩
theorem e_removeP {d n sl A B made sv svm st x : Nat} {φ : FH} {comb : Nat → Nat} {hm : Nat → MV} (hS0 : x_PS φ A B made sv svm st comb hm) (hpv0 : ∀ i, x_pv (hm i)) (hx40 : x < 40) (hn : 486 ≤ n) : x_f x_P (d + 3) 61 [(6, 7, 0), (0, x, 0), (11, 0, 0), (11, 0, 0), (11, 0, 0)] φ n sl (x_bV n sl (3 * x_cnt (x_em x hm) (made * 40)) (55 * x_cnt (x_em x hm) (made * 40)) (fun φ2 => x_PS φ2 A B made sv svm 1 (fun i => if i = x then 0 else comb i) (x_rm x (x_em x hm) (made * 40)) ∧ ∀ j, j < n → j ≠ 7 → j ≠ 226 → j ≠ 227 → φ2 j = φ j)) := by
  refine x_f_of rfl ?_
  have ⟨⟨fP, hP⟩, hC, held, hH, hM, hN⟩ := hS0
  refine q_load (p2 := 1) rfl rfl rfl rfl ?_
  refine q_getv (p2 := 2) rfl hP.1 (by decide) hP.2.2.2.2.1 rfl ?_
  refine q_load (p2 := 3) rfl rfl rfl rfl ?_
  refine q_const (p2 := 4) rfl rfl ?_
  refine q_astE (p2 := 5) rfl hC.1 (by omega) (by omega) (x_ok_0 rfl) (x_nv_same rfl (by decide)) rfl (fun φ1 f1 hh1 hg1 ho1 fr1 => ?_)
  refine q_load (p2 := 6) rfl rfl rfl rfl ?_
  refine q_load (p2 := 7) rfl rfl rfl rfl ?_
  refine q_callvE (xs := [(0, x, 0), (6, 7, 0)]) (p2 := 8) rfl rfl rfl rfl (x_rcv_s 7 ((fr1 7 (by omega)).trans hP.1)) rfl (e_emptyP (x_PS_comb hS0 hh1 hg1 ho1 fr1 (by decide)) hx40) (Nat.le_refl _) (Nat.le_refl _) rfl (fun φ2 hR2 => ?_)
  obtain ⟨hS2, hfe⟩ := hR2
  have ⟨⟨fP2, hP2⟩, _⟩ := hS2
  refine q_const (p2 := 9) rfl rfl ?_
  refine q_store (p2 := 10) rfl rfl rfl rfl rfl ?_
  have hS4 : x_PS φ2 A B made sv svm 1 (fun i => if i = x then 0 else comb i) (x_em x hm) := hS2
  refine e_remove_out (n0 := n) (s0 := sl) (hm0 := x_em x hm) (fun i => x_em_pv hpv0 i) (by omega) (x_PS_lt hS0) hn (fun φ9 n9 s9 st9 q9 q8 gn0 gn1 gs0 gs1 gS gfr => ?_) made 0 (by omega) (Nat.le_refl _) (Nat.le_add_right _ _) (Nat.le_refl _) (Nat.le_add_right _ _) (x_PS_eq hS4 (fun i _ => by rw [Nat.zero_mul]; exact x_rm_0 i) (fun _ => rfl)) (fun _ _ _ _ => rfl)
  have ⟨⟨fP3, hP3⟩, hC3, held3, hH3, hM3, hN3⟩ := gS
  refine q_load (p2 := 41) rfl rfl rfl rfl ?_
  refine q_const (p2 := 42) rfl rfl ?_
  refine q_putfE (p2 := 43) rfl hP3.1 (by decide) rfl rfl (fun φ3 f3 hh3 hg3 ho3 fr3 => ?_)
  exact q_ret rfl (⟨rfl, ⟨gn0, gn1⟩, ⟨gs0, gs1⟩, x_PS_st gS (fun j hj => fr3 j hj) ⟨_, hh3, ((ho3 0 (by decide)).trans hP3.2.1), ((ho3 1 (by decide)).trans hP3.2.2.1), ((ho3 2 (by decide)).trans hP3.2.2.2.1), ((ho3 3 (by decide)).trans hP3.2.2.2.2.1), ((ho3 4 (by decide)).trans hP3.2.2.2.2.2.1), ((ho3 5 (by decide)).trans hP3.2.2.2.2.2.2.1), ((ho3 6 (by decide)).trans hP3.2.2.2.2.2.2.2.1), ((ho3 7 (by decide)).trans hP3.2.2.2.2.2.2.2.2.1), ((ho3 8 (by decide)).trans hP3.2.2.2.2.2.2.2.2.2.1), ((ho3 9 (by decide)).trans hP3.2.2.2.2.2.2.2.2.2.2.1), ((ho3 10 (by decide)).trans hP3.2.2.2.2.2.2.2.2.2.2.2.1), hg3, x_pop_made hP3, x_pop_AB hP3, hP3.2.2.2.2.2.2.2.2.2.2.2.2.2.2.2.1, hP3.2.2.2.2.2.2.2.2.2.2.2.2.2.2.2.2.1, Nat.le_refl _⟩, fun j hj j7 j226 j227 => ((fr3 j j7).trans (gfr j hj j7 j227)).trans ((hfe j j7 j227).trans (fr1 j j226))⟩)
end FPOP8
