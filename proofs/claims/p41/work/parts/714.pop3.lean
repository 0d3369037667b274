section FPOP3
theorem x_held_eq {φ : FH} {ch : Nat} {h1 h2 : Nat → Nat} (h : x_held φ ch h1) (he : ∀ i, h1 i = h2 i) : x_held φ ch h2 := by
  rw [← funext he]
  exact h
theorem x_pop_made {φ : FH} {A B made sv svm st : Nat} {f : Nat → XV} (h : x_pop φ A B made sv svm st f) : made ≤ 40 := h.2.2.2.2.2.2.2.2.2.2.2.2.2.1
theorem x_pop_AB {φ : FH} {A B made sv svm st : Nat} {f : Nat → XV} (h : x_pop φ A B made sv svm st f) : (A = 230 ∧ B = 231) ∨ (A = 231 ∧ B = 230) := h.2.2.2.2.2.2.2.2.2.2.2.2.2.2.1
theorem x_pop_at {φ φ1 : FH} {A B made sv svm st : Nat} {f : Nat → XV} (h : x_pop φ A B made sv svm st f) (e : φ1 7 = φ 7) : x_pop φ1 A B made sv svm st f := by
  unfold x_pop at h ⊢
  rw [e]
  exact h
theorem x_comb_at {φ φ1 : FH} {cc : Nat} {comb : Nat → Nat} (h : x_comb φ cc comb) (e : φ1 cc = φ cc) : x_comb φ1 cc comb := by
  unfold x_comb at h ⊢
  rw [e]
  exact h
theorem x_held_at {φ φ1 : FH} {ch : Nat} {held : Nat → Nat} (h : x_held φ ch held) (e : φ1 ch = φ ch) : x_held φ1 ch held := by
  unfold x_held at h ⊢
  rw [e]
  exact h
theorem e_empty_loop {d n sl x : Nat} (hx : x < 40) (k : Nat) : ∀ (a : Nat), a + k = 40 → ∀ {φ : FH} {A B made sv svm st : Nat} {fP : Nat → XV} (hP : x_pop φ A B made sv svm st fP) {held : Nat → Nat} (hH : x_held φ 227 held) {fN : Nat → XV} (hN : φ 225 = some (0, 10, 7, fN)), x_n x_P (d + 1) xc_103 2 [] [(6, 7, 0), (0, x, 0), (0, a, 0)] φ n sl (x_vR n sl (fun φ2 => x_held φ2 227 (fun i => if x * 40 + a ≤ i ∧ i < x * 40 + 40 then 225 else held i) ∧ (∃ f2 st2, x_pop φ2 A B made sv svm st2 f2 ∧ (a < 40 ∨ st = 1 → st2 = 1)) ∧ ∀ j, j ≠ 7 → j ≠ 227 → φ2 j = φ j)) := by
  induction k with
  | zero =>
    intro a hak φ A B made sv svm st fP hP held hH fN hN
    have ha : a = 40 := by omega
    subst ha
    refine q_load (p2 := 3) rfl rfl rfl rfl ?_
    refine q_const (p2 := 4) rfl rfl ?_
    refine q_icmp_s (p2 := 5) rfl (by decide) (by omega) (by omega) rfl (fun _ => ?_) (fun hb => absurd (show ¬ (40 < 40) by omega) hb)
    exact q_ret rfl (⟨rfl, rfl, rfl, x_held_eq hH (fun i => by rw [if_neg (by omega)]), ⟨_, _, hP, fun h => by omega⟩, fun j _ _ => rfl⟩)
  | succ k ih =>
    intro a hak φ A B made sv svm st fP hP held hH fN hN
    refine q_load (p2 := 3) rfl rfl rfl rfl ?_
    refine q_const (p2 := 4) rfl rfl ?_
    refine q_icmp_s (p2 := 5) rfl (by decide) (by omega) (by omega) rfl (fun hb => absurd hb (show ¬ (¬ (a < 40)) by omega)) (fun _ => ?_)
    refine q_load (p2 := 6) rfl rfl rfl rfl ?_
    refine q_load (p2 := 7) rfl rfl rfl rfl ?_
    refine q_load (p2 := 8) rfl rfl rfl rfl ?_
    refine q_load (p2 := 9) rfl rfl rfl rfl ?_
    refine q_getv (p2 := 10) rfl hP.1 (by decide) hP.2.2.1 rfl ?_
    refine q_callvE (xs := [(6, 225, 0), (0, a, 0), (0, x, 0), (6, 7, 0)]) (p2 := 11) rfl rfl rfl rfl (x_rcv_s 7 hP.1) rfl (e_hold hP hH (x := x) (a := a) hN hx (by omega)) (Nat.le_refl _) (Nat.le_refl _) rfl (fun φ1 hR1 => ?_)
    obtain ⟨hH2, ⟨f2, hP2⟩, hfr⟩ := hR1
    refine q_iinc (z := a + 1) (p2 := 12) rfl rfl (Nat.mod_eq_of_lt (by omega)) rfl rfl ?_
    refine q_goto rfl ?_
    refine x_n_mono (ih (a + 1) (by omega) hP2 hH2 ((hfr 225 (by decide) (by decide)).trans hN)) ?_
    intro u w φ3 n3 sl3 hq
    obtain ⟨q1, q2, q3, q4, ⟨f3, st3, q5, q6⟩, q7⟩ := hq
    refine ⟨q1, q2, q3, x_held_eq q4 (fun i => ?_), ⟨f3, st3, q5, fun h => ?_⟩, fun j j7 j227 => (q7 j j7 j227).trans (hfr j j7 j227)⟩
    · by_cases h1 : x * 40 + (a + 1) ≤ i ∧ i < x * 40 + 40
      · rw [if_pos h1, if_pos (by omega)]
      · rw [if_neg h1]
        by_cases h2 : i = x * 40 + a
        · rw [if_pos h2, if_pos (by omega)]
        · rw [if_neg h2, if_neg (by omega)]
    · by_cases h3 : a + 1 < 40
      · exact q6 (Or.inl h3)
      · exact q6 (Or.inr rfl)
theorem e_empty {d n sl : Nat} {φ : FH} {x : Nat} (hx : x < 40) {A B made sv svm st : Nat} {fP : Nat → XV} (hP : x_pop φ A B made sv svm st fP) {held : Nat → Nat} (hH : x_held φ 227 held) {fN : Nat → XV} (hN : φ 225 = some (0, 10, 7, fN)) : x_f x_P (d + 2) 103 [(6, 7, 0), (0, x, 0), (11, 0, 0)] φ n sl (x_vR n sl (fun φ2 => x_held φ2 227 (fun i => if x * 40 ≤ i ∧ i < x * 40 + 40 then 225 else held i) ∧ (∃ f2, x_pop φ2 A B made sv svm 1 f2) ∧ ∀ j, j ≠ 7 → j ≠ 227 → φ2 j = φ j)) := by
  refine x_f_of rfl ?_
  refine q_const (p2 := 1) rfl rfl ?_
  refine q_store (p2 := 2) rfl rfl rfl rfl rfl ?_
  refine x_n_mono (e_empty_loop hx 40 0 rfl hP hH hN) ?_
  intro u w φ3 n3 sl3 hq
  obtain ⟨q1, q2, q3, q4, ⟨f3, st3, q5, q6⟩, q7⟩ := hq
  have q8 : st3 = 1 := q6 (Or.inl (by decide))
  subst q8
  exact ⟨q1, q2, q3, q4, ⟨f3, q5⟩, q7⟩
theorem e_add {d n sl : Nat} {φ : FH} {A B made sv svm st : Nat} {fP : Nat → XV} (hP : x_pop φ A B made sv svm st fP) {comb : Nat → Nat} (hC : x_comb φ 226 comb) {held : Nat → Nat} (hH : x_held φ 227 held) {fN : Nat → XV} (hN : φ 225 = some (0, 10, 7, fN)) (hx : made < 40) {co : Nat} (hco : co < 2147483648) : x_f x_P (d + 3) 52 [(6, 7, 0), (0, co, 0), (11, 0, 0)] φ n sl (x_rR (0, made, 0) n sl (fun φ2 => x_comb φ2 226 (fun i => if i = made then co else comb i) ∧ x_held φ2 227 (fun i => if made * 40 ≤ i ∧ i < made * 40 + 40 then 225 else held i) ∧ (∃ f2, x_pop φ2 A B (made + 1) sv svm 1 f2) ∧ ∀ j, j ≠ 7 → j ≠ 226 → j ≠ 227 → φ2 j = φ j)) := by
  refine x_f_of rfl ?_
  refine q_load (p2 := 1) rfl rfl rfl rfl ?_
  refine q_getv (p2 := 2) rfl hP.1 (by decide) hP.2.2.2.1 rfl ?_
  refine q_store (p2 := 3) rfl rfl rfl rfl rfl ?_
  refine q_load (p2 := 4) rfl rfl rfl rfl ?_
  refine q_load (p2 := 5) rfl rfl rfl rfl ?_
  refine q_callvE (xs := [(0, made, 0), (6, 7, 0)]) (p2 := 6) rfl rfl rfl rfl (x_rcv_s 7 hP.1) rfl (e_empty hx hP hH hN) (Nat.le_refl _) (Nat.le_refl _) rfl (fun φ1 hR1 => ?_)
  obtain ⟨hH2, ⟨f2, hP2⟩, hfr⟩ := hR1
  have hC2 := x_comb_at hC (hfr 226 (by decide) (by decide))
  refine q_load (p2 := 7) rfl rfl rfl rfl ?_
  refine q_getv (p2 := 8) rfl hP2.1 (by decide) hP2.2.2.2.2.1 rfl ?_
  refine q_load (p2 := 9) rfl rfl rfl rfl ?_
  refine q_load (p2 := 10) rfl rfl rfl rfl ?_
  refine q_astE (p2 := 11) rfl hC2.1 (by omega) (by omega) (x_ok_0 rfl) (x_nv_same rfl (by decide)) rfl (fun φ2 f2 hh2 hg2 ho2 fr2 => ?_)
  refine q_load (p2 := 12) rfl rfl rfl rfl ?_
  refine q_dup (p2 := 13) rfl rfl rfl ?_
  refine q_getv (p2 := 14) rfl ((fr2 7 (by omega)).trans hP2.1) (by decide) hP2.2.2.2.1 rfl ?_
  refine q_const (p2 := 15) rfl rfl ?_
  refine q_iadd (p2 := 16) rfl (by omega) rfl ?_
  refine q_putfE (p2 := 17) rfl ((fr2 7 (by omega)).trans hP2.1) (by decide) rfl rfl (fun φ3 f3 hh3 hg3 ho3 fr3 => ?_)
  refine q_load (p2 := 18) rfl rfl rfl rfl ?_
  refine q_const (p2 := 19) rfl rfl ?_
  refine q_putfE (p2 := 20) rfl hh3 (by decide) rfl rfl (fun φ4 f4 hh4 hg4 ho4 fr4 => ?_)
  refine q_load (p2 := 21) rfl rfl rfl rfl ?_
  exact q_retv rfl rfl (⟨rfl, rfl, rfl, rfl, x_comb_upd ((fr4 226 (by omega)).trans ((fr3 226 (by omega)).trans hh2)) hC.2 hco hg2 ho2, x_held_at hH2 ((fr4 227 (by decide)).trans ((fr3 227 (by decide)).trans ((fr2 227 (by decide)).trans rfl))), ⟨_, hh4, ((ho4 0 (by decide)).trans ((ho3 0 (by decide)).trans hP2.2.1)), ((ho4 1 (by decide)).trans ((ho3 1 (by decide)).trans hP2.2.2.1)), ((ho4 2 (by decide)).trans hg3), ((ho4 3 (by decide)).trans ((ho3 3 (by decide)).trans hP2.2.2.2.2.1)), ((ho4 4 (by decide)).trans ((ho3 4 (by decide)).trans hP2.2.2.2.2.2.1)), ((ho4 5 (by decide)).trans ((ho3 5 (by decide)).trans hP2.2.2.2.2.2.2.1)), ((ho4 6 (by decide)).trans ((ho3 6 (by decide)).trans hP2.2.2.2.2.2.2.2.1)), ((ho4 7 (by decide)).trans ((ho3 7 (by decide)).trans hP2.2.2.2.2.2.2.2.2.1)), ((ho4 8 (by decide)).trans ((ho3 8 (by decide)).trans hP2.2.2.2.2.2.2.2.2.2.1)), ((ho4 9 (by decide)).trans ((ho3 9 (by decide)).trans hP2.2.2.2.2.2.2.2.2.2.2.1)), ((ho4 10 (by decide)).trans ((ho3 10 (by decide)).trans hP2.2.2.2.2.2.2.2.2.2.2.2.1)), hg4, by omega, x_pop_AB hP, hP.2.2.2.2.2.2.2.2.2.2.2.2.2.2.2.1, hP.2.2.2.2.2.2.2.2.2.2.2.2.2.2.2.2.1, Nat.le_refl _⟩, fun j j7 j226 j227 => ((fr4 j j7).trans ((fr3 j j7).trans ((fr2 j j226).trans (hfr j j7 j227))))⟩)
end FPOP3
