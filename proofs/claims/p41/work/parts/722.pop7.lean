section FPOP7
abbrev MV0 : MV := (0, 0, 0, 0, [])
abbrev x_ho (m : MV) (x : Nat) : Prop := (m.1 = 5 ∧ m.2.1 = x) ∨ (m.1 ≠ 5 ∧ m.2.2.2.1 = 5 ∧ x ∈ m.2.2.2.2)
/-- without an instance -/
def x_mwo (m : MV) (x : Nat) : MV := if m.1 = 6 then (6, 0, 3, 5, x_wo x m.2.2.2.2) else MV0
/-- aggregates are sets of instances -/
def x_pv (m : MV) : Prop := m.1 = 6 → m.2.2.1 = 3 ∧ m.2.2.2.1 = 5
/-- the Population: its fields, its combinations, the values that it holds -/
def x_PS (φ : FH) (A B made sv svm st : Nat) (comb : Nat → Nat) (hm : Nat → MV) : Prop :=
  (∃ f, x_pop φ A B made sv svm st f) ∧ x_comb φ 226 comb ∧ ∃ held, x_held φ 227 held ∧ (∀ i, i < 1600 → x_mv φ (held i) (hm i)) ∧ x_mv φ 225 MV0
theorem x_PS_eq {φ : FH} {A B made sv svm st : Nat} {comb comb2 : Nat → Nat} {hm hm2 : Nat → MV} (h : x_PS φ A B made sv svm st comb hm) (h1 : ∀ i, i < 1600 → hm i = hm2 i) (h2 : ∀ i, comb i = comb2 i) : x_PS φ A B made sv svm st comb2 hm2 := by
  obtain ⟨a1, a2, held, a3, a4, a5⟩ := h
  refine ⟨a1, ?_, held, a3, fun i hi => (h1 i hi) ▸ a4 i hi, a5⟩
  rw [← funext h2]
  exact a2
theorem x_PS_at {φ φ1 : FH} {A B made sv svm st : Nat} {comb : Nat → Nat} {hm : Nat → MV} (h : x_PS φ A B made sv svm st comb hm) (e : ∀ j, j = 7 ∨ j = 225 ∨ j = 226 ∨ j = 227 ∨ 486 ≤ j → φ j ≠ none → φ1 j = φ j) : x_PS φ1 A B made sv svm st comb hm := by
  obtain ⟨⟨f, a1⟩, a2, held, a3, a4, a5⟩ := h
  have e225 : ∀ j, j = 225 ∨ 486 ≤ j → φ j ≠ none → φ1 j = φ j := fun j hj hn => e j (by omega) hn
  refine ⟨⟨f, x_pop_at a1 (e 7 (by omega) (by rw [a1.1]; exact Option.some_ne_none _))⟩, x_comb_at a2 (e 226 (by omega) (by rw [a2.1]; exact Option.some_ne_none _)), held, x_held_at a3 (e 227 (by omega) ?_), fun i hi => x_mv_at (a4 i hi) e225, x_mv_at a5 e225⟩
  unfold x_held at a3
  rw [a3]
  exact Option.some_ne_none _
theorem x_PS_lt {φ : FH} {A B made sv svm st : Nat} {comb : Nat → Nat} {hm : Nat → MV} (h : x_PS φ A B made sv svm st comb hm) : made ≤ 40 := by
  obtain ⟨⟨f, a1⟩, -⟩ := h
  exact x_pop_made a1
theorem e_holdP {d n sl : Nat} {φ : FH} {A B made sv svm st v x a : Nat} {comb : Nat → Nat} {hm : Nat → MV} {m : MV} (hS : x_PS φ A B made sv svm st comb hm) (hv : x_mv φ v m) (hx : x < 40) (ha : a < 40) : x_f x_P (d + 1) 59 [(6, 7, 0), (0, x, 0), (0, a, 0), (6, v, 0)] φ n sl (x_vR n sl (fun φ2 => x_PS φ2 A B made sv svm 1 comb (fun i => if i = x * 40 + a then m else hm i) ∧ ∀ j, j ≠ 7 → j ≠ 227 → φ2 j = φ j)) := by
  obtain ⟨⟨f, hP⟩, hC, held, hH, hM, hN⟩ := hS
  obtain ⟨fV, hV⟩ := x_mv_obj hv
  refine x_f_mono (e_hold hP hH hV hx ha) (fun u w φ2 n2 sl2 q => ?_)
  obtain ⟨q1, q2, q3, q4, q5, q6⟩ := q
  have e225 : ∀ j, j = 225 ∨ 486 ≤ j → φ j ≠ none → φ2 j = φ j := fun j hj _ => q6 j (by omega) (by omega)
  refine ⟨q1, q2, q3, ⟨q5, x_comb_at hC (q6 226 (by decide) (by decide)), _, q4, fun i hi => ?_, x_mv_at hN e225⟩, q6⟩
  dsimp only
  by_cases h : i = x * 40 + a
  · rw [if_pos h, if_pos h]; exact x_mv_at hv e225
  · rw [if_neg h, if_neg h]; exact x_mv_at (hM i hi) e225
theorem e_emptyP {d n sl : Nat} {φ : FH} {A B made sv svm st x : Nat} {comb : Nat → Nat} {hm : Nat → MV} (hS : x_PS φ A B made sv svm st comb hm) (hx : x < 40) : x_f x_P (d + 2) 103 [(6, 7, 0), (0, x, 0), (11, 0, 0)] φ n sl (x_vR n sl (fun φ2 => x_PS φ2 A B made sv svm 1 comb (fun i => if x * 40 ≤ i ∧ i < x * 40 + 40 then MV0 else hm i) ∧ ∀ j, j ≠ 7 → j ≠ 227 → φ2 j = φ j)) := by
  obtain ⟨⟨f, hP⟩, hC, held, hH, hM, hN⟩ := hS
  obtain ⟨fN, hN0⟩ := x_mv_obj hN
  refine x_f_mono (e_empty hx hP hH hN0) (fun u w φ2 n2 sl2 q => ?_)
  obtain ⟨q1, q2, q3, q4, q5, q6⟩ := q
  have e225 : ∀ j, j = 225 ∨ 486 ≤ j → φ j ≠ none → φ2 j = φ j := fun j hj _ => q6 j (by omega) (by omega)
  refine ⟨q1, q2, q3, ⟨q5, x_comb_at hC (q6 226 (by decide) (by decide)), _, q4, fun i hi => ?_, x_mv_at hN e225⟩, q6⟩
  dsimp only
  by_cases h : x * 40 ≤ i ∧ i < x * 40 + 40
  · rw [if_pos h, if_pos h]; exact x_mv_at hN e225
  · rw [if_neg h, if_neg h]; exact x_mv_at (hM i hi) e225
theorem e_addP {d n sl : Nat} {φ : FH} {A B made sv svm st co : Nat} {comb : Nat → Nat} {hm : Nat → MV} (hS : x_PS φ A B made sv svm st comb hm) (hx : made < 40) (hco : co < 2147483648) : x_f x_P (d + 3) 52 [(6, 7, 0), (0, co, 0), (11, 0, 0)] φ n sl (x_rR (0, made, 0) n sl (fun φ2 => x_PS φ2 A B (made + 1) sv svm 1 (fun i => if i = made then co else comb i) (fun i => if made * 40 ≤ i ∧ i < made * 40 + 40 then MV0 else hm i) ∧ ∀ j, j ≠ 7 → j ≠ 226 → j ≠ 227 → φ2 j = φ j)) := by
  obtain ⟨⟨f, hP⟩, hC, held, hH, hM, hN⟩ := hS
  obtain ⟨fN, hN0⟩ := x_mv_obj hN
  refine x_f_mono (e_add hP hC hH hN0 hx hco) (fun u w φ2 n2 sl2 q => ?_)
  obtain ⟨q1, q2, q3, q4, q5, q6, q7, q8⟩ := q
  have e225 : ∀ j, j = 225 ∨ 486 ≤ j → φ j ≠ none → φ2 j = φ j := fun j hj _ => q8 j (by omega) (by omega) (by omega)
  refine ⟨q1, q2, q3, q4, ⟨q7, q5, _, q6, fun i hi => ?_, x_mv_at hN e225⟩, q8⟩
  dsimp only
  by_cases h : made * 40 ≤ i ∧ i < made * 40 + 40
  · rw [if_pos h, if_pos h]; exact x_mv_at hN e225
  · rw [if_neg h, if_neg h]; exact x_mv_at (hM i hi) e225
theorem e_heldByP {d n sl : Nat} {φ : FH} {A B made sv svm st x a : Nat} {fP : Nat → XV} {held : Nat → Nat} (hP : x_pop φ A B made sv svm st fP) (hH : x_held φ 227 held) (hx : x < 40) (ha : a < 40) : x_f x_P (d + 1) 118 [(6, 7, 0), (0, x, 0), (0, a, 0)] φ n sl (x_r φ n sl (6, held (x * 40 + a), 0)) := by
  have h := e_heldBy (d := d) (n := n) (sl := sl) hP hH (x := x) (a := a) (by omega) (by omega)
  rw [if_pos ⟨hx, ha⟩] at h
  exact h
theorem e_without_s {d n sl : Nat} {φ : FH} {A B made sv svm st : Nat} {fP : Nat → XV} (hP : x_pop φ A B made sv svm st fP) {v k b x : Nat} {fV : Nat → XV} (hV : φ v = some (0, 10, 7, fV)) (hg : x_vg fV k b 0 0 0 0 (12, 0, 0)) (hk : k < 6) : x_f x_P (d + 2) 120 [(6, 7, 0), (6, v, 0), (0, x, 0), (11, 0, 0), (11, 0, 0), (11, 0, 0), (11, 0, 0), (11, 0, 0)] φ n sl (x_r φ n sl (6, 225, 0)) := by
  refine x_f_of rfl ?_
  refine q_load (p2 := 1) rfl rfl rfl rfl ?_
  refine q_getv (p2 := 2) rfl hV (by decide) hg.1 rfl ?_
  refine q_const (p2 := 3) rfl rfl ?_
  refine q_icmp_s (p2 := 4) rfl (by decide) (by omega) (by omega) rfl (fun hb => absurd hb (show ¬ (k = 6) by omega)) (fun _ => ?_)
  refine q_load (p2 := 5) rfl rfl rfl rfl ?_
  refine q_getv (p2 := 6) rfl hP.1 (by decide) hP.2.2.1 rfl ?_
  exact q_retv rfl rfl (⟨rfl, rfl, rfl, rfl, rfl⟩)
theorem e_withoutP {d n sl : Nat} {φ : FH} {A B made sv svm st v x : Nat} {fP : Nat → XV} {m : MV} (hP : x_pop φ A B made sv svm st fP) (hN : x_mv φ 225 MV0) (hv : x_mv φ v m) (hp : x_pv m) (hx : x < 2147483648) (hn : 486 ≤ n) : x_f x_P (d + 2) 120 [(6, 7, 0), (6, v, 0), (0, x, 0), (11, 0, 0), (11, 0, 0), (11, 0, 0), (11, 0, 0), (11, 0, 0)] φ n sl (x_bR n sl (if m.1 = 6 then 3 else 0) (if m.1 = 6 then 55 else 0) (fun w φ2 => ∃ v2, w = (6, v2, 0) ∧ x_mv φ2 v2 (x_mwo m x) ∧ ∀ j, j < n → φ2 j = φ j)) := by
  obtain ⟨h1, h2, h3, h4⟩ := hv
  rcases h4 with ⟨a1, a2, a3, a4, f, a5, a6⟩ | ⟨a1, a2, a3, a4, a5, f, c, g, a6, a7, a8, a9, a10⟩
  · refine x_f_mono (e_without_s hP a5 a6 a1) (fun u w φ2 n2 sl2 q => ?_)
    obtain ⟨q1, q2, q3, q4, q5⟩ := q
    subst q3 q4 q5
    exact ⟨q1, ⟨Nat.le_refl _, Nat.le_add_right _ _⟩, ⟨Nat.le_refl _, Nat.le_add_right _ _⟩, 225, q2, by unfold x_mwo; rw [if_neg (by omega)]; exact hN, fun _ _ => rfl⟩
  · obtain ⟨b1, b2⟩ := hp a1
    rw [b1, b2] at a8
    have hle := x_wo_le (x := x) (Nat.le_refl m.2.2.2.2.length)
    rw [List.take_length] at hle
    refine x_f_mono (e_without_set a7 a8 a9 a10 h3 a5 hx hn) (fun u w φ2 n2 sl2 q => ?_)
    obtain ⟨q1, q2, q3, q4, q5, q6⟩ := q
    subst q3 q4
    rw [if_pos a1, if_pos a1]
    refine ⟨q1, ⟨by omega, by omega⟩, ⟨by omega, by omega⟩, _, q2, ?_, q6⟩
    unfold x_mwo
    rw [if_pos a1]
    exact q5
end FPOP7
