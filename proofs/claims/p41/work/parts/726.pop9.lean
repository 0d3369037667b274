section FPOP9
theorem x_mv_agg {φ : FH} {v c so : Nat} {L : List Nat} {f g : Nat → XV} (hso : so ≤ 3) (hv : 486 ≤ v) (hc : 486 ≤ c) (h1 : φ v = some (0, 10, 7, f)) (h2 : x_vg f 6 0 so 1 5 0 (6, c, 0)) (h3 : φ c = some (6, 0, L.length, g)) (h4 : ∀ i, i < L.length → g i = (2, L.getD i 0, 0)) (h5 : ∀ i, L.getD i 0 < 2147483648) (h6 : L.length ≤ 24) : x_mv φ v (6, 0, so, 5, L) :=
  ⟨Or.inr hv, by show 0 < 2147483648; decide, h5, Or.inr ⟨rfl, rfl, hso, Nat.le_refl 5, h6, f, c, g, hc, h1, h2, h3, h4⟩⟩
/-- the numbers below p of which q holds -/
def x_fl (q : Nat → Prop) [DecidablePred q] (p : Nat) : List Nat := (List.range p).filter (fun y => decide (q y))
theorem x_fl_in {q : Nat → Prop} [DecidablePred q] {p : Nat} (h : q p) : x_fl q (p + 1) = x_fl q p ++ [p] := by
  unfold x_fl
  rw [List.range_succ, List.filter_append]
  congr 1
  rw [List.filter_cons_of_pos (by exact decide_eq_true h)]
  rfl
theorem x_fl_out {q : Nat → Prop} [DecidablePred q] {p : Nat} (h : ¬ q p) : x_fl q (p + 1) = x_fl q p := by
  unfold x_fl
  rw [List.range_succ, List.filter_append, List.filter_cons_of_neg (by exact fun z => h (of_decide_eq_true z)), List.filter_nil, List.append_nil]
theorem x_fl_le {q : Nat → Prop} [DecidablePred q] {p : Nat} : (x_fl q p).length ≤ p := by
  unfold x_fl
  have h := List.length_filter_le (fun y => decide (q y)) (List.range p)
  rw [List.length_range] at h
  exact h
theorem x_fl_lt {q : Nat → Prop} [DecidablePred q] {p : Nat} (i : Nat) : (x_fl q p).getD i 0 < p + 1 := by
  by_cases h : i < (x_fl q p).length
  · rw [List.getD_eq_getElem?_getD, List.getElem?_eq_getElem h]
    show (x_fl q p)[i] < _
    have := List.mem_range.mp (List.mem_filter.mp (List.getElem_mem h)).1
    omega
  · rw [List.getD_eq_getElem?_getD, List.getElem?_eq_none (by omega)]
    show 0 < p + 1
    omega
/-- one more, if there is room for it -/
theorem x_put24 {F : List Nat} {y left : Nat} {g f : Nat → XV} (hl : left = F.length) (hg : ∀ j, j < F.length → j < 24 → g j = (2, F.getD j 0, 0)) (h1 : f left = (2, y, 0)) (h2 : ∀ j, j ≠ left → f j = g j) : ∀ j, j < (F ++ [y]).length → j < 24 → f j = (2, (F ++ [y]).getD j 0, 0) := by
  intro j hj h24
  rw [List.length_append] at hj
  have hj : j < F.length + 1 := hj
  by_cases h : j = left
  · rw [h, h1, hl, List.getD_eq_getElem?_getD, List.getElem?_append_right (Nat.le_refl _), Nat.sub_self]; rfl
  · have h9 : j < F.length := by omega
    rw [h2 j h, hg j h9 h24, List.getD_eq_getElem?_getD, List.getD_eq_getElem?_getD, List.getElem?_append_left h9]
theorem x_put24n {F : List Nat} {y : Nat} {g : Nat → XV} (hl : 24 ≤ F.length) (hg : ∀ j, j < F.length → j < 24 → g j = (2, F.getD j 0, 0)) : ∀ j, j < (F ++ [y]).length → j < 24 → g j = (2, (F ++ [y]).getD j 0, 0) := by
  intro j hj h24
  rw [hg j (by omega) h24, List.getD_eq_getElem?_getD, List.getD_eq_getElem?_getD, List.getElem?_append_left (by omega)]
theorem e_instances {A B made sv svm st : Nat} {fP : Nat → XV} {d n sl : Nat} {φ : FH} {c so : Nat} {F : List Nat} {gc : Nat → XV} (hP : x_pop φ A B made sv svm st fP) (hN : x_mv φ 225 MV0) (hc : φ c = some (6, 0, 24, gc)) (hgc : ∀ j, j < F.length → j < 24 → gc j = (2, F.getD j 0, 0)) (hF : ∀ i, F.getD i 0 < 2147483648) (hFl : F.length < 2147483648) (hso : so ≤ 3) (hn : 486 ≤ n) : x_f x_P (d + 2) 248 [(6, 7, 0), (0, so, 0), (6, c, 0), (0, F.length, 0)] φ n sl (x_bR n sl 2 31 (fun w φ2 => ∃ v2, w = (6, v2, 0) ∧ x_mv φ2 v2 (if F.length ≤ 24 then (6, 0, so, 5, F) else MV0) ∧ ∀ j, j < n → φ2 j = φ j)) := by
  refine x_f_of rfl ?_
  refine x_n_lt (fun hlt => ?_)
  have hcn := hlt _ _ hc
  have h7n := hlt _ _ hP.1
  refine q_load (p2 := 1) rfl rfl rfl rfl ?_
  refine q_load (p2 := 2) rfl rfl rfl rfl ?_
  refine q_alen (p2 := 3) rfl hc rfl (by omega) rfl ?_
  refine q_icmp_s (p2 := 4) rfl (by decide) (by omega) (by omega) rfl (fun hb1 => ?_) (fun hb1 => ?_)
  · have hb1 : ¬ (24 < F.length) := hb1
    refine q_newE (p2 := 8) (len := 7) (g := x_gV) rfl rfl x_gV_ok rfl (fun φ2 hh2 fr2 => ?_)
    refine q_dup (p2 := 9) rfl rfl rfl ?_
    refine q_load (p2 := 10) rfl rfl rfl rfl ?_
    refine q_const (p2 := 11) rfl rfl ?_
    refine q_const (p2 := 12) rfl rfl ?_
    refine q_const (p2 := 13) rfl rfl ?_
    refine q_load (p2 := 14) rfl rfl rfl rfl ?_
    refine q_load (p2 := 15) rfl rfl rfl rfl ?_
    refine q_callrE (xs := [(0, F.length, 0), (6, c, 0)]) (p2 := 16) rfl rfl rfl rfl (x_rcv_0) rfl (e_copyOf ((fr2 c (by omega)).trans hc) (by omega) (by omega) (by omega)) (by omega) (by omega) rfl (fun φ3 hR3 => ?_)
    obtain ⟨gy3, hy3, ey3, fr3⟩ := hR3
    refine q_callvE (xs := [(6, (n + 1), 0), (0, 0, 0), (0, 5, 0), (0, 1, 0), (0, so, 0), (6, n, 0)]) (p2 := 17) rfl rfl rfl rfl (x_rcv_s n ((fr3 n (by omega)).trans hh2)) rfl (e_new5 ((fr3 n (by omega)).trans hh2)) (Nat.le_refl _) (Nat.le_refl _) rfl (fun φ4 hR4 => ?_)
    obtain ⟨⟨fv4, hv4, gv4⟩, fr4⟩ := hR4
    exact q_retv rfl rfl (⟨rfl, ⟨by omega, by omega⟩, ⟨by omega, by omega⟩, _, rfl, by rw [if_pos (by omega)]; exact x_mv_agg hso hn (show 486 ≤ n + 1 by omega) hv4 gv4 ((fr4 (n + 1) (by omega)).trans hy3) (fun i hi => (ey3 i hi).trans (hgc i hi (by omega))) hF (by omega), fun j hj => ((fr4 j (by omega)).trans ((fr3 j (by omega)).trans ((fr2 j (by omega)).trans rfl)))⟩)
  · have hb1 : ¬ (¬ (24 < F.length)) := hb1
    refine q_load (p2 := 5) rfl rfl rfl rfl ?_
    refine q_getv (p2 := 6) rfl hP.1 (by decide) hP.2.2.1 rfl ?_
    refine q_goto rfl ?_
    exact q_retv rfl rfl (⟨rfl, ⟨Nat.le_refl _, Nat.le_add_right _ _⟩, ⟨Nat.le_refl _, Nat.le_add_right _ _⟩, 225, rfl, by rw [if_neg (by omega)]; exact hN, fun _ _ => rfl⟩)
theorem e_users_loop {d x at_ a n sl A B made sv svm st : Nat} {φ0 : FH} {fP : Nat → XV} {comb held : Nat → Nat} {hm : Nat → MV} {Post : FP} (hP0 : x_pop φ0 A B made sv svm st fP) (hC0 : x_comb φ0 226 comb) (hH0 : x_held φ0 227 held) (hM0 : ∀ i, i < 1600 → x_mv φ0 (held i) (hm i)) (hx : x < 2147483648) (hat : at_ < 40) (ha486 : 486 ≤ a) (ha0 : φ0 a = none) (kk : ∀ (found : Nat) (φ : FH) (g : Nat → XV), found = (x_fl (fun y => comb y ≠ 0 ∧ x_ho (hm (y * 40 + at_)) x) made).length → φ a = some (6, 0, 24, g) → (∀ j, j < (x_fl (fun y => comb y ≠ 0 ∧ x_ho (hm (y * 40 + at_)) x) made).length → j < 24 → g j = (2, (x_fl (fun y => comb y ≠ 0 ∧ x_ho (hm (y * 40 + at_)) x) made).getD j 0, 0)) → (∀ j, j ≠ a → φ j = φ0 j) → x_n x_P (d + 2) xc_249 34 [] [(6, 7, 0), (0, x, 0), (0, at_, 0), (6, a, 0), (0, found, 0), (0, made, 0)] φ n sl Post) (k : Nat) : ∀ (y found : Nat) {φ : FH} {g : Nat → XV}, y + k = made → found = (x_fl (fun y => comb y ≠ 0 ∧ x_ho (hm (y * 40 + at_)) x) y).length → φ a = some (6, 0, 24, g) → (∀ j, j < (x_fl (fun y => comb y ≠ 0 ∧ x_ho (hm (y * 40 + at_)) x) y).length → j < 24 → g j = (2, (x_fl (fun y => comb y ≠ 0 ∧ x_ho (hm (y * 40 + at_)) x) y).getD j 0, 0)) → (∀ j, j ≠ a → φ j = φ0 j) → x_n x_P (d + 2) xc_249 7 [] [(6, 7, 0), (0, x, 0), (0, at_, 0), (6, a, 0), (0, found, 0), (0, y, 0)] φ n sl Post := by
  have hmade := x_pop_made hP0
  induction k with
  | zero =>
    intro y found φ g hyk hfd ha hga hfr
    have hy : made = y := by omega
    subst hy
    have hP : x_pop φ A B made sv svm st fP := x_pop_at hP0 (hfr 7 (by omega))
    have hC : x_comb φ 226 comb := x_comb_at hC0 (hfr 226 (by omega))
    have hH : x_held φ 227 held := x_held_at hH0 (hfr 227 (by omega))
    have hM : ∀ i, i < 1600 → x_mv φ (held i) (hm i) := fun i hi => x_mv_at (hM0 i hi) (fun j _ hj => hfr j (fun z => hj (by rw [z]; exact ha0)))
    refine q_load (p2 := 8) rfl rfl rfl rfl ?_
    refine q_load (p2 := 9) rfl rfl rfl rfl ?_
    refine q_getv (p2 := 10) rfl hP.1 (by decide) hP.2.2.2.1 rfl ?_
    refine q_icmp_s (p2 := 11) rfl (by decide) (by omega) (by omega) rfl (fun _ => ?_) (fun hb => absurd (show ¬ (made < made) by omega) hb)
    exact kk _ _ _ hfd ha hga hfr
  | succ k ih =>
    intro y found φ g hyk hfd ha hga hfr
    have hle := x_fl_le (q := fun y => comb y ≠ 0 ∧ x_ho (hm (y * 40 + at_)) x) (p := y)
    have hP : x_pop φ A B made sv svm st fP := x_pop_at hP0 (hfr 7 (by omega))
    have hC : x_comb φ 226 comb := x_comb_at hC0 (hfr 226 (by omega))
    have hH : x_held φ 227 held := x_held_at hH0 (hfr 227 (by omega))
    have hM : ∀ i, i < 1600 → x_mv φ (held i) (hm i) := fun i hi => x_mv_at (hM0 i hi) (fun j _ hj => hfr j (fun z => hj (by rw [z]; exact ha0)))
    refine q_load (p2 := 8) rfl rfl rfl rfl ?_
    refine q_load (p2 := 9) rfl rfl rfl rfl ?_
    refine q_getv (p2 := 10) rfl hP.1 (by decide) hP.2.2.2.1 rfl ?_
    refine q_icmp_s (p2 := 11) rfl (by decide) (by omega) (by omega) rfl (fun hb => absurd hb (show ¬ (¬ (y < made)) by omega)) (fun _ => ?_)
    refine q_load (p2 := 12) rfl rfl rfl rfl ?_
    refine q_load (p2 := 13) rfl rfl rfl rfl ?_
    refine q_callr (xs := [(0, y, 0), (6, 7, 0)]) (p2 := 14) rfl rfl rfl rfl (x_rcv_s 7 hP.1) rfl (e_exists hP hC (x := y) (by omega)) (Nat.le_refl _) (Nat.le_refl _) rfl ?_
    by_cases hb1 : y < made ∧ comb y ≠ 0
    · rw [if_pos hb1]
      refine q_if0_s (p2 := 15) rfl (by decide) (by omega) rfl (fun hb => absurd hb (show ¬ (1 = 0) by omega)) (fun _ => ?_)
      refine q_load (p2 := 16) rfl rfl rfl rfl ?_
      refine q_load (p2 := 17) rfl rfl rfl rfl ?_
      refine q_load (p2 := 18) rfl rfl rfl rfl ?_
      refine q_callr (xs := [(0, at_, 0), (0, y, 0), (6, 7, 0)]) (p2 := 19) rfl rfl rfl rfl (x_rcv_s 7 hP.1) rfl (e_heldByP hP hH (by omega) (by omega)) (Nat.le_refl _) (Nat.le_refl _) rfl ?_
      refine q_load (p2 := 20) rfl rfl rfl rfl ?_
      refine q_callr (xs := [(0, x, 0), (6, (held (y * 40 + at_)), 0)]) (p2 := 21) rfl rfl rfl rfl (x_rcv_0) rfl (e_isHolding (hM (y * 40 + at_) (by omega)) hx) (Nat.le_refl _) (Nat.le_refl _) rfl ?_
      by_cases hb2 : x_ho (hm (y * 40 + at_)) x
      · rw [if_pos hb2]
        refine q_if0_s (p2 := 22) rfl (by decide) (by omega) rfl (fun hb => absurd hb (show ¬ (1 = 0) by omega)) (fun _ => ?_)
        refine q_load (p2 := 23) rfl rfl rfl rfl ?_
        refine q_load (p2 := 24) rfl rfl rfl rfl ?_
        refine q_alen (p2 := 25) rfl ha rfl (by omega) rfl ?_
        refine q_icmp_s (p2 := 26) rfl (by decide) (by omega) (by omega) rfl (fun hb3 => ?_) (fun hb3 => ?_)
        · have hb3 : ¬ (found < 24) := hb3
          refine q_iinc (z := found + 1) (p2 := 32) rfl rfl (Nat.mod_eq_of_lt (by omega)) rfl rfl ?_
          refine q_iinc (z := y + 1) (p2 := 33) rfl rfl (Nat.mod_eq_of_lt (by omega)) rfl rfl ?_
          refine q_goto rfl ?_
          refine ih (y + 1) (found + 1) (by omega) (by rw [x_fl_in (q := fun y => comb y ≠ 0 ∧ x_ho (hm (y * 40 + at_)) x) ⟨hb1.2, hb2⟩, List.length_append, ← hfd]; rfl) ha (by rw [x_fl_in (q := fun y => comb y ≠ 0 ∧ x_ho (hm (y * 40 + at_)) x) ⟨hb1.2, hb2⟩]; exact x_put24n (by omega) hga) hfr
        · have hb3 : ¬ (¬ (found < 24)) := hb3
          refine q_load (p2 := 27) rfl rfl rfl rfl ?_
          refine q_load (p2 := 28) rfl rfl rfl rfl ?_
          refine q_load (p2 := 29) rfl rfl rfl rfl ?_
          refine q_i2l (p2 := 30) rfl (by omega) rfl ?_
          refine q_astE (p2 := 31) rfl ha (by omega) (by omega) (x_ok_0 rfl) (x_nv_same rfl (by decide)) rfl (fun φ4 f4 hh4 hg4 ho4 fr4 => ?_)
          refine q_iinc (z := found + 1) (p2 := 32) rfl rfl (Nat.mod_eq_of_lt (by omega)) rfl rfl ?_
          refine q_iinc (z := y + 1) (p2 := 33) rfl rfl (Nat.mod_eq_of_lt (by omega)) rfl rfl ?_
          refine q_goto rfl ?_
          refine ih (y + 1) (found + 1) (by omega) (by rw [x_fl_in (q := fun y => comb y ≠ 0 ∧ x_ho (hm (y * 40 + at_)) x) ⟨hb1.2, hb2⟩, List.length_append, ← hfd]; rfl) hh4 (by rw [x_fl_in (q := fun y => comb y ≠ 0 ∧ x_ho (hm (y * 40 + at_)) x) ⟨hb1.2, hb2⟩]; exact x_put24 hfd hga hg4 ho4) (fun j hj => (fr4 j hj).trans (hfr j hj))
      · rw [if_neg hb2]
        refine q_if0_s (p2 := 22) rfl (by decide) (by omega) rfl (fun _ => ?_) (fun hb => absurd (show 0 = 0 by omega) hb)
        refine q_iinc (z := y + 1) (p2 := 33) rfl rfl (Nat.mod_eq_of_lt (by omega)) rfl rfl ?_
        refine q_goto rfl ?_
        refine ih (y + 1) found (by omega) (by rw [x_fl_out (q := fun y => comb y ≠ 0 ∧ x_ho (hm (y * 40 + at_)) x) (fun z => hb2 z.2)]; exact hfd) ha (by rw [x_fl_out (q := fun y => comb y ≠ 0 ∧ x_ho (hm (y * 40 + at_)) x) (fun z => hb2 z.2)]; exact hga) hfr
    · rw [if_neg hb1]
      refine q_if0_s (p2 := 15) rfl (by decide) (by omega) rfl (fun _ => ?_) (fun hb => absurd (show 0 = 0 by omega) hb)
      refine q_iinc (z := y + 1) (p2 := 33) rfl rfl (Nat.mod_eq_of_lt (by omega)) rfl rfl ?_
      refine q_goto rfl ?_
      refine ih (y + 1) found (by omega) (by rw [x_fl_out (q := fun y => comb y ≠ 0 ∧ x_ho (hm (y * 40 + at_)) x) (fun z => hb1 ⟨by omega, z.1⟩)]; exact hfd) ha (by rw [x_fl_out (q := fun y => comb y ≠ 0 ∧ x_ho (hm (y * 40 + at_)) x) (fun z => hb1 ⟨by omega, z.1⟩)]; exact hga) hfr
theorem x_none {n : Nat} {φ : FH} (h : ∀ k q, φ k = some q → k < n) : φ n = none := by
  cases hq : φ n with
  | none => rfl
  | some z => exact absurd (h n z hq) (Nat.lt_irrefl n)
theorem x_some_lt {n j : Nat} {φ : FH} (h : ∀ k q, φ k = some q → k < n) (hj : φ j ≠ none) : j < n := by
  cases hq : φ j with
  | none => exact absurd hq hj
  | some z => exact h j z hq
theorem x_none_ne {n j : Nat} {φ : FH} (h : φ n = none) (hj : φ j ≠ none) : j ≠ n := fun z => hj (by rw [z]; exact h)
theorem e_users {d n sl A B made sv svm st x at_ : Nat} {φ : FH} {comb : Nat → Nat} {hm : Nat → MV} (hS : x_PS φ A B made sv svm st comb hm) (hx : x < 2147483648) (hat : at_ < 40) (hn : 486 ≤ n) : x_f x_P (d + 3) 249 [(6, 7, 0), (0, x, 0), (0, at_, 0), (11, 0, 0), (11, 0, 0), (11, 0, 0)] φ n sl (x_bR n sl 3 55 (fun w φ2 => ∃ v2, w = (6, v2, 0) ∧ x_mv φ2 v2 (if (x_fl (fun y => comb y ≠ 0 ∧ x_ho (hm (y * 40 + at_)) x) made).length ≤ 24 then (6, 0, 3, 5, (x_fl (fun y => comb y ≠ 0 ∧ x_ho (hm (y * 40 + at_)) x) made)) else MV0) ∧ ∀ j, j < n → φ2 j = φ j)) := by
  refine x_f_of rfl ?_
  refine x_n_lt (fun hlt => ?_)
  have hmade := x_PS_lt hS
  have ⟨⟨fP, hP⟩, hC, held, hH, hM, hN⟩ := hS
  refine q_const (p2 := 1) rfl rfl ?_
  refine q_newaE (p2 := 2) rfl (by omega) rfl (fun φ1 hh1 fr1 => ?_)
  refine q_store (p2 := 3) rfl rfl rfl rfl rfl ?_
  refine q_const (p2 := 4) rfl rfl ?_
  refine q_store (p2 := 5) rfl rfl rfl rfl rfl ?_
  refine q_const (p2 := 6) rfl rfl ?_
  refine q_store (p2 := 7) rfl rfl rfl rfl rfl ?_
  refine e_users_loop (a := n) hP hC hH hM hx hat hn (x_none hlt) (fun fd9 φ9 g9 hfd9 hA9 hG9 hfr9 => ?_) made 0 0 (by omega) rfl hh1 (fun j hj => absurd hj (Nat.not_lt_zero j)) fr1
  subst hfd9
  have hfle := x_fl_le (q := fun y => comb y ≠ 0 ∧ x_ho (hm (y * 40 + at_)) x) (p := made)
  have hS9 := x_PS_at hS (φ1 := φ9) (fun j _ hj => hfr9 j (x_none_ne (x_none hlt) hj))
  have ⟨⟨fP9, hP9⟩, hC9, held9, hH9, hM9, hN9⟩ := hS9
  refine q_load (p2 := 35) rfl rfl rfl rfl ?_
  refine q_const (p2 := 36) rfl rfl ?_
  refine q_load (p2 := 37) rfl rfl rfl rfl ?_
  refine q_load (p2 := 38) rfl rfl rfl rfl ?_
  refine q_callrB (xs := [(0, (x_fl (fun y => comb y ≠ 0 ∧ x_ho (hm (y * 40 + at_)) x) made).length, 0), (6, n, 0), (0, 3, 0), (6, 7, 0)]) (p2 := 39) rfl rfl rfl rfl (x_rcv_s 7 hP9.1) rfl (e_instances hP9 hN9 hA9 hG9 (fun i => Nat.lt_of_lt_of_le (x_fl_lt i) (by omega)) (by omega) (by decide) (by omega)) rfl (fun w2 φ2 n2 sl2 hn2 hN2 hs2 hT2 hR2 => ?_)
  obtain ⟨v2, rfl, hv2, hfw⟩ := hR2
  exact q_retv rfl rfl (⟨rfl, ⟨by omega, by omega⟩, ⟨by omega, by omega⟩, v2, rfl, hv2, fun j hj => (hfw j (by omega)).trans (hfr9 j (by omega))⟩)
theorem e_countUsers_loop {d n sl A B made sv svm st x at_ : Nat} {φ : FH} {fP : Nat → XV} {comb held : Nat → Nat} {hm : Nat → MV} (hP : x_pop φ A B made sv svm st fP) (hC : x_comb φ 226 comb) (hH : x_held φ 227 held) (hM : ∀ i, i < 1600 → x_mv φ (held i) (hm i)) (hx : x < 2147483648) (hat : at_ < 40) (k : Nat) : ∀ (y found : Nat), y + k = made → found = (x_fl (fun y => comb y ≠ 0 ∧ x_ho (hm (y * 40 + at_)) x) y).length → x_n x_P (d + 2) xc_205 4 [] [(6, 7, 0), (0, x, 0), (0, at_, 0), (0, found, 0), (0, y, 0)] φ n sl (x_r φ n sl (0, (x_fl (fun y => comb y ≠ 0 ∧ x_ho (hm (y * 40 + at_)) x) made).length, 0)) := by
  have hmade := x_pop_made hP
  induction k with
  | zero =>
    intro y found hyk hfd
    have hy : made = y := by omega
    subst hy
    refine q_load (p2 := 5) rfl rfl rfl rfl ?_
    refine q_load (p2 := 6) rfl rfl rfl rfl ?_
    refine q_getv (p2 := 7) rfl hP.1 (by decide) hP.2.2.2.1 rfl ?_
    refine q_icmp_s (p2 := 8) rfl (by decide) (by omega) (by omega) rfl (fun _ => ?_) (fun hb => absurd (show ¬ (made < made) by omega) hb)
    refine q_load (p2 := 28) rfl rfl rfl rfl ?_
    exact q_retv rfl rfl (⟨rfl, by rw [hfd], rfl, rfl, rfl⟩)
  | succ k ih =>
    intro y found hyk hfd
    have hle := x_fl_le (q := fun y => comb y ≠ 0 ∧ x_ho (hm (y * 40 + at_)) x) (p := y)
    refine q_load (p2 := 5) rfl rfl rfl rfl ?_
    refine q_load (p2 := 6) rfl rfl rfl rfl ?_
    refine q_getv (p2 := 7) rfl hP.1 (by decide) hP.2.2.2.1 rfl ?_
    refine q_icmp_s (p2 := 8) rfl (by decide) (by omega) (by omega) rfl (fun hb => absurd hb (show ¬ (¬ (y < made)) by omega)) (fun _ => ?_)
    refine q_load (p2 := 9) rfl rfl rfl rfl ?_
    refine q_load (p2 := 10) rfl rfl rfl rfl ?_
    refine q_load (p2 := 11) rfl rfl rfl rfl ?_
    refine q_callr (xs := [(0, y, 0), (6, 7, 0)]) (p2 := 12) rfl rfl rfl rfl (x_rcv_s 7 hP.1) rfl (e_exists hP hC (x := y) (by omega)) (Nat.le_refl _) (Nat.le_refl _) rfl ?_
    by_cases hb1 : y < made ∧ comb y ≠ 0
    · rw [if_pos hb1]
      refine q_if0_s (p2 := 13) rfl (by decide) (by omega) rfl (fun hb => absurd hb (show ¬ (1 = 0) by omega)) (fun _ => ?_)
      refine q_load (p2 := 14) rfl rfl rfl rfl ?_
      refine q_load (p2 := 15) rfl rfl rfl rfl ?_
      refine q_load (p2 := 16) rfl rfl rfl rfl ?_
      refine q_callr (xs := [(0, at_, 0), (0, y, 0), (6, 7, 0)]) (p2 := 17) rfl rfl rfl rfl (x_rcv_s 7 hP.1) rfl (e_heldByP hP hH (by omega) (by omega)) (Nat.le_refl _) (Nat.le_refl _) rfl ?_
      refine q_load (p2 := 18) rfl rfl rfl rfl ?_
      refine q_callr (xs := [(0, x, 0), (6, (held (y * 40 + at_)), 0)]) (p2 := 19) rfl rfl rfl rfl (x_rcv_0) rfl (e_isHolding (hM (y * 40 + at_) (by omega)) hx) (Nat.le_refl _) (Nat.le_refl _) rfl ?_
      by_cases hb2 : x_ho (hm (y * 40 + at_)) x
      · rw [if_pos hb2]
        refine q_if0_s (p2 := 20) rfl (by decide) (by omega) rfl (fun hb => absurd hb (show ¬ (1 = 0) by omega)) (fun _ => ?_)
        refine q_const (p2 := 21) rfl rfl ?_
        refine q_goto rfl ?_
        refine q_iadd (p2 := 24) rfl (by omega) rfl ?_
        refine q_store (p2 := 25) rfl rfl rfl rfl rfl ?_
        refine q_iinc (z := y + 1) (p2 := 26) rfl rfl (Nat.mod_eq_of_lt (by omega)) rfl rfl ?_
        refine q_goto rfl ?_
        exact ih (y + 1) (found + 1) (by omega) (by rw [x_fl_in (q := fun y => comb y ≠ 0 ∧ x_ho (hm (y * 40 + at_)) x) ⟨hb1.2, hb2⟩, List.length_append, ← hfd]; rfl)
      · rw [if_neg hb2]
        refine q_if0_s (p2 := 20) rfl (by decide) (by omega) rfl (fun _ => ?_) (fun hb => absurd (show 0 = 0 by omega) hb)
        refine q_const (p2 := 23) rfl rfl ?_
        refine q_iadd (p2 := 24) rfl (by omega) rfl ?_
        refine q_store (p2 := 25) rfl rfl rfl rfl rfl ?_
        refine q_iinc (z := y + 1) (p2 := 26) rfl rfl (Nat.mod_eq_of_lt (by omega)) rfl rfl ?_
        refine q_goto rfl ?_
        exact ih (y + 1) found (by omega) (by rw [x_fl_out (q := fun y => comb y ≠ 0 ∧ x_ho (hm (y * 40 + at_)) x) (fun z => hb2 z.2)]; exact hfd)
    · rw [if_neg hb1]
      refine q_if0_s (p2 := 13) rfl (by decide) (by omega) rfl (fun _ => ?_) (fun hb => absurd (show 0 = 0 by omega) hb)
      refine q_const (p2 := 23) rfl rfl ?_
      refine q_iadd (p2 := 24) rfl (by omega) rfl ?_
      refine q_store (p2 := 25) rfl rfl rfl rfl rfl ?_
      refine q_iinc (z := y + 1) (p2 := 26) rfl rfl (Nat.mod_eq_of_lt (by omega)) rfl rfl ?_
      refine q_goto rfl ?_
      exact ih (y + 1) found (by omega) (by rw [x_fl_out (q := fun y => comb y ≠ 0 ∧ x_ho (hm (y * 40 + at_)) x) (fun z => hb1 ⟨by omega, z.1⟩)]; exact hfd)
theorem e_countUsers {d n sl A B made sv svm st x at_ : Nat} {φ : FH} {comb : Nat → Nat} {hm : Nat → MV} (hS : x_PS φ A B made sv svm st comb hm) (hx : x < 2147483648) (hat : at_ < 40) : x_f x_P (d + 3) 205 [(6, 7, 0), (0, x, 0), (0, at_, 0), (11, 0, 0), (11, 0, 0)] φ n sl (x_r φ n sl (0, (x_fl (fun y => comb y ≠ 0 ∧ x_ho (hm (y * 40 + at_)) x) made).length, 0)) := by
  refine x_f_of rfl ?_
  have ⟨⟨fP, hP⟩, hC, held, hH, hM, hN⟩ := hS
  refine q_const (p2 := 1) rfl rfl ?_
  refine q_store (p2 := 2) rfl rfl rfl rfl rfl ?_
  refine q_const (p2 := 3) rfl rfl ?_
  refine q_store (p2 := 4) rfl rfl rfl rfl rfl ?_
  exact e_countUsers_loop hP hC hH hM hx hat made 0 0 (by omega) rfl
end FPOP9
