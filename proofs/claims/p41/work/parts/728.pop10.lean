section FPOP10
abbrev x_aq (comb : Nat → Nat) (hm : Nat → MV) (x : Nat) : Nat → Prop := fun i => comb (i / 40) ≠ 0 ∧ x_ho (hm i) x
/-- the users, each once for each of its places, among the first p places -/
def x_al (comb : Nat → Nat) (hm : Nat → MV) (x p : Nat) : List Nat := (x_fl (x_aq comb hm x) p).map (fun i => i / 40)
theorem x_al_in {comb : Nat → Nat} {hm : Nat → MV} {x y a : Nat} (ha : a < 40) (h1 : comb y ≠ 0) (h2 : x_ho (hm (y * 40 + a)) x) : x_al comb hm x (y * 40 + (a + 1)) = x_al comb hm x (y * 40 + a) ++ [y] := by
  have e : (y * 40 + a) / 40 = y := by omega
  unfold x_al
  rw [show y * 40 + (a + 1) = y * 40 + a + 1 by omega, x_fl_in (q := x_aq comb hm x) ⟨by rw [e]; exact h1, h2⟩, List.map_append]
  show _ ++ [(y * 40 + a) / 40] = _
  rw [e]
theorem x_al_out {comb : Nat → Nat} {hm : Nat → MV} {x p : Nat} (h : ¬ x_aq comb hm x p) : x_al comb hm x (p + 1) = x_al comb hm x p := by
  unfold x_al
  rw [x_fl_out h]
theorem x_al_skip {comb : Nat → Nat} {hm : Nat → MV} {x y : Nat} (h : ¬ comb y ≠ 0) (k : Nat) : ∀ a, a + k = 40 → x_al comb hm x (y * 40 + 40) = x_al comb hm x (y * 40 + a) := by
  induction k with
  | zero => intro a ha; rw [show a = 40 by omega]
  | succ k ih =>
    intro a ha
    rw [ih (a + 1) (by omega), show y * 40 + (a + 1) = y * 40 + a + 1 by omega, x_al_out (fun z => h ?_)]
    have := z.1
    rw [show (y * 40 + a) / 40 = y by omega] at this
    exact this
theorem x_al_le {comb : Nat → Nat} {hm : Nat → MV} {x p : Nat} : (x_al comb hm x p).length ≤ p := by
  unfold x_al
  rw [List.length_map]
  exact x_fl_le
theorem x_al_lt {comb : Nat → Nat} {hm : Nat → MV} {x p : Nat} (i : Nat) : (x_al comb hm x p).getD i 0 < p + 1 := by
  unfold x_al
  by_cases h : i < (x_fl (x_aq comb hm x) p).length
  · have h2 := x_fl_lt (q := x_aq comb hm x) (p := p) i
    rw [List.getD_eq_getElem?_getD, List.getElem?_eq_getElem h] at h2
    rw [List.getD_eq_getElem?_getD, List.getElem?_map, List.getElem?_eq_getElem h]
    show (x_fl (x_aq comb hm x) p)[i] / 40 < _
    have h2 : (x_fl (x_aq comb hm x) p)[i] < p + 1 := h2
    omega
  · rw [List.getD_eq_getElem?_getD, List.getElem?_map, List.getElem?_eq_none (by omega)]
    show 0 < p + 1
    omega
theorem e_au_in {d x a_ n sl A B made sv svm st : Nat} {φ0 : FH} {fP : Nat → XV} {comb held : Nat → Nat} {hm : Nat → MV} {Post : FP} (hP0 : x_pop φ0 A B made sv svm st fP) (hC0 : x_comb φ0 226 comb) (hH0 : x_held φ0 227 held) (hM0 : ∀ i, i < 1600 → x_mv φ0 (held i) (hm i)) (hx : x < 2147483648) (ha486 : 486 ≤ a_) (ha0 : φ0 a_ = none) {y : Nat} (hy : y < made) (kk : ∀ (found : Nat) (φ : FH) (g : Nat → XV) (q : XV), found = (x_al comb hm x (y * 40 + 40)).length → φ a_ = some (6, 0, 24, g) → (∀ j, j < (x_al comb hm x (y * 40 + 40)).length → j < 24 → g j = (2, (x_al comb hm x (y * 40 + 40)).getD j 0, 0)) → (∀ j, j ≠ a_ → φ j = φ0 j) → x_n x_P (d + 2) xc_259 39 [] [(6, 7, 0), (0, x, 0), (6, a_, 0), (0, found, 0), (0, y, 0), q] φ n sl Post) (k : Nat) : ∀ (a found : Nat) {φ : FH} {g : Nat → XV}, a + k = 40 → found = (x_al comb hm x (y * 40 + a)).length → φ a_ = some (6, 0, 24, g) → (∀ j, j < (x_al comb hm x (y * 40 + a)).length → j < 24 → g j = (2, (x_al comb hm x (y * 40 + a)).getD j 0, 0)) → (∀ j, j ≠ a_ → φ j = φ0 j) → x_n x_P (d + 2) xc_259 13 [] [(6, 7, 0), (0, x, 0), (6, a_, 0), (0, found, 0), (0, y, 0), (0, a, 0)] φ n sl Post := by
  have hmade := x_pop_made hP0
  induction k with
  | zero =>
    intro a found φ g hyk hfd ha hga hfr
    have hy : 40 = a := by omega
    subst hy
    have hP : x_pop φ A B made sv svm st fP := x_pop_at hP0 (hfr 7 (by omega))
    have hC : x_comb φ 226 comb := x_comb_at hC0 (hfr 226 (by omega))
    have hH : x_held φ 227 held := x_held_at hH0 (hfr 227 (by omega))
    have hM : ∀ i, i < 1600 → x_mv φ (held i) (hm i) := fun i hi => x_mv_at (hM0 i hi) (fun j _ hj => hfr j (fun z => hj (by rw [z]; exact ha0)))
    refine q_load (p2 := 14) rfl rfl rfl rfl ?_
    refine q_const (p2 := 15) rfl rfl ?_
    refine q_icmp_s (p2 := 16) rfl (by decide) (by omega) (by omega) rfl (fun _ => ?_) (fun hb => absurd (show ¬ (40 < 40) by omega) hb)
    exact kk _ _ _ _ hfd ha hga hfr
  | succ k ih =>
    intro a found φ g hyk hfd ha hga hfr
    have hle := x_al_le (comb := comb) (hm := hm) (x := x) (p := y * 40 + a)
    have hP : x_pop φ A B made sv svm st fP := x_pop_at hP0 (hfr 7 (by omega))
    have hC : x_comb φ 226 comb := x_comb_at hC0 (hfr 226 (by omega))
    have hH : x_held φ 227 held := x_held_at hH0 (hfr 227 (by omega))
    have hM : ∀ i, i < 1600 → x_mv φ (held i) (hm i) := fun i hi => x_mv_at (hM0 i hi) (fun j _ hj => hfr j (fun z => hj (by rw [z]; exact ha0)))
    refine q_load (p2 := 14) rfl rfl rfl rfl ?_
    refine q_const (p2 := 15) rfl rfl ?_
    refine q_icmp_s (p2 := 16) rfl (by decide) (by omega) (by omega) rfl (fun hb => absurd hb (show ¬ (¬ (a < 40)) by omega)) (fun _ => ?_)
    refine q_load (p2 := 17) rfl rfl rfl rfl ?_
    refine q_load (p2 := 18) rfl rfl rfl rfl ?_
    refine q_callr (xs := [(0, y, 0), (6, 7, 0)]) (p2 := 19) rfl rfl rfl rfl (x_rcv_s 7 hP.1) rfl (e_exists hP hC (x := y) (by omega)) (Nat.le_refl _) (Nat.le_refl _) rfl ?_
    by_cases hb1 : y < made ∧ comb y ≠ 0
    · rw [if_pos hb1]
      refine q_if0_s (p2 := 20) rfl (by decide) (by omega) rfl (fun hb => absurd hb (show ¬ (1 = 0) by omega)) (fun _ => ?_)
      refine q_load (p2 := 21) rfl rfl rfl rfl ?_
      refine q_load (p2 := 22) rfl rfl rfl rfl ?_
      refine q_load (p2 := 23) rfl rfl rfl rfl ?_
      refine q_callr (xs := [(0, a, 0), (0, y, 0), (6, 7, 0)]) (p2 := 24) rfl rfl rfl rfl (x_rcv_s 7 hP.1) rfl (e_heldByP hP hH (by omega) (by omega)) (Nat.le_refl _) (Nat.le_refl _) rfl ?_
      refine q_load (p2 := 25) rfl rfl rfl rfl ?_
      refine q_callr (xs := [(0, x, 0), (6, (held (y * 40 + a)), 0)]) (p2 := 26) rfl rfl rfl rfl (x_rcv_0) rfl (e_isHolding (hM (y * 40 + a) (by omega)) hx) (Nat.le_refl _) (Nat.le_refl _) rfl ?_
      by_cases hb2 : x_ho (hm (y * 40 + a)) x
      · rw [if_pos hb2]
        refine q_if0_s (p2 := 27) rfl (by decide) (by omega) rfl (fun hb => absurd hb (show ¬ (1 = 0) by omega)) (fun _ => ?_)
        refine q_load (p2 := 28) rfl rfl rfl rfl ?_
        refine q_load (p2 := 29) rfl rfl rfl rfl ?_
        refine q_alen (p2 := 30) rfl ha rfl (by omega) rfl ?_
        refine q_icmp_s (p2 := 31) rfl (by decide) (by omega) (by omega) rfl (fun hb3 => ?_) (fun hb3 => ?_)
        · have hb3 : ¬ (found < 24) := hb3
          refine q_iinc (z := found + 1) (p2 := 37) rfl rfl (Nat.mod_eq_of_lt (by omega)) rfl rfl ?_
          refine q_iinc (z := a + 1) (p2 := 38) rfl rfl (Nat.mod_eq_of_lt (by omega)) rfl rfl ?_
          refine q_goto rfl ?_
          refine ih (a + 1) (found + 1) (by omega) (by rw [x_al_in (by omega) hb1.2 hb2, List.length_append, ← hfd]; rfl) ha (by rw [x_al_in (by omega) hb1.2 hb2]; exact x_put24n (by omega) hga) hfr
        · have hb3 : ¬ (¬ (found < 24)) := hb3
          refine q_load (p2 := 32) rfl rfl rfl rfl ?_
          refine q_load (p2 := 33) rfl rfl rfl rfl ?_
          refine q_load (p2 := 34) rfl rfl rfl rfl ?_
          refine q_i2l (p2 := 35) rfl (by omega) rfl ?_
          refine q_astE (p2 := 36) rfl ha (by omega) (by omega) (x_ok_0 rfl) (x_nv_same rfl (by decide)) rfl (fun φ4 f4 hh4 hg4 ho4 fr4 => ?_)
          refine q_iinc (z := found + 1) (p2 := 37) rfl rfl (Nat.mod_eq_of_lt (by omega)) rfl rfl ?_
          refine q_iinc (z := a + 1) (p2 := 38) rfl rfl (Nat.mod_eq_of_lt (by omega)) rfl rfl ?_
          refine q_goto rfl ?_
          refine ih (a + 1) (found + 1) (by omega) (by rw [x_al_in (by omega) hb1.2 hb2, List.length_append, ← hfd]; rfl) hh4 (by rw [x_al_in (by omega) hb1.2 hb2]; exact x_put24 hfd hga hg4 ho4) (fun j hj => (fr4 j hj).trans (hfr j hj))
      · rw [if_neg hb2]
        refine q_if0_s (p2 := 27) rfl (by decide) (by omega) rfl (fun _ => ?_) (fun hb => absurd (show 0 = 0 by omega) hb)
        refine q_iinc (z := a + 1) (p2 := 38) rfl rfl (Nat.mod_eq_of_lt (by omega)) rfl rfl ?_
        refine q_goto rfl ?_
        have eo := x_al_out (comb := comb) (hm := hm) (x := x) (p := y * 40 + a) (fun z => hb2 z.2)
        refine ih (a + 1) found (by omega) (by rw [show y * 40 + (a + 1) = y * 40 + a + 1 by omega, eo]; exact hfd) ha (by rw [show y * 40 + (a + 1) = y * 40 + a + 1 by omega, eo]; exact hga) hfr
    · rw [if_neg hb1]
      refine q_if0_s (p2 := 20) rfl (by decide) (by omega) rfl (fun _ => ?_) (fun hb => absurd (show 0 = 0 by omega) hb)
      have es := x_al_skip (comb := comb) (hm := hm) (x := x) (y := y) (fun z => hb1 ⟨by omega, z⟩) (k + 1) a (by omega)
      refine kk _ _ _ _ (by rw [es]; exact hfd) ha (by rw [es]; exact hga) hfr
theorem e_au_out {d x a_ n sl A B made sv svm st : Nat} {φ0 : FH} {fP : Nat → XV} {comb held : Nat → Nat} {hm : Nat → MV} {Post : FP} (hP0 : x_pop φ0 A B made sv svm st fP) (hC0 : x_comb φ0 226 comb) (hH0 : x_held φ0 227 held) (hM0 : ∀ i, i < 1600 → x_mv φ0 (held i) (hm i)) (hx : x < 2147483648) (ha486 : 486 ≤ a_) (ha0 : φ0 a_ = none) (kk : ∀ (found : Nat) (φ : FH) (g : Nat → XV) (q : XV), found = (x_al comb hm x (made * 40)).length → φ a_ = some (6, 0, 24, g) → (∀ j, j < (x_al comb hm x (made * 40)).length → j < 24 → g j = (2, (x_al comb hm x (made * 40)).getD j 0, 0)) → (∀ j, j ≠ a_ → φ j = φ0 j) → x_n x_P (d + 2) xc_259 41 [] [(6, 7, 0), (0, x, 0), (6, a_, 0), (0, found, 0), (0, made, 0), q] φ n sl Post) (k : Nat) : ∀ (y found : Nat) {φ : FH} {g : Nat → XV} {q : XV}, y + k = made → found = (x_al comb hm x (y * 40)).length → φ a_ = some (6, 0, 24, g) → (∀ j, j < (x_al comb hm x (y * 40)).length → j < 24 → g j = (2, (x_al comb hm x (y * 40)).getD j 0, 0)) → (∀ j, j ≠ a_ → φ j = φ0 j) → x_n x_P (d + 2) xc_259 7 [] [(6, 7, 0), (0, x, 0), (6, a_, 0), (0, found, 0), (0, y, 0), q] φ n sl Post := by
  have hmade := x_pop_made hP0
  induction k with
  | zero =>
    intro y found φ g q hyk hfd ha hga hfr
    have hy : made = y := by omega
    subst hy
    have hP : x_pop φ A B made sv svm st fP := x_pop_at hP0 (hfr 7 (by omega))
    have hC : x_comb φ 226 comb := x_comb_at hC0 (hfr 226 (by omega))
    have hH : x_held φ 227 held := x_held_at hH0 (hfr 227 (by omega))
    have hM : ∀ i, i < 1600 → x_mv φ (held i) (hm i) := fun i hi => x_mv_at (hM0 i hi) (fun j _ hj => hfr j (fun z => hj (by rw [z]; exact ha0)))
    refine q_load (p2 := 8) rfl rfl rfl rfl ?_
    refine q_load (p2 := 9) rfl rfl rfl rfl ?_
    refine q_getv (p2 := 10) rfl hP.1 (by decide) hP.2.2.2.1 rfl ?_
    refine q_icmp_s (p2 := 11) rfl (by decide) (by omega) (by omega) rfl (fun _ => ?_) (fun hb => absurd (show ¬ (made < made) by omega) hb)
    exact kk _ _ _ _ hfd ha hga hfr
  | succ k ih =>
    intro y found φ g q hyk hfd ha hga hfr
    have hP : x_pop φ A B made sv svm st fP := x_pop_at hP0 (hfr 7 (by omega))
    have hC : x_comb φ 226 comb := x_comb_at hC0 (hfr 226 (by omega))
    have hH : x_held φ 227 held := x_held_at hH0 (hfr 227 (by omega))
    have hM : ∀ i, i < 1600 → x_mv φ (held i) (hm i) := fun i hi => x_mv_at (hM0 i hi) (fun j _ hj => hfr j (fun z => hj (by rw [z]; exact ha0)))
    refine q_load (p2 := 8) rfl rfl rfl rfl ?_
    refine q_load (p2 := 9) rfl rfl rfl rfl ?_
    refine q_getv (p2 := 10) rfl hP.1 (by decide) hP.2.2.2.1 rfl ?_
    refine q_icmp_s (p2 := 11) rfl (by decide) (by omega) (by omega) rfl (fun hb => absurd hb (show ¬ (¬ (y < made)) by omega)) (fun _ => ?_)
    refine q_const (p2 := 12) rfl rfl ?_
    refine q_store (p2 := 13) rfl rfl rfl rfl rfl ?_
    refine e_au_in hP0 hC0 hH0 hM0 hx ha486 ha0 (y := y) (by omega) (fun fd φ9 g9 q9 gfd gA gG gfr => ?_) 40 0 found rfl hfd ha hga hfr
    refine q_iinc (z := y + 1) (p2 := 40) rfl rfl (Nat.mod_eq_of_lt (by omega)) rfl rfl ?_
    refine q_goto rfl ?_
    have e40 : y * 40 + 40 = (y + 1) * 40 := by omega
    rw [e40] at gfd gG
    exact ih (y + 1) fd (by omega) gfd gA gG gfr
theorem e_allUsers {d n sl A B made sv svm st x : Nat} {φ : FH} {comb : Nat → Nat} {hm : Nat → MV} (hS : x_PS φ A B made sv svm st comb hm) (hx : x < 2147483648) (hn : 486 ≤ n) : x_f x_P (d + 3) 259 [(6, 7, 0), (0, x, 0), (11, 0, 0), (11, 0, 0), (11, 0, 0), (11, 0, 0)] φ n sl (x_bR n sl 3 55 (fun w φ2 => ∃ v2, w = (6, v2, 0) ∧ x_mv φ2 v2 (if (x_al comb hm x (made * 40)).length ≤ 24 then (6, 0, 2, 5, (x_al comb hm x (made * 40))) else MV0) ∧ ∀ j, j < n → φ2 j = φ j)) := by
  refine x_f_of rfl ?_
  refine x_n_lt (fun hlt => ?_)
  have hmade := x_PS_lt hS
  have ⟨⟨fP, hP⟩, hC, held, hH, hM, hN⟩ := hS
  refine q_const (p2 := 1) rfl rfl ?_
  refine q_newaE (p2 := 2) rfl (by omega) rfl (fun φ1 hh1 fr1 => ?_)
  refine q_store (p2 := 3) rfl rfl rfl rfl rfl ?_
  refine q_const (p2 := 4) rfl rfl ?_
  refine q_store (p2 := 5) rfl rfl rfl rfl rfl ?_
  refine q_const (p2 := 6) rfl rfl ?_
  refine q_store (p2 := 7) rfl rfl rfl rfl rfl ?_
  refine e_au_out (a_ := n) hP hC hH hM hx hn (x_none hlt) (fun fd9 φ9 g9 q9 hfd9 hA9 hG9 hfr9 => ?_) made 0 0 (by omega) (by rw [Nat.zero_mul]; rfl) hh1 (by rw [Nat.zero_mul]; exact fun j hj => absurd hj (Nat.not_lt_zero j)) fr1
  subst hfd9
  have hfle := x_al_le (comb := comb) (hm := hm) (x := x) (p := made * 40)
  have hS9 := x_PS_at hS (φ1 := φ9) (fun j _ hj => hfr9 j (x_none_ne (x_none hlt) hj))
  have ⟨⟨fP9, hP9⟩, hC9, held9, hH9, hM9, hN9⟩ := hS9
  refine q_load (p2 := 42) rfl rfl rfl rfl ?_
  refine q_const (p2 := 43) rfl rfl ?_
  refine q_load (p2 := 44) rfl rfl rfl rfl ?_
  refine q_load (p2 := 45) rfl rfl rfl rfl ?_
  refine q_callrB (xs := [(0, (x_al comb hm x (made * 40)).length, 0), (6, n, 0), (0, 2, 0), (6, 7, 0)]) (p2 := 46) rfl rfl rfl rfl (x_rcv_s 7 hP9.1) rfl (e_instances hP9 hN9 hA9 hG9 (fun i => Nat.lt_of_lt_of_le (x_al_lt i) (by omega)) (by omega) (by decide) (by omega)) rfl (fun w2 φ2 n2 sl2 hn2 hN2 hs2 hT2 hR2 => ?_)
  obtain ⟨v2, rfl, hv2, hfw⟩ := hR2
  exact q_retv rfl rfl (⟨rfl, ⟨by omega, by omega⟩, ⟨by omega, by omega⟩, v2, rfl, hv2, fun j hj => (hfw j (by omega)).trans (hfr9 j (by omega))⟩)
theorem e_existing_loop {d n sl A B made sv svm st : Nat} {φ : FH} {fP : Nat → XV} {comb : Nat → Nat} (hP : x_pop φ A B made sv svm st fP) (hC : x_comb φ 226 comb) (k : Nat) : ∀ (y found : Nat), y + k = made → found = (x_fl (fun y => comb y ≠ 0) y).length → x_n x_P (d + 1) xc_76 4 [] [(6, 7, 0), (0, found, 0), (0, y, 0)] φ n sl (x_r φ n sl (0, (x_fl (fun y => comb y ≠ 0) made).length, 0)) := by
  have hmade := x_pop_made hP
  induction k with
  | zero =>
    intro y found hyk hfd
    have hy : made = y := by omega
    subst hy
    refine q_load (p2 := 5) rfl rfl rfl rfl ?_
    refine q_load (p2 := 6) rfl rfl rfl rfl ?_
    refine q_getv (p2 := 7) rfl hP.1 (by decide) hP.2.2.2.1 rfl ?_
    refine q_icmp_s (p2 := 8) rfl (by decide) (by omega) (by omega) rfl (fun _ => ?_) (fun hb => absurd (show ¬ (made < made) by omega) hb)
    refine q_load (p2 := 21) rfl rfl rfl rfl ?_
    exact q_retv rfl rfl (⟨rfl, by rw [hfd], rfl, rfl, rfl⟩)
  | succ k ih =>
    intro y found hyk hfd
    have hle := x_fl_le (q := fun y => comb y ≠ 0) (p := y)
    refine q_load (p2 := 5) rfl rfl rfl rfl ?_
    refine q_load (p2 := 6) rfl rfl rfl rfl ?_
    refine q_getv (p2 := 7) rfl hP.1 (by decide) hP.2.2.2.1 rfl ?_
    refine q_icmp_s (p2 := 8) rfl (by decide) (by omega) (by omega) rfl (fun hb => absurd hb (show ¬ (¬ (y < made)) by omega)) (fun _ => ?_)
    refine q_load (p2 := 9) rfl rfl rfl rfl ?_
    refine q_load (p2 := 10) rfl rfl rfl rfl ?_
    refine q_load (p2 := 11) rfl rfl rfl rfl ?_
    refine q_callr (xs := [(0, y, 0), (6, 7, 0)]) (p2 := 12) rfl rfl rfl rfl (x_rcv_s 7 hP.1) rfl (e_exists hP hC (x := y) (by omega)) (Nat.le_refl _) (Nat.le_refl _) rfl ?_
    by_cases hb1 : y < made ∧ comb y ≠ 0
    · rw [if_pos hb1]
      refine q_if0_s (p2 := 13) rfl (by decide) (by omega) rfl (fun hb => absurd hb (show ¬ (1 = 0) by omega)) (fun _ => ?_)
      refine q_const (p2 := 14) rfl rfl ?_
      refine q_goto rfl ?_
      refine q_iadd (p2 := 17) rfl (by omega) rfl ?_
      refine q_store (p2 := 18) rfl rfl rfl rfl rfl ?_
      refine q_iinc (z := y + 1) (p2 := 19) rfl rfl (Nat.mod_eq_of_lt (by omega)) rfl rfl ?_
      refine q_goto rfl ?_
      exact ih (y + 1) (found + 1) (by omega) (by rw [x_fl_in (q := fun y => comb y ≠ 0) hb1.2, List.length_append, ← hfd]; rfl)
    · rw [if_neg hb1]
      refine q_if0_s (p2 := 13) rfl (by decide) (by omega) rfl (fun _ => ?_) (fun hb => absurd (show 0 = 0 by omega) hb)
      refine q_const (p2 := 16) rfl rfl ?_
      refine q_iadd (p2 := 17) rfl (by omega) rfl ?_
      refine q_store (p2 := 18) rfl rfl rfl rfl rfl ?_
      refine q_iinc (z := y + 1) (p2 := 19) rfl rfl (Nat.mod_eq_of_lt (by omega)) rfl rfl ?_
      refine q_goto rfl ?_
      exact ih (y + 1) found (by omega) (by rw [x_fl_out (q := fun y => comb y ≠ 0) (fun z => hb1 ⟨by omega, z⟩)]; exact hfd)
theorem e_existing {d n sl A B made sv svm st : Nat} {φ : FH} {comb : Nat → Nat} {hm : Nat → MV} (hS : x_PS φ A B made sv svm st comb hm) : x_f x_P (d + 2) 76 [(6, 7, 0), (11, 0, 0), (11, 0, 0)] φ n sl (x_r φ n sl (0, (x_fl (fun y => comb y ≠ 0) made).length, 0)) := by
  refine x_f_of rfl ?_
  have ⟨⟨fP, hP⟩, hC, held, hH, hM, hN⟩ := hS
  refine q_const (p2 := 1) rfl rfl ?_
  refine q_store (p2 := 2) rfl rfl rfl rfl rfl ?_
  refine q_const (p2 := 3) rfl rfl ?_
  refine q_store (p2 := 4) rfl rfl rfl rfl rfl ?_
  exact e_existing_loop hP hC made 0 0 (by omega) rfl
end FPOP10
