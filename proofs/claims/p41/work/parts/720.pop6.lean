section FPOP6
/-- the numbers that aren't x -/
def x_wo (x : Nat) (L : List Nat) : List Nat := L.filter (fun a => decide (a ≠ x))
theorem x_wo_in {L : List Nat} {x i : Nat} (hi : i < L.length) (h : L.getD i 0 ≠ x) : x_wo x (L.take (i + 1)) = x_wo x (L.take i) ++ [L.getD i 0] := by
  rw [List.getD_eq_getElem?_getD, List.getElem?_eq_getElem hi] at h ⊢
  unfold x_wo
  rw [List.take_add_one, List.getElem?_eq_getElem hi, List.filter_append]
  congr 1
  show List.filter _ [L[i]] = [L[i]]
  rw [List.filter_cons_of_pos (by exact decide_eq_true h)]
  rfl
theorem x_wo_out {L : List Nat} {x i : Nat} (hi : i < L.length) (h : L.getD i 0 = x) : x_wo x (L.take (i + 1)) = x_wo x (L.take i) := by
  rw [List.getD_eq_getElem?_getD, List.getElem?_eq_getElem hi] at h
  unfold x_wo
  rw [List.take_add_one, List.getElem?_eq_getElem hi, List.filter_append]
  show _ ++ List.filter _ [L[i]] = _
  rw [List.filter_cons_of_neg (by exact fun z => of_decide_eq_true z h), List.filter_nil, List.append_nil]
theorem x_wo_le {L : List Nat} {x i : Nat} (hi : i ≤ L.length) : (x_wo x (L.take i)).length ≤ i := by
  unfold x_wo
  have h := List.length_filter_le (fun a => decide (a ≠ x)) (L.take i)
  rw [List.length_take] at h
  omega
theorem x_put_end {F : List Nat} {y left : Nat} {g f : Nat → XV} (hl : left = F.length) (hg : ∀ j, j < F.length → g j = (2, F.getD j 0, 0)) (h1 : f left = (2, y, 0)) (h2 : ∀ j, j ≠ left → f j = g j) : ∀ j, j < (F ++ [y]).length → f j = (2, (F ++ [y]).getD j 0, 0) := by
  intro j hj
  rw [List.length_append] at hj
  have hj : j < F.length + 1 := hj
  by_cases h : j = left
  · rw [h, h1, hl, List.getD_eq_getElem?_getD, List.getElem?_append_right (Nat.le_refl _), Nat.sub_self]; rfl
  · have h9 : j < F.length := by omega
    rw [h2 j h, hg j h9, List.getD_eq_getElem?_getD, List.getD_eq_getElem?_getD, List.getElem?_append_left h9]
theorem e_without_loop {d n sl v c x a : Nat} {L : List Nat} {fV gc : Nat → XV} {Post : FP} (hg : x_vg fV 6 0 3 1 5 0 (6, c, 0)) (hgc : ∀ i, i < L.length → gc i = (2, L.getD i 0, 0)) (hL : ∀ i, L.getD i 0 < 2147483648) (hl : L.length ≤ 24) (hx : x < 2147483648) (hav : a ≠ v) (hac : a ≠ c) (k : Nat) :
    ∀ (i left : Nat) {φ : FH} {g : Nat → XV} {q : XV}, i + k = L.length → left = (x_wo x (L.take i)).length → φ v = some (0, 10, 7, fV) → φ c = some (6, 0, L.length, gc) → φ a = some (6, 0, L.length, g) → (∀ j, j < (x_wo x (L.take i)).length → g j = (2, (x_wo x (L.take i)).getD j 0, 0)) →
    (∀ (φ9 : FH) (g9 : Nat → XV) (q9 : XV), φ9 a = some (6, 0, L.length, g9) → (∀ j, j < (x_wo x L).length → g9 j = (2, (x_wo x L).getD j 0, 0)) → (∀ j, j ≠ a → φ9 j = φ j) → x_n x_P (d + 1) xc_120 72 [] [(6, 7, 0), (6, v, 0), (0, x, 0), (6, a, 0), (0, 0, 0), (0, (x_wo x L).length, 0), (0, L.length, 0), q9] φ9 n sl Post) →
    x_n x_P (d + 1) xc_120 19 [] [(6, 7, 0), (6, v, 0), (0, x, 0), (6, a, 0), (0, 0, 0), (0, left, 0), (0, i, 0), q] φ n sl Post := by
  induction k with
  | zero =>
    intro i left φ g q hik hleft hV hc ha hga kk
    have hi : i = L.length := by omega
    subst hi
    rw [List.take_length] at hleft hga
    subst hleft
    refine q_load (p2 := 20) rfl rfl rfl rfl ?_
    refine q_load (p2 := 21) rfl rfl rfl rfl ?_
    refine q_alen (p2 := 22) rfl ha rfl (by omega) rfl ?_
    refine q_icmp_s (p2 := 23) rfl (by decide) (by omega) (by omega) rfl (fun _ => ?_) (fun hb => absurd (show ¬ (L.length < L.length) by omega) hb)
    exact kk φ g q ha hga (fun j _ => rfl)
  | succ k ih =>
    intro i left φ g q hik hleft hV hc ha hga kk
    have hLi := hL i
    have hle := x_wo_le (x := x) (show i ≤ L.length by omega)
    refine q_load (p2 := 20) rfl rfl rfl rfl ?_
    refine q_load (p2 := 21) rfl rfl rfl rfl ?_
    refine q_alen (p2 := 22) rfl ha rfl (by omega) rfl ?_
    refine q_icmp_s (p2 := 23) rfl (by decide) (by omega) (by omega) rfl (fun hb => absurd hb (show ¬ (¬ (i < L.length)) by omega)) (fun _ => ?_)
    refine q_load (p2 := 24) rfl rfl rfl rfl ?_
    refine q_getv (p2 := 25) rfl hV (by decide) hg.2.2.2.2.2.2 rfl ?_
    refine q_load (p2 := 26) rfl rfl rfl rfl ?_
    refine q_aldv (v := (2, (L.getD (i) 0), 0)) (p2 := 27) rfl hc (by omega) (by omega) (hgc (i) (by omega)) rfl ?_
    refine q_load (p2 := 28) rfl rfl rfl rfl ?_
    refine q_i2l (p2 := 29) rfl (by omega) rfl ?_
    refine q_lcif (p2 := 31) rfl rfl (by decide) (by omega) (by omega) rfl (fun hb1 => ?_) (fun hb1 => ?_)
    · have hb1 : ¬ ((L.getD (i) 0) = x) := hb1
      refine q_const (p2 := 38) rfl rfl ?_
      refine q_store (p2 := 39) rfl rfl rfl rfl rfl ?_
      refine q_load (p2 := 40) rfl rfl rfl rfl ?_
      refine q_getv (p2 := 41) rfl hV (by decide) hg.2.2.1 rfl ?_
      refine q_if0_s (p2 := 42) rfl (by decide) (by omega) rfl (fun _ => ?_) (fun hb => absurd (show ¬ (3 = 0) by omega) hb)
      refine q_load (p2 := 61) rfl rfl rfl rfl ?_
      refine q_if0_s (p2 := 62) rfl (by decide) (by omega) rfl (fun hb => absurd hb (show ¬ (¬ (0 = 0)) by omega)) (fun _ => ?_)
      refine q_load (p2 := 63) rfl rfl rfl rfl ?_
      refine q_load (p2 := 64) rfl rfl rfl rfl ?_
      refine q_load (p2 := 65) rfl rfl rfl rfl ?_
      refine q_getv (p2 := 66) rfl hV (by decide) hg.2.2.2.2.2.2 rfl ?_
      refine q_load (p2 := 67) rfl rfl rfl rfl ?_
      refine q_aldv (v := (2, (L.getD (i) 0), 0)) (p2 := 68) rfl hc (by omega) (by omega) (hgc (i) (by omega)) rfl ?_
      refine q_astE (p2 := 69) rfl ha (by omega) (by omega) (x_ok_0 rfl) (x_nv_same rfl (by decide)) rfl (fun φ2 f2 hh2 hg2 ho2 fr2 => ?_)
      refine q_iinc (z := left + 1) (p2 := 70) rfl rfl (Nat.mod_eq_of_lt (by omega)) rfl rfl ?_
      refine q_iinc (z := i + 1) (p2 := 71) rfl rfl (Nat.mod_eq_of_lt (by omega)) rfl rfl ?_
      refine q_goto rfl ?_
      refine ih (i + 1) (left + 1) (by omega) (by rw [x_wo_in (by omega) (by omega), List.length_append, ← hleft]; rfl) ((fr2 v (by omega)).trans hV) ((fr2 c (by omega)).trans hc) hh2 (by rw [x_wo_in (by omega) (by omega)]; exact x_put_end hleft hga hg2 ho2) (fun φ9 g9 q9 e1 e2 e3 => kk φ9 g9 q9 e1 e2 (fun j hj => (e3 j hj).trans (fr2 j hj)))
    · have hb1 : ¬ (¬ ((L.getD (i) 0) = x)) := hb1
      refine q_load (p2 := 32) rfl rfl rfl rfl ?_
      refine q_load (p2 := 33) rfl rfl rfl rfl ?_
      refine q_callr (xs := [(0, i, 0), (6, v, 0)]) (p2 := 34) rfl rfl rfl rfl (x_rcv_s v hV) rfl (e_isHole hV hg (i := i) (by omega)) (Nat.le_refl _) (Nat.le_refl _) rfl ?_
      refine q_if0_s (p2 := 35) rfl (by decide) (by omega) rfl (fun hb => absurd hb (show ¬ (¬ (0 = 0)) by omega)) (fun _ => ?_)
      refine q_const (p2 := 36) rfl rfl ?_
      refine q_goto rfl ?_
      refine q_store (p2 := 39) rfl rfl rfl rfl rfl ?_
      refine q_load (p2 := 40) rfl rfl rfl rfl ?_
      refine q_getv (p2 := 41) rfl hV (by decide) hg.2.2.1 rfl ?_
      refine q_if0_s (p2 := 42) rfl (by decide) (by omega) rfl (fun _ => ?_) (fun hb => absurd (show ¬ (3 = 0) by omega) hb)
      refine q_load (p2 := 61) rfl rfl rfl rfl ?_
      refine q_if0_s (p2 := 62) rfl (by decide) (by omega) rfl (fun _ => ?_) (fun hb => absurd (show ¬ (1 = 0) by omega) hb)
      refine q_iinc (z := i + 1) (p2 := 71) rfl rfl (Nat.mod_eq_of_lt (by omega)) rfl rfl ?_
      refine q_goto rfl ?_
      exact ih (i + 1) left (by omega) (by rw [x_wo_out (by omega) (by omega)]; exact hleft) hV hc ha (by rw [x_wo_out (by omega) (by omega)]; exact hga) kk
theorem x_mv_set {φ : FH} {v c : Nat} {L : List Nat} {f g : Nat → XV} (hv : 486 ≤ v) (hc : 486 ≤ c) (h1 : φ v = some (0, 10, 7, f)) (h2 : x_vg f 6 0 3 1 5 0 (6, c, 0)) (h3 : φ c = some (6, 0, L.length, g)) (h4 : ∀ i, i < L.length → g i = (2, L.getD i 0, 0)) (h5 : ∀ i, L.getD i 0 < 2147483648) (h6 : L.length ≤ 24) : x_mv φ v (6, 0, 3, 5, L) :=
  ⟨Or.inr hv, by show 0 < 2147483648; decide, h5, Or.inr ⟨rfl, rfl, Nat.le_refl 3, Nat.le_refl 5, h6, f, c, g, hc, h1, h2, h3, h4⟩⟩
theorem x_wo_lt {L : List Nat} {x : Nat} (hL : ∀ i, L.getD i 0 < 2147483648) (i : Nat) : (x_wo x L).getD i 0 < 2147483648 := by
  by_cases h : i < (x_wo x L).length
  · rw [List.getD_eq_getElem?_getD, List.getElem?_eq_getElem h]
    show (x_wo x L)[i] < _
    have h1 : (x_wo x L)[i] ∈ L := (List.mem_filter.mp (List.getElem_mem h)).1
    obtain ⟨j, hj, e⟩ := List.getElem_of_mem h1
    have := hL j
    rw [List.getD_eq_getElem?_getD, List.getElem?_eq_getElem hj] at this
    rw [← e]
    exact this
  · rw [List.getD_eq_getElem?_getD, List.getElem?_eq_none (by omega)]
    decide
theorem e_without_set {d n sl : Nat} {φ : FH} {v c x : Nat} {L : List Nat} {fV gc : Nat → XV} (hV : φ v = some (0, 10, 7, fV)) (hg : x_vg fV 6 0 3 1 5 0 (6, c, 0)) (hc : φ c = some (6, 0, L.length, gc)) (hgc : ∀ i, i < L.length → gc i = (2, L.getD i 0, 0)) (hL : ∀ i, L.getD i 0 < 2147483648) (hl : L.length ≤ 24) (hx : x < 2147483648) (hn : 486 ≤ n) : x_f x_P (d + 2) 120 [(6, 7, 0), (6, v, 0), (0, x, 0), (11, 0, 0), (11, 0, 0), (11, 0, 0), (11, 0, 0), (11, 0, 0)] φ n sl (x_rR (6, n + 1 + 1, 0) (n + 1 + 1 + 1) (sl + L.length + (x_wo x L).length + 7) (fun φ2 => x_mv φ2 (n + 1 + 1) (6, 0, 3, 5, x_wo x L) ∧ ∀ j, j < n → φ2 j = φ j)) := by
  refine x_f_of rfl ?_
  refine x_n_lt (fun hlt => ?_)
  have hvn := hlt _ _ hV
  have hcn := hlt _ _ hc
  refine q_load (p2 := 1) rfl rfl rfl rfl ?_
  refine q_getv (p2 := 2) rfl hV (by decide) hg.1 rfl ?_
  refine q_const (p2 := 3) rfl rfl ?_
  refine q_icmp_s (p2 := 4) rfl (by decide) (by omega) (by omega) rfl (fun _ => ?_) (fun hb => absurd (show 6 = 6 by omega) hb)
  refine q_load (p2 := 8) rfl rfl rfl rfl ?_
  refine q_getv (p2 := 9) rfl hV (by decide) hg.2.2.2.2.2.2 rfl ?_
  refine q_alen (p2 := 10) rfl hc rfl (by omega) rfl ?_
  refine q_newaE (p2 := 11) rfl (by omega) rfl (fun φ1 hh1 fr1 => ?_)
  refine q_store (p2 := 12) rfl rfl rfl rfl rfl ?_
  refine q_load (p2 := 13) rfl rfl rfl rfl ?_
  refine q_getv (p2 := 14) rfl ((fr1 v (by omega)).trans hV) (by decide) hg.2.2.2.2.2.1 rfl ?_
  refine q_store (p2 := 15) rfl rfl rfl rfl rfl ?_
  refine q_const (p2 := 16) rfl rfl ?_
  refine q_store (p2 := 17) rfl rfl rfl rfl rfl ?_
  refine q_const (p2 := 18) rfl rfl ?_
  refine q_store (p2 := 19) rfl rfl rfl rfl rfl ?_
  refine e_without_loop (a := n) hg hgc hL hl hx (by omega) (by omega) L.length 0 0 (by omega) (by rw [List.take_zero]; rfl) ((fr1 v (by omega)).trans hV) ((fr1 c (by omega)).trans hc) hh1 (fun j hj => absurd hj (by rw [List.take_zero]; exact Nat.not_lt_zero j)) (fun φ9 g9 q9 hA hgA frA => ?_)
  have hle := x_wo_le (x := x) (Nat.le_refl L.length)
  rw [List.take_length] at hle
  refine q_load (p2 := 73) rfl rfl rfl rfl ?_
  refine q_getv (p2 := 74) rfl ((frA v (by omega)).trans ((fr1 v (by omega)).trans hV)) (by decide) hg.2.2.1 rfl ?_
  refine q_if0_s (p2 := 75) rfl (by decide) (by omega) rfl (fun _ => ?_) (fun hb => absurd (show ¬ (3 = 0) by omega) hb)
  refine q_load (p2 := 78) rfl rfl rfl rfl ?_
  refine q_load (p2 := 79) rfl rfl rfl rfl ?_
  refine q_callrE (xs := [(0, (x_wo x L).length, 0), (6, n, 0)]) (p2 := 80) rfl rfl rfl rfl (x_rcv_0) rfl (e_copyOf hA (by omega) (by omega) (by omega)) (by omega) (by omega) rfl (fun φ2 hR2 => ?_)
  obtain ⟨gy2, hy2, ey2, fr2⟩ := hR2
  refine q_store (p2 := 81) rfl rfl rfl rfl rfl ?_
  refine q_newE (p2 := 82) (len := 7) (g := x_gV) rfl rfl x_gV_ok rfl (fun φ3 hh3 fr3 => ?_)
  refine q_dup (p2 := 83) rfl rfl rfl ?_
  refine q_load (p2 := 84) rfl rfl rfl rfl ?_
  refine q_getv (p2 := 85) rfl ((fr3 v (by omega)).trans ((fr2 v (by omega)).trans ((frA v (by omega)).trans ((fr1 v (by omega)).trans hV)))) (by decide) hg.2.2.1 rfl ?_
  refine q_load (p2 := 86) rfl rfl rfl rfl ?_
  refine q_getv (p2 := 87) rfl ((fr3 v (by omega)).trans ((fr2 v (by omega)).trans ((frA v (by omega)).trans ((fr1 v (by omega)).trans hV)))) (by decide) hg.2.2.2.1 rfl ?_
  refine q_load (p2 := 88) rfl rfl rfl rfl ?_
  refine q_getv (p2 := 89) rfl ((fr3 v (by omega)).trans ((fr2 v (by omega)).trans ((frA v (by omega)).trans ((fr1 v (by omega)).trans hV)))) (by decide) hg.2.2.2.2.1 rfl ?_
  refine q_load (p2 := 90) rfl rfl rfl rfl ?_
  refine q_load (p2 := 91) rfl rfl rfl rfl ?_
  refine q_callvE (xs := [(6, (n + 1), 0), (0, 0, 0), (0, 5, 0), (0, 1, 0), (0, 3, 0), (6, ((n + 1) + 1), 0)]) (p2 := 92) rfl rfl rfl rfl (x_rcv_s ((n + 1) + 1) hh3) rfl (e_new5 hh3) (Nat.le_refl _) (Nat.le_refl _) rfl (fun φ4 hR4 => ?_)
  obtain ⟨⟨fv4, hv4, gv4⟩, fr4⟩ := hR4
  exact q_retv rfl rfl (⟨rfl, rfl, rfl, rfl, x_mv_set (by omega) (show 486 ≤ n + 1 by omega) hv4 gv4 ((fr4 (n + 1) (by omega)).trans ((fr3 (n + 1) (by omega)).trans hy2)) (fun i hi => (ey2 i hi).trans (hgA i hi)) (fun i => x_wo_lt hL i) (by omega), fun j hj => ((fr4 j (by omega)).trans ((fr3 j (by omega)).trans ((fr2 j (by omega)).trans ((frA j (by omega)).trans ((fr1 j (by omega)).trans rfl)))))⟩)
end FPOP6
