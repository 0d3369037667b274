section FPOP18
theorem x_dd_app {lik : Nat → Nat} {made x : Nat} : ∀ (L acc : List Nat), x_dd lik made acc (L ++ [x]) = if (x_dd lik made acc L).any (fun y => decide (x_kn lik made x y)) then x_dd lik made acc L else x_dd lik made acc L ++ [x]
  | [], acc => rfl
  | a :: L, acc => by
    show x_dd lik made (if acc.any (fun y => decide (x_kn lik made a y)) then acc else acc ++ [a]) (L ++ [x]) = _
    rw [x_dd_app L]
    rfl
theorem x_dd_le {lik : Nat → Nat} {made : Nat} : ∀ (L acc : List Nat), (x_dd lik made acc L).length ≤ acc.length + L.length
  | [], acc => Nat.le_refl _
  | a :: L, acc => by
    have h := x_dd_le (lik := lik) (made := made) L (if acc.any (fun y => decide (x_kn lik made a y)) then acc else acc ++ [a])
    have h2 : (if acc.any (fun y => decide (x_kn lik made a y)) then acc else acc ++ [a]).length ≤ acc.length + 1 := by
      split
      · omega
      · rw [List.length_append]; exact Nat.le_refl _
    show (x_dd lik made (if acc.any (fun y => decide (x_kn lik made a y)) then acc else acc ++ [a]) L).length ≤ _
    rw [List.length_cons]
    omega
theorem x_dd_mem {lik : Nat → Nat} {made z : Nat} : ∀ (L acc : List Nat), z ∈ x_dd lik made acc L → z ∈ acc ∨ z ∈ L
  | [], acc, h => Or.inl h
  | a :: L, acc, h => by
    have h := x_dd_mem L (if acc.any (fun y => decide (x_kn lik made a y)) then acc else acc ++ [a]) h
    rcases h with h | h
    · by_cases hc : acc.any (fun y => decide (x_kn lik made a y)) = true
      · rw [if_pos hc] at h; exact Or.inl h
      · rw [if_neg hc] at h
        rcases List.mem_append.mp h with h | h
        · exact Or.inl h
        · exact Or.inr (by rw [List.mem_singleton.mp h]; exact List.mem_cons_self)
    · exact Or.inr (List.mem_cons_of_mem _ h)
theorem x_take_s {L : List Nat} {i : Nat} (hi : i < L.length) : L.take (i + 1) = L.take i ++ [L.getD i 0] := by
  rw [List.take_add_one, List.getD_eq_getElem?_getD, List.getElem?_eq_getElem hi]
  rfl
theorem x_getD_mem {L : List Nat} {i : Nat} (hi : i < L.length) : L.getD i 0 ∈ L := by
  rw [List.getD_eq_getElem?_getD, List.getElem?_eq_getElem hi]
  exact List.getElem_mem hi
theorem x_dd_lt {lik : Nat → Nat} {made : Nat} {L : List Nat} (hL : ∀ i, L.getD i 0 < 2147483648) (i : Nat) : (x_dd lik made [] L).getD i 0 < 2147483648 := by
  by_cases h : i < (x_dd lik made [] L).length
  · rcases x_dd_mem L [] (x_getD_mem h) with h1 | h1
    · exact absurd h1 List.not_mem_nil
    · obtain ⟨j, hj, e⟩ := List.getElem_of_mem h1
      have := hL j
      rw [List.getD_eq_getElem?_getD, List.getElem?_eq_getElem hj] at this
      rw [← e]
      exact this
  · rw [List.getD_eq_getElem?_getD, List.getElem?_eq_none (by omega)]
    decide
theorem x_any_t {lik : Nat → Nat} {made x j : Nat} {F : List Nat} (hj : j < F.length) (h : x_kn lik made x (F.getD j 0)) : F.any (fun y => decide (x_kn lik made x y)) = true :=
  List.any_eq_true.mpr ⟨_, x_getD_mem hj, decide_eq_true h⟩
theorem x_any_f {lik : Nat → Nat} {made x : Nat} {F : List Nat} (h : ∀ j, j < F.length → ¬ x_kn lik made x (F.getD j 0)) : ¬ F.any (fun y => decide (x_kn lik made x y)) = true := by
  intro z
  obtain ⟨y, hy, hq⟩ := List.any_eq_true.mp z
  obtain ⟨j, hj, e⟩ := List.getElem_of_mem hy
  refine h j hj ?_
  rw [List.getD_eq_getElem?_getD, List.getElem?_eq_getElem hj]
  show x_kn lik made x F[j]
  rw [e]
  exact of_decide_eq_true hq
theorem e_dd_in {d n sl A B made sv svm st a i : Nat} {φ : FH} {fP g : Nat → XV} {lik : Nat → Nat} {F : List Nat} {v c : Nat} {L : List Nat} {fV gc : Nat → XV} (hg : x_vg fV 6 0 1 1 5 0 (6, c, 0)) (hgc : ∀ i, i < L.length → gc i = (2, L.getD i 0, 0)) (hLL : ∀ i, L.getD i 0 < 2147483648) (hl : L.length ≤ 24) (hP : x_pop φ A B made sv svm st fP) (hL : x_row φ A lik) (hV : φ v = some (0, 10, 7, fV)) (hc : φ c = some (6, 0, L.length, gc)) (ha : φ a = some (6, 0, L.length, g)) (hga : ∀ j, j < F.length → g j = (2, F.getD j 0, 0)) (hFF : ∀ i, F.getD i 0 < 2147483648) {Post : FP} (hi : i < L.length) (hFl : F.length ≤ i) (kk : ∀ q kn : Nat, kn = (if F.any (fun y => decide (x_kn lik made (L.getD i 0) y)) = true then 1 else 0) → x_n x_P (d + 1) xc_57 102 [] [(6, 7, 0), (6, v, 0), (0, 1, 0), (0, 3, 0), (6, a, 0), (0, F.length, 0), (0, i, 0), (0, kn, 0), (0, q, 0)] φ n sl Post) (k : Nat) : ∀ j, j + k = F.length → (∀ z, z < j → ¬ x_kn lik made (L.getD i 0) (F.getD z 0)) → x_n x_P (d + 1) xc_57 81 [] [(6, 7, 0), (6, v, 0), (0, 1, 0), (0, 3, 0), (6, a, 0), (0, F.length, 0), (0, i, 0), (0, 0, 0), (0, j, 0)] φ n sl Post := by
  induction k with
  | zero =>
    intro j hj hno
    have hj : F.length = j := by omega
    subst hj
    refine q_load (p2 := 82) rfl rfl rfl rfl ?_
    refine q_load (p2 := 83) rfl rfl rfl rfl ?_
    refine q_icmp_s (p2 := 84) rfl (by decide) (by omega) (by omega) rfl (fun _ => ?_) (fun hb => absurd (show ¬ (F.length < F.length) by omega) hb)
    exact kk _ 0 (by rw [if_neg (x_any_f hno)])
  | succ k ih =>
    intro j hj hno
    refine q_load (p2 := 82) rfl rfl rfl rfl ?_
    refine q_load (p2 := 83) rfl rfl rfl rfl ?_
    refine q_icmp_s (p2 := 84) rfl (by decide) (by omega) (by omega) rfl (fun hb => absurd hb (show ¬ (¬ (j < F.length)) by omega)) (fun _ => ?_)
    refine q_load (p2 := 85) rfl rfl rfl rfl ?_
    refine q_if0_s (p2 := 86) rfl (by decide) (by omega) rfl (fun hb => absurd hb (show ¬ (¬ (0 = 0)) by omega)) (fun _ => ?_)
    refine q_load (p2 := 87) rfl rfl rfl rfl ?_
    refine q_load (p2 := 88) rfl rfl rfl rfl ?_
    refine q_getv (p2 := 89) rfl hV (by decide) hg.2.2.2.2.1 rfl ?_
    refine q_load (p2 := 90) rfl rfl rfl rfl ?_
    refine q_getv (p2 := 91) rfl hV (by decide) hg.2.2.2.2.2.2 rfl ?_
    refine q_load (p2 := 92) rfl rfl rfl rfl ?_
    refine q_aldv (v := (2, (L.getD (i) 0), 0)) (p2 := 93) rfl hc (by omega) (by omega) (hgc (i) (by omega)) rfl ?_
    refine q_load (p2 := 94) rfl rfl rfl rfl ?_
    refine q_getv (p2 := 95) rfl hV (by decide) hg.2.2.2.2.1 rfl ?_
    refine q_load (p2 := 96) rfl rfl rfl rfl ?_
    refine q_load (p2 := 97) rfl rfl rfl rfl ?_
    refine q_aldv (v := (2, (F.getD (j) 0), 0)) (p2 := 98) rfl ha (by omega) (by omega) (hga (j) (by omega)) rfl ?_
    refine q_callr (xs := [(2, (F.getD (j) 0), 0), (0, 5, 0), (2, (L.getD (i) 0), 0), (0, 5, 0), (6, 7, 0)]) (p2 := 99) rfl rfl rfl rfl (x_rcv_s 7 hP.1) rfl (e_ca_5 hP hL (hLL i) (hFF j)) (Nat.le_refl _) (Nat.le_refl _) rfl ?_
    refine q_store (p2 := 100) rfl rfl rfl rfl rfl ?_
    refine q_iinc (z := j + 1) (p2 := 101) rfl rfl (Nat.mod_eq_of_lt (by omega)) rfl rfl ?_
    refine q_goto rfl ?_
    by_cases hk : x_kn lik made (L.getD i 0) (F.getD j 0)
    · rw [if_pos hk]
      refine q_load (p2 := 82) rfl rfl rfl rfl ?_
      refine q_load (p2 := 83) rfl rfl rfl rfl ?_
      refine q_icmp_s (p2 := 84) rfl (by decide) (by omega) (by omega) rfl (fun hb61 => ?_) (fun hb61 => ?_)
      · have hb61 : ¬ (j + 1 < F.length) := hb61
        exact kk _ 1 (by rw [if_pos (x_any_t (by omega) hk)])
      · have hb61 : ¬ (¬ (j + 1 < F.length)) := hb61
        refine q_load (p2 := 85) rfl rfl rfl rfl ?_
        refine q_if0_s (p2 := 86) rfl (by decide) (by omega) rfl (fun _ => ?_) (fun hb => absurd (show ¬ (1 = 0) by omega) hb)
        exact kk _ 1 (by rw [if_pos (x_any_t (by omega) hk)])
    · rw [if_neg hk]
      exact ih (j + 1) (by omega) (fun z hz => (Decidable.em (z = j)).elim (fun h => by rw [h]; exact hk) (fun h => hno z (by omega)))
theorem x_take_lt {L : List Nat} {i : Nat} (hL : ∀ j, L.getD j 0 < 2147483648) (j : Nat) : (L.take i).getD j 0 < 2147483648 := by
  rw [List.getD_eq_getElem?_getD, List.getElem?_take]
  split
  · have := hL j
    rw [List.getD_eq_getElem?_getD] at this
    exact this
  · decide
theorem e_dd_out {d n sl A B made sv svm st a : Nat} {φ0 : FH} {fP : Nat → XV} {lik : Nat → Nat} {v c : Nat} {L : List Nat} {fV gc : Nat → XV} (hg : x_vg fV 6 0 1 1 5 0 (6, c, 0)) (hgc : ∀ i, i < L.length → gc i = (2, L.getD i 0, 0)) (hLL : ∀ i, L.getD i 0 < 2147483648) (hl : L.length ≤ 24) {Post : FP} (hA : A = 230 ∨ A = 231) (ha486 : 486 ≤ a) (hav : a ≠ v) (hac : a ≠ c) (k : Nat) : ∀ (i : Nat) (F : List Nat) {φ : FH} {g : Nat → XV} {q1 q2 : XV}, i + k = L.length → F = x_dd lik made [] (L.take i) → (hP : x_pop φ A B made sv svm st fP) → (hL : x_row φ A lik) → (hV : φ v = some (0, 10, 7, fV)) → (hc : φ c = some (6, 0, L.length, gc)) → (ha : φ a = some (6, 0, L.length, g)) → (hga : ∀ j, j < F.length → g j = (2, F.getD j 0, 0)) → (hfr : ∀ j, j ≠ a → φ j = φ0 j) → (∀ (φ9 : FH) (g9 : Nat → XV) (q1 q2 : XV), φ9 a = some (6, 0, L.length, g9) → (∀ j, j < (x_dd lik made [] L).length → g9 j = (2, (x_dd lik made [] L).getD j 0, 0)) → (∀ j, j ≠ a → φ9 j = φ0 j) → x_n x_P (d + 1) xc_57 114 [] [(6, 7, 0), (6, v, 0), (0, 1, 0), (0, 3, 0), (6, a, 0), (0, (x_dd lik made [] L).length, 0), (0, L.length, 0), q1, q2] φ9 n sl Post) → x_n x_P (d + 1) xc_57 73 [] [(6, 7, 0), (6, v, 0), (0, 1, 0), (0, 3, 0), (6, a, 0), (0, F.length, 0), (0, i, 0), q1, q2] φ n sl Post := by
  induction k with
  | zero =>
    intro i F φ g q1 q2 hi hF hP hL hV hc ha hga hfr kk
    have hi : L.length = i := by omega
    subst hi
    rw [List.take_length] at hF
    subst hF
    refine q_load (p2 := 74) rfl rfl rfl rfl ?_
    refine q_load (p2 := 75) rfl rfl rfl rfl ?_
    refine q_alen (p2 := 76) rfl ha rfl (by omega) rfl ?_
    refine q_icmp_s (p2 := 77) rfl (by decide) (by omega) (by omega) rfl (fun _ => ?_) (fun hb => absurd (show ¬ (L.length < L.length) by omega) hb)
    exact kk _ _ _ _ ha hga hfr
  | succ k ih =>
    intro i F φ g q1 q2 hi hF hP hL hV hc ha hga hfr kk
    refine q_load (p2 := 74) rfl rfl rfl rfl ?_
    refine q_load (p2 := 75) rfl rfl rfl rfl ?_
    refine q_alen (p2 := 76) rfl ha rfl (by omega) rfl ?_
    refine q_icmp_s (p2 := 77) rfl (by decide) (by omega) (by omega) rfl (fun hb => absurd hb (show ¬ (¬ (i < L.length)) by omega)) (fun _ => ?_)
    refine q_const (p2 := 78) rfl rfl ?_
    refine q_store (p2 := 79) rfl rfl rfl rfl rfl ?_
    refine q_const (p2 := 80) rfl rfl ?_
    refine q_store (p2 := 81) rfl rfl rfl rfl rfl ?_
    subst hF
    have hFl := x_dd_le (lik := lik) (made := made) (L.take i) []
    rw [List.length_take, List.length_nil] at hFl
    refine e_dd_in (F := x_dd lik made [] (L.take i)) hg hgc hLL hl hP hL hV hc ha hga (x_dd_lt (x_take_lt hLL)) (by omega) (by omega) (fun q9 kn9 hkn9 => ?_) (x_dd lik made [] (L.take i)).length 0 (by omega) (fun z hz => absurd hz (Nat.not_lt_zero z))
    have hts := x_dd_app (lik := lik) (made := made) (x := L.getD i 0) (L.take i) []
    rw [← x_take_s (by omega)] at hts
    by_cases hany : (x_dd lik made [] (L.take i)).any (fun y => decide (x_kn lik made (L.getD i 0) y)) = true
    · rw [if_pos hany] at hkn9 hts
      subst hkn9
      refine q_load (p2 := 103) rfl rfl rfl rfl ?_
      refine q_if0_s (p2 := 104) rfl (by decide) (by omega) rfl (fun _ => ?_) (fun hb => absurd (show ¬ (1 = 0) by omega) hb)
      refine q_iinc (z := i + 1) (p2 := 113) rfl rfl (Nat.mod_eq_of_lt (by omega)) rfl rfl ?_
      refine q_goto rfl ?_
      exact ih (i + 1) _ (by omega) hts.symm hP hL hV hc ha hga hfr kk
    · rw [if_neg hany] at hkn9 hts
      subst hkn9
      refine q_load (p2 := 103) rfl rfl rfl rfl ?_
      refine q_if0_s (p2 := 104) rfl (by decide) (by omega) rfl (fun hb => absurd hb (show ¬ (¬ (0 = 0)) by omega)) (fun _ => ?_)
      refine q_load (p2 := 105) rfl rfl rfl rfl ?_
      refine q_load (p2 := 106) rfl rfl rfl rfl ?_
      refine q_load (p2 := 107) rfl rfl rfl rfl ?_
      refine q_getv (p2 := 108) rfl hV (by decide) hg.2.2.2.2.2.2 rfl ?_
      refine q_load (p2 := 109) rfl rfl rfl rfl ?_
      refine q_aldv (v := (2, (L.getD (i) 0), 0)) (p2 := 110) rfl hc (by omega) (by omega) (hgc (i) (by omega)) rfl ?_
      refine q_astE (p2 := 111) rfl ha (by omega) (by omega) (x_ok_0 rfl) (x_nv_same rfl (by decide)) rfl (fun φ1 f1 hh1 hg1 ho1 fr1 => ?_)
      refine q_iinc (z := (x_dd lik made [] (L.take i)).length + 1) (p2 := 112) rfl rfl (Nat.mod_eq_of_lt (by omega)) rfl rfl ?_
      refine q_iinc (z := i + 1) (p2 := 113) rfl rfl (Nat.mod_eq_of_lt (by omega)) rfl rfl ?_
      refine q_goto rfl ?_
      have e1 : (x_dd lik made [] (L.take i)).length + 1 = (x_dd lik made [] (L.take i) ++ [L.getD i 0]).length := by rw [List.length_append]; rfl
      rw [e1]
      exact ih (i + 1) _ (by omega) hts.symm (x_pop_at hP (fr1 7 (by omega))) (x_row_at hL (fr1 A (by omega))) ((fr1 v (by omega)).trans hV) ((fr1 c (by omega)).trans hc) hh1 (x_put_end rfl hga hg1 ho1) (fun j hj => (fr1 j hj).trans (hfr j hj)) kk
theorem e_conv_1l {d n sl A B made sv svm st : Nat} {φ : FH} {fP : Nat → XV} {lik : Nat → Nat} {v c : Nat} {L : List Nat} {fV gc : Nat → XV} (hg : x_vg fV 6 0 1 1 5 0 (6, c, 0)) (hgc : ∀ i, i < L.length → gc i = (2, L.getD i 0, 0)) (hLL : ∀ i, L.getD i 0 < 2147483648) (hl : L.length ≤ 24) (hP : x_pop φ A B made sv svm st fP) (hL : x_row φ A lik) (hV : φ v = some (0, 10, 7, fV)) (hc : φ c = some (6, 0, L.length, gc)) (hSc : x_sch φ) (hn : 486 ≤ n) : x_f x_P (d + 2) 57 [(6, 7, 0), (6, v, 0), (0, 1, 0), (11, 0, 0), (11, 0, 0), (11, 0, 0), (11, 0, 0), (11, 0, 0), (11, 0, 0)] φ n sl (x_bR n sl 3 55 (fun w φ2 => ∃ v2, w = (6, v2, 0) ∧ x_mv φ2 v2 (6, 0, 3, 5, x_dd lik made [] L) ∧ ∀ j, j < n → φ2 j = φ j)) := by
  refine x_f_of rfl ?_
  obtain ⟨fS, hs237⟩ := hSc.1
  refine x_n_lt (fun hlt => ?_)
  have hvn := hlt _ _ hV
  have hcn := hlt _ _ hc
  have hAB := x_pop_AB hP
  refine q_load (p2 := 1) rfl rfl rfl rfl ?_
  refine q_if0_s (p2 := 2) rfl (by decide) (by omega) rfl (fun hb => absurd hb (show ¬ (1 < 0) by omega)) (fun _ => ?_)
  refine q_load (p2 := 3) rfl rfl rfl rfl ?_
  refine q_load (p2 := 4) rfl rfl rfl rfl ?_
  refine q_getv (p2 := 5) rfl hP.1 (by decide) hP.2.1 rfl ?_
  refine q_getv (p2 := 6) rfl hs237.1 (by decide) hs237.2.2.2.2.2.2.2.2.2.1 rfl ?_
  refine q_alen (p2 := 7) rfl (x_sc_312 hSc) rfl (by omega) rfl ?_
  refine q_icmp_s (p2 := 8) rfl (by decide) (by omega) (by omega) rfl (fun _ => ?_) (fun hb => absurd (show 1 < 128 by omega) hb)
  refine q_load (p2 := 11) rfl rfl rfl rfl ?_
  refine q_getv (p2 := 12) rfl hP.1 (by decide) hP.2.1 rfl ?_
  refine q_getv (p2 := 13) rfl hs237.1 (by decide) hs237.2.2.2.2.2.2.2.2.2.1 rfl ?_
  refine q_load (p2 := 14) rfl rfl rfl rfl ?_
  refine q_aldv (v := (6, 314, 0)) (p2 := 15) rfl (x_sc_312 hSc) (by omega) (by omega) rfl rfl ?_
  refine q_const (p2 := 16) rfl rfl ?_
  refine q_aldv (v := (0, 3, 0)) (p2 := 17) rfl (x_sc_314 hSc) (by omega) (by omega) rfl rfl ?_
  refine q_store (p2 := 18) rfl rfl rfl rfl rfl ?_
  refine q_load (p2 := 19) rfl rfl rfl rfl ?_
  refine q_if0_s (p2 := 20) rfl (by decide) (by omega) rfl (fun _ => ?_) (fun hb => absurd (show ¬ (3 < 0) by omega) hb)
  refine q_load (p2 := 26) rfl rfl rfl rfl ?_
  refine q_getv (p2 := 27) rfl hV (by decide) hg.1 rfl ?_
  refine q_const (p2 := 28) rfl rfl ?_
  refine q_icmp_s (p2 := 29) rfl (by decide) (by omega) (by omega) rfl (fun hb => absurd hb (show ¬ (¬ (6 = 6)) by omega)) (fun _ => ?_)
  refine q_load (p2 := 30) rfl rfl rfl rfl ?_
  refine q_getv (p2 := 31) rfl hV (by decide) hg.2.2.1 rfl ?_
  refine q_const (p2 := 32) rfl rfl ?_
  refine q_icmp_s (p2 := 33) rfl (by decide) (by omega) (by omega) rfl (fun hb => absurd hb (show ¬ (¬ (1 = 1)) by omega)) (fun _ => ?_)
  refine q_load (p2 := 34) rfl rfl rfl rfl ?_
  refine q_const (p2 := 35) rfl rfl ?_
  refine q_icmp_s (p2 := 36) rfl (by decide) (by omega) (by omega) rfl (fun _ => ?_) (fun hb => absurd (show ¬ (3 = 1) by omega) hb)
  refine q_load (p2 := 39) rfl rfl rfl rfl ?_
  refine q_const (p2 := 40) rfl rfl ?_
  refine q_icmp_s (p2 := 41) rfl (by decide) (by omega) (by omega) rfl (fun _ => ?_) (fun hb => absurd (show 3 = 3 by omega) hb)
  refine q_load (p2 := 65) rfl rfl rfl rfl ?_
  refine q_getv (p2 := 66) rfl hV (by decide) hg.2.2.2.2.2.2 rfl ?_
  refine q_alen (p2 := 67) rfl hc rfl (by omega) rfl ?_
  refine q_newaE (p2 := 68) rfl (by omega) rfl (fun φ1 hh1 fr1 => ?_)
  refine q_store (p2 := 69) rfl rfl rfl rfl rfl ?_
  refine q_const (p2 := 70) rfl rfl ?_
  refine q_store (p2 := 71) rfl rfl rfl rfl rfl ?_
  refine q_const (p2 := 72) rfl rfl ?_
  refine q_store (p2 := 73) rfl rfl rfl rfl rfl ?_
  refine e_dd_out (lik := lik) hg hgc hLL hl (by omega) hn (by omega) (by omega) L.length 0 [] (by omega) rfl (x_pop_at hP (fr1 7 (by omega))) (x_row_at hL (fr1 A (by omega))) ((fr1 v (by omega)).trans hV) ((fr1 c (by omega)).trans hc) hh1 (fun j hj => absurd hj (Nat.not_lt_zero j)) (fun _ _ => rfl) (fun φ9 g9 q8 q9 hA9 hG9 hfr9 => ?_)
  have hdl := x_dd_le (lik := lik) (made := made) L []
  rw [List.length_nil, Nat.zero_add] at hdl
  refine q_newE (p2 := 115) (len := 7) (g := x_gV) rfl rfl x_gV_ok rfl (fun φ2 hh2 fr2 => ?_)
  refine q_dup (p2 := 116) rfl rfl rfl ?_
  refine q_const (p2 := 117) rfl rfl ?_
  refine q_const (p2 := 118) rfl rfl ?_
  refine q_load (p2 := 119) rfl rfl rfl rfl ?_
  refine q_getv (p2 := 120) rfl ((fr2 v (by omega)).trans ((hfr9 v (by omega)).trans ((fr1 v (by omega)).trans hV))) (by decide) hg.2.2.2.2.1 rfl ?_
  refine q_const (p2 := 121) rfl rfl ?_
  refine q_load (p2 := 122) rfl rfl rfl rfl ?_
  refine q_load (p2 := 123) rfl rfl rfl rfl ?_
  refine q_callrE (xs := [(0, (x_dd lik made [] L).length, 0), (6, n, 0)]) (p2 := 124) rfl rfl rfl rfl (x_rcv_0) rfl (e_copyOf ((fr2 n (by omega)).trans hA9) (by omega) (by omega) (by omega)) (by omega) (by omega) rfl (fun φ3 hR3 => ?_)
  obtain ⟨gy3, hy3, ey3, fr3⟩ := hR3
  refine q_callvE (xs := [(6, ((n + 1) + 1), 0), (0, 0, 0), (0, 5, 0), (0, 1, 0), (0, 3, 0), (6, (n + 1), 0)]) (p2 := 125) rfl rfl rfl rfl (x_rcv_s (n + 1) ((fr3 (n + 1) (by omega)).trans hh2)) rfl (e_new5 ((fr3 (n + 1) (by omega)).trans hh2)) (Nat.le_refl _) (Nat.le_refl _) rfl (fun φ4 hR4 => ?_)
  obtain ⟨⟨fv4, hv4, gv4⟩, fr4⟩ := hR4
  exact q_retv rfl rfl (⟨rfl, ⟨by omega, by omega⟩, ⟨by omega, by omega⟩, _, rfl, x_mv_set (by omega) (show 486 ≤ n + 1 + 1 by omega) hv4 gv4 ((fr4 ((n + 1) + 1) (by omega)).trans hy3) (fun i hi => (ey3 i hi).trans (hG9 i hi)) (x_dd_lt hLL) (by omega), fun j hj => ((fr4 j (by omega)).trans ((fr3 j (by omega)).trans ((fr2 j (by omega)).trans ((hfr9 j (by omega)).trans ((fr1 j (by omega)).trans rfl)))))⟩)
end FPOP18
