section FPOP21
/-- what was saved -/
def x_SP (φ : FH) (sc : Nat → Nat) (sm : Nat → MV) : Prop := x_row φ 228 sc ∧ ∃ sh, x_held φ 229 sh ∧ ∀ i, i < 1600 → x_mv φ (sh i) (sm i)
theorem x_SP_at {φ φ1 : FH} {sc : Nat → Nat} {sm : Nat → MV} (h : x_SP φ sc sm) (e : ∀ j, j = 225 ∨ j = 228 ∨ j = 229 ∨ 486 ≤ j → φ j ≠ none → φ1 j = φ j) : x_SP φ1 sc sm := by
  obtain ⟨a1, sh, a2, a3⟩ := h
  refine ⟨x_row_at a1 (e 228 (by omega) (by rw [a1.1]; exact Option.some_ne_none _)), sh, x_held_at a2 (e 229 (by omega) ?_), fun i hi => x_mv_at (a3 i hi) (fun j hj hn => e j (by omega) hn)⟩
  unfold x_held at a2
  rw [a2]
  exact Option.some_ne_none _
theorem x_okv {φ : FH} {n : Nat} {sh : Nat → Nat} {sm : Nat → MV} (h : ∀ i, i < 1600 → x_mv φ (sh i) (sm i)) : ∀ h, x_h φ n h → ∀ i, i < 1600 → x_okref h ((fun i => (6, sh i, 0)) i : XV) 0 = true := by
  intro h0 hh i hi
  obtain ⟨f, hf⟩ := x_mv_obj (h i hi)
  exact x_ok_r (len := 7) (ci := 10) (c := 0) hf rfl h0 hh
theorem x_cpy_comb {φ : FH} {f1 : Nat → XV} {sc comb : Nat → Nat} (h : φ 226 = some (1, 0, 512, f1)) (h1 : ∀ i, i < 40 → f1 i = (0, sc i, 0)) (h2 : ∀ i, 40 ≤ i → f1 i = (0, comb i, 0)) (b1 : ∀ i, sc i < 2147483648) (b2 : ∀ i, comb i < 2147483648) : x_comb φ 226 (fun i => if i < 40 then sc i else comb i) := by
  refine ⟨?_, fun i => ?_⟩
  · rw [h]
    congr 4
    funext i
    show f1 i = (0, if i < 40 then sc i else comb i, 0)
    by_cases hi : i < 40
    · rw [if_pos hi, h1 i hi]
    · rw [if_neg hi, h2 i (by omega)]
  · show (if i < 40 then sc i else comb i) < _
    split
    · exact b1 i
    · exact b2 i
theorem x_cpy_row {φ : FH} {f1 : Nat → XV} {sc comb : Nat → Nat} (h : φ 228 = some (1, 0, 40, f1)) (h1 : ∀ i, i < 40 → f1 i = (0, comb i, 0)) (h2 : ∀ i, 40 ≤ i → f1 i = (0, sc i, 0)) (b1 : ∀ i, sc i < 2147483648) (b2 : ∀ i, comb i < 2147483648) : x_row φ 228 (fun i => if i < 40 then comb i else sc i) := by
  refine ⟨?_, fun i => ?_⟩
  · rw [h]
    congr 4
    funext i
    show f1 i = (0, if i < 40 then comb i else sc i, 0)
    by_cases hi : i < 40
    · rw [if_pos hi, h1 i hi]
    · rw [if_neg hi, h2 i (by omega)]
  · show (if i < 40 then comb i else sc i) < _
    split
    · exact b2 i
    · exact b1 i
theorem x_cpy_held {φ : FH} {c : Nat} {f1 : Nat → XV} {a b : Nat → Nat} (h : φ c = some (8, 0, 1600, f1)) (h1 : ∀ i, i < 1600 → f1 i = (6, a i, 0)) (h2 : ∀ i, 1600 ≤ i → f1 i = (6, b i, 0)) : x_held φ c (fun i => if i < 1600 then a i else b i) := by
  unfold x_held
  rw [h]
  congr 4
  funext i
  show f1 i = (6, if i < 1600 then a i else b i, 0)
  by_cases hi : i < 1600
  · rw [if_pos hi, h1 i hi]
  · rw [if_neg hi, h2 i (by omega)]
theorem e_save {d n sl A B made sv svm st : Nat} {φ : FH} {comb sc : Nat → Nat} {hm sm : Nat → MV} (hS : x_PS φ A B made sv svm st comb hm) (hQ : x_SP φ sc sm) : x_f x_P (d + 1) 340 [(6, 7, 0)] φ n sl (fun u w φ2 n2 sl2 => u = 1 ∧ w = (0, if sv = 0 then 1 else 0, 0) ∧ n2 = n ∧ sl2 = sl ∧ ((sv = 0 ∧ x_PS φ2 A B made 1 made st comb hm ∧ x_SP φ2 (fun i => if i < 40 then comb i else sc i) hm ∧ ∀ j, j ≠ 7 → j ≠ 228 → j ≠ 229 → φ2 j = φ j) ∨ (sv ≠ 0 ∧ φ2 = φ))) := by
  refine x_f_of rfl ?_
  have ⟨⟨fP, hP⟩, hC, held, hH, hM, hN⟩ := hS
  have ⟨hR, sh, hG, hGm⟩ := hQ
  have hAB := x_pop_AB hP
  have hmade := x_pop_made hP
  have hsv : sv ≤ 1 := hP.2.2.2.2.2.2.2.2.2.2.2.2.2.2.2.1
  have hsvm : svm ≤ 40 := hP.2.2.2.2.2.2.2.2.2.2.2.2.2.2.2.2.1
  have hst : st ≤ 1 := hP.2.2.2.2.2.2.2.2.2.2.2.2.2.2.2.2.2
  refine q_load (p2 := 1) rfl rfl rfl rfl ?_
  refine q_getv (p2 := 2) rfl hP.1 (by decide) hP.2.2.2.2.2.2.1 rfl ?_
  refine q_if0_s (p2 := 3) rfl (by decide) (by omega) rfl (fun hb1 => ?_) (fun hb1 => ?_)
  · have hb1 : sv = 0 := hb1
    refine q_load (p2 := 6) rfl rfl rfl rfl ?_
    refine q_const (p2 := 7) rfl rfl ?_
    refine q_putfE (p2 := 8) rfl hP.1 (by decide) rfl rfl (fun φ2 f2 hh2 hg2 ho2 fr2 => ?_)
    refine q_load (p2 := 9) rfl rfl rfl rfl ?_
    refine q_load (p2 := 10) rfl rfl rfl rfl ?_
    refine q_getv (p2 := 11) rfl hh2 (by decide) ((ho2 2 (by decide)).trans hP.2.2.2.1) rfl ?_
    refine q_putfE (p2 := 12) rfl hh2 (by decide) rfl rfl (fun φ3 f3 hh3 hg3 ho3 fr3 => ?_)
    refine q_load (p2 := 13) rfl rfl rfl rfl ?_
    refine q_getv (p2 := 14) rfl hh3 (by decide) ((ho3 3 (by decide)).trans ((ho2 3 (by decide)).trans hP.2.2.2.2.1)) rfl ?_
    refine q_const (p2 := 15) rfl rfl ?_
    refine q_load (p2 := 16) rfl rfl rfl rfl ?_
    refine q_getv (p2 := 17) rfl hh3 (by decide) ((ho3 7 (by decide)).trans ((ho2 7 (by decide)).trans hP.2.2.2.2.2.2.2.2.1)) rfl ?_
    refine q_const (p2 := 18) rfl rfl ?_
    refine q_const (p2 := 19) rfl rfl ?_
    refine q_copy0E (p2 := 20) rfl rfl ((fr3 226 (by omega)).trans ((fr2 226 (by omega)).trans hC.1)) ((fr3 228 (by omega)).trans ((fr2 228 (by omega)).trans hR.1)) (by decide) (by omega) (by omega) (by omega) (by omega) rfl (fun φ4 f4 hh4 hg4 ho4 fr4 => ?_)
    refine q_load (p2 := 21) rfl rfl rfl rfl ?_
    refine q_getv (p2 := 22) rfl ((fr4 7 (by omega)).trans hh3) (by decide) ((ho3 4 (by decide)).trans ((ho2 4 (by decide)).trans hP.2.2.2.2.2.1)) rfl ?_
    refine q_const (p2 := 23) rfl rfl ?_
    refine q_load (p2 := 24) rfl rfl rfl rfl ?_
    refine q_getv (p2 := 25) rfl ((fr4 7 (by omega)).trans hh3) (by decide) ((ho3 8 (by decide)).trans ((ho2 8 (by decide)).trans hP.2.2.2.2.2.2.2.2.2.1)) rfl ?_
    refine q_const (p2 := 26) rfl rfl ?_
    refine q_load (p2 := 27) rfl rfl rfl rfl ?_
    refine q_getv (p2 := 28) rfl ((fr4 7 (by omega)).trans hh3) (by decide) ((ho3 4 (by decide)).trans ((ho2 4 (by decide)).trans hP.2.2.2.2.2.1)) rfl ?_
    refine q_alen (p2 := 29) rfl ((fr4 227 (by omega)).trans ((fr3 227 (by omega)).trans ((fr2 227 (by omega)).trans hH))) rfl (by omega) rfl ?_
    refine q_copy0R (p2 := 30) rfl rfl ((fr4 227 (by omega)).trans ((fr3 227 (by omega)).trans ((fr2 227 (by omega)).trans hH))) ((fr4 229 (by omega)).trans ((fr3 229 (by omega)).trans ((fr2 229 (by omega)).trans hG))) rfl (x_okv (fun i hi => x_mv_at (hM i hi) (fun j hj _ => ((fr4 j (by omega)).trans ((fr3 j (by omega)).trans ((fr2 j (by omega)).trans rfl)))))) (by omega) (by omega) (by omega) (by omega) rfl (fun φ5 f5 hh5 hg5 ho5 fr5 => ?_)
    refine q_const (p2 := 31) rfl rfl ?_
    exact q_retv rfl rfl (⟨rfl, by rw [if_pos (by omega)], rfl, rfl, Or.inl ⟨by omega, ⟨⟨_, ((fr5 7 (by omega)).trans ((fr4 7 (by omega)).trans hh3)), ((ho3 0 (by decide)).trans ((ho2 0 (by decide)).trans hP.2.1)), ((ho3 1 (by decide)).trans ((ho2 1 (by decide)).trans hP.2.2.1)), ((ho3 2 (by decide)).trans ((ho2 2 (by decide)).trans hP.2.2.2.1)), ((ho3 3 (by decide)).trans ((ho2 3 (by decide)).trans hP.2.2.2.2.1)), ((ho3 4 (by decide)).trans ((ho2 4 (by decide)).trans hP.2.2.2.2.2.1)), ((ho3 5 (by decide)).trans hg2), hg3, ((ho3 7 (by decide)).trans ((ho2 7 (by decide)).trans hP.2.2.2.2.2.2.2.2.1)), ((ho3 8 (by decide)).trans ((ho2 8 (by decide)).trans hP.2.2.2.2.2.2.2.2.2.1)), ((ho3 9 (by decide)).trans ((ho2 9 (by decide)).trans hP.2.2.2.2.2.2.2.2.2.2.1)), ((ho3 10 (by decide)).trans ((ho2 10 (by decide)).trans hP.2.2.2.2.2.2.2.2.2.2.2.1)), ((ho3 11 (by decide)).trans ((ho2 11 (by decide)).trans hP.2.2.2.2.2.2.2.2.2.2.2.2.1)), hmade, hAB, Nat.le_refl 1, hmade, hst⟩, x_comb_at hC ((fr5 226 (by omega)).trans ((fr4 226 (by omega)).trans ((fr3 226 (by omega)).trans ((fr2 226 (by omega)).trans rfl)))), held, x_held_at hH ((fr5 227 (by omega)).trans ((fr4 227 (by omega)).trans ((fr3 227 (by omega)).trans ((fr2 227 (by omega)).trans rfl)))), fun i hi => x_mv_at (hM i hi) (fun j hj _ => ((fr5 j (by omega)).trans ((fr4 j (by omega)).trans ((fr3 j (by omega)).trans ((fr2 j (by omega)).trans rfl))))), x_mv_at hN (fun j hj _ => ((fr5 j (by omega)).trans ((fr4 j (by omega)).trans ((fr3 j (by omega)).trans ((fr2 j (by omega)).trans rfl)))))⟩, ⟨x_cpy_row ((fr5 228 (by omega)).trans hh4) hg4 ho4 hR.2 hC.2, _, x_cpy_held hh5 hg5 ho5, fun i hi => by rw [if_pos hi]; exact x_mv_at (hM i hi) (fun j hj _ => ((fr5 j (by omega)).trans ((fr4 j (by omega)).trans ((fr3 j (by omega)).trans ((fr2 j (by omega)).trans rfl)))))⟩, fun j j7 j28 j29 => ((fr5 j j29).trans ((fr4 j j28).trans ((fr3 j j7).trans ((fr2 j j7).trans rfl))))⟩⟩)
  · have hb1 : ¬ (sv = 0) := hb1
    refine q_const (p2 := 4) rfl rfl ?_
    exact q_retv rfl rfl (⟨rfl, by rw [if_neg (by omega)], rfl, rfl, Or.inr ⟨by omega, rfl⟩⟩)
theorem e_restore {d n sl A B made sv svm st : Nat} {φ : FH} {comb sc : Nat → Nat} {hm sm : Nat → MV} (hS : x_PS φ A B made sv svm st comb hm) (hQ : x_SP φ sc sm) : x_f x_P (d + 1) 78 [(6, 7, 0)] φ n sl (fun u w φ2 n2 sl2 => u = 1 ∧ w = (0, if sv = 0 then 0 else 1, 0) ∧ n2 = n ∧ sl2 = sl ∧ ((sv ≠ 0 ∧ x_PS φ2 A B svm 0 svm 1 (fun i => if i < 40 then sc i else comb i) sm ∧ ∀ j, j ≠ 7 → j ≠ 226 → j ≠ 227 → φ2 j = φ j) ∨ (sv = 0 ∧ φ2 = φ))) := by
  refine x_f_of rfl ?_
  have ⟨⟨fP, hP⟩, hC, held, hH, hM, hN⟩ := hS
  have ⟨hR, sh, hG, hGm⟩ := hQ
  have hAB := x_pop_AB hP
  have hmade := x_pop_made hP
  have hsv : sv ≤ 1 := hP.2.2.2.2.2.2.2.2.2.2.2.2.2.2.2.1
  have hsvm : svm ≤ 40 := hP.2.2.2.2.2.2.2.2.2.2.2.2.2.2.2.2.1
  have hst : st ≤ 1 := hP.2.2.2.2.2.2.2.2.2.2.2.2.2.2.2.2.2
  refine q_load (p2 := 1) rfl rfl rfl rfl ?_
  refine q_getv (p2 := 2) rfl hP.1 (by decide) hP.2.2.2.2.2.2.1 rfl ?_
  refine q_if0_s (p2 := 3) rfl (by decide) (by omega) rfl (fun hb1 => ?_) (fun hb1 => ?_)
  · have hb1 : ¬ (sv = 0) := hb1
    refine q_load (p2 := 6) rfl rfl rfl rfl ?_
    refine q_const (p2 := 7) rfl rfl ?_
    refine q_putfE (p2 := 8) rfl hP.1 (by decide) rfl rfl (fun φ2 f2 hh2 hg2 ho2 fr2 => ?_)
    refine q_load (p2 := 9) rfl rfl rfl rfl ?_
    refine q_load (p2 := 10) rfl rfl rfl rfl ?_
    refine q_getv (p2 := 11) rfl hh2 (by decide) ((ho2 6 (by decide)).trans hP.2.2.2.2.2.2.2.1) rfl ?_
    refine q_putfE (p2 := 12) rfl hh2 (by decide) rfl rfl (fun φ3 f3 hh3 hg3 ho3 fr3 => ?_)
    refine q_load (p2 := 13) rfl rfl rfl rfl ?_
    refine q_getv (p2 := 14) rfl hh3 (by decide) ((ho3 7 (by decide)).trans ((ho2 7 (by decide)).trans hP.2.2.2.2.2.2.2.2.1)) rfl ?_
    refine q_const (p2 := 15) rfl rfl ?_
    refine q_load (p2 := 16) rfl rfl rfl rfl ?_
    refine q_getv (p2 := 17) rfl hh3 (by decide) ((ho3 3 (by decide)).trans ((ho2 3 (by decide)).trans hP.2.2.2.2.1)) rfl ?_
    refine q_const (p2 := 18) rfl rfl ?_
    refine q_const (p2 := 19) rfl rfl ?_
    refine q_copy0E (p2 := 20) rfl rfl ((fr3 228 (by omega)).trans ((fr2 228 (by omega)).trans hR.1)) ((fr3 226 (by omega)).trans ((fr2 226 (by omega)).trans hC.1)) (by decide) (by omega) (by omega) (by omega) (by omega) rfl (fun φ4 f4 hh4 hg4 ho4 fr4 => ?_)
    refine q_load (p2 := 21) rfl rfl rfl rfl ?_
    refine q_getv (p2 := 22) rfl ((fr4 7 (by omega)).trans hh3) (by decide) ((ho3 8 (by decide)).trans ((ho2 8 (by decide)).trans hP.2.2.2.2.2.2.2.2.2.1)) rfl ?_
    refine q_const (p2 := 23) rfl rfl ?_
    refine q_load (p2 := 24) rfl rfl rfl rfl ?_
    refine q_getv (p2 := 25) rfl ((fr4 7 (by omega)).trans hh3) (by decide) ((ho3 4 (by decide)).trans ((ho2 4 (by decide)).trans hP.2.2.2.2.2.1)) rfl ?_
    refine q_const (p2 := 26) rfl rfl ?_
    refine q_load (p2 := 27) rfl rfl rfl rfl ?_
    refine q_getv (p2 := 28) rfl ((fr4 7 (by omega)).trans hh3) (by decide) ((ho3 4 (by decide)).trans ((ho2 4 (by decide)).trans hP.2.2.2.2.2.1)) rfl ?_
    refine q_alen (p2 := 29) rfl ((fr4 227 (by omega)).trans ((fr3 227 (by omega)).trans ((fr2 227 (by omega)).trans hH))) rfl (by omega) rfl ?_
    refine q_copy0R (p2 := 30) rfl rfl ((fr4 229 (by omega)).trans ((fr3 229 (by omega)).trans ((fr2 229 (by omega)).trans hG))) ((fr4 227 (by omega)).trans ((fr3 227 (by omega)).trans ((fr2 227 (by omega)).trans hH))) rfl (x_okv (fun i hi => x_mv_at (hGm i hi) (fun j hj _ => ((fr4 j (by omega)).trans ((fr3 j (by omega)).trans ((fr2 j (by omega)).trans rfl)))))) (by omega) (by omega) (by omega) (by omega) rfl (fun φ5 f5 hh5 hg5 ho5 fr5 => ?_)
    refine q_load (p2 := 31) rfl rfl rfl rfl ?_
    refine q_const (p2 := 32) rfl rfl ?_
    refine q_putfE (p2 := 33) rfl ((fr5 7 (by omega)).trans ((fr4 7 (by omega)).trans hh3)) (by decide) rfl rfl (fun φ6 f6 hh6 hg6 ho6 fr6 => ?_)
    refine q_const (p2 := 34) rfl rfl ?_
    exact q_retv rfl rfl (⟨rfl, by rw [if_neg (by omega)], rfl, rfl, Or.inl ⟨by omega, ⟨⟨_, hh6, ((ho6 0 (by decide)).trans ((ho3 0 (by decide)).trans ((ho2 0 (by decide)).trans hP.2.1))), ((ho6 1 (by decide)).trans ((ho3 1 (by decide)).trans ((ho2 1 (by decide)).trans hP.2.2.1))), ((ho6 2 (by decide)).trans hg3), ((ho6 3 (by decide)).trans ((ho3 3 (by decide)).trans ((ho2 3 (by decide)).trans hP.2.2.2.2.1))), ((ho6 4 (by decide)).trans ((ho3 4 (by decide)).trans ((ho2 4 (by decide)).trans hP.2.2.2.2.2.1))), ((ho6 5 (by decide)).trans ((ho3 5 (by decide)).trans hg2)), ((ho6 6 (by decide)).trans ((ho3 6 (by decide)).trans ((ho2 6 (by decide)).trans hP.2.2.2.2.2.2.2.1))), ((ho6 7 (by decide)).trans ((ho3 7 (by decide)).trans ((ho2 7 (by decide)).trans hP.2.2.2.2.2.2.2.2.1))), ((ho6 8 (by decide)).trans ((ho3 8 (by decide)).trans ((ho2 8 (by decide)).trans hP.2.2.2.2.2.2.2.2.2.1))), ((ho6 9 (by decide)).trans ((ho3 9 (by decide)).trans ((ho2 9 (by decide)).trans hP.2.2.2.2.2.2.2.2.2.2.1))), ((ho6 10 (by decide)).trans ((ho3 10 (by decide)).trans ((ho2 10 (by decide)).trans hP.2.2.2.2.2.2.2.2.2.2.2.1))), hg6, hsvm, hAB, Nat.zero_le 1, hsvm, Nat.le_refl 1⟩, x_cpy_comb ((fr6 226 (by omega)).trans ((fr5 226 (by omega)).trans hh4)) hg4 ho4 hR.2 hC.2, _, x_cpy_held ((fr6 227 (by omega)).trans hh5) hg5 ho5, fun i hi => by rw [if_pos hi]; exact x_mv_at (hGm i hi) (fun j hj _ => ((fr6 j (by omega)).trans ((fr5 j (by omega)).trans ((fr4 j (by omega)).trans ((fr3 j (by omega)).trans ((fr2 j (by omega)).trans rfl)))))), x_mv_at hN (fun j hj _ => ((fr6 j (by omega)).trans ((fr5 j (by omega)).trans ((fr4 j (by omega)).trans ((fr3 j (by omega)).trans ((fr2 j (by omega)).trans rfl))))))⟩, fun j j7 j26 j27 => ((fr6 j j7).trans ((fr5 j j27).trans ((fr4 j j26).trans ((fr3 j j7).trans ((fr2 j j7).trans rfl)))))⟩⟩)
  · have hb1 : ¬ (¬ (sv = 0)) := hb1
    refine q_const (p2 := 4) rfl rfl ?_
    exact q_retv rfl rfl (⟨rfl, by rw [if_pos (by omega)], rfl, rfl, Or.inr ⟨by omega, rfl⟩⟩)
end FPOP21
