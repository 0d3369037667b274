section FPOP63
theorem zr_no {φ : FH} {n sl a : Nat} {q : Prop} [Decidable q] {P : List (List XI)} {d M : Nat} {loc : List XV} (h : x_f P d M loc φ n sl (x_r φ n sl (0, if q then 1 else 0, a))) (e : ¬ q) : x_f P d M loc φ n sl (x_r φ n sl (0, 0, a)) := by
  rw [if_neg e] at h; exact h
theorem x_mv_gA {φ : FH} {v s la : Nat} {L : List Nat} (h : x_mv φ v (6, 0, s, la, L)) : ∃ f c g, 486 ≤ c ∧ φ v = some (0, 10, 7, f) ∧ x_vg f 6 0 s 1 la 0 (6, c, 0) ∧ φ c = some (6, 0, L.length, g) ∧ (∀ i, i < L.length → g i = (2, L.getD i 0, 0)) ∧ L.length ≤ 24 ∧ ∀ i, L.getD i 0 < 2147483648 := by
  rcases h.2.2.2 with q | q
  · exact absurd q.1 (by show ¬ 6 < 6; decide)
  · obtain ⟨-, -, -, -, hl, f, c, g, h1, h2, h3, h4, h5⟩ := q
    exact ⟨f, c, g, h1, h2, h3, h4, h5, hl, h.2.2.1⟩
theorem x_kn_congr {lik lik2 : Nat → Nat} {made a b : Nat} (h : ∀ i, i < made → lik i = lik2 i) : x_kn lik made a b ↔ x_kn lik2 made a b := by
  constructor
  · rintro (q | ⟨⟨q1, q2⟩, q3⟩)
    · exact Or.inl q
    · exact Or.inr ⟨⟨q1, q2⟩, by rw [← h a q1, ← h b q2]; exact q3⟩
  · rintro (q | ⟨⟨q1, q2⟩, q3⟩)
    · exact Or.inl q
    · exact Or.inr ⟨⟨q1, q2⟩, by rw [h a q1, h b q2]; exact q3⟩
theorem x_dd_congr {lik lik2 : Nat → Nat} {made : Nat} (h : ∀ i, i < made → lik i = lik2 i) : ∀ (L acc : List Nat), x_dd lik made acc L = x_dd lik2 made acc L
  | [], acc => rfl
  | x :: t, acc => by
    have e : acc.any (fun y => decide (x_kn lik made x y)) = acc.any (fun y => decide (x_kn lik2 made x y)) := by
      congr 1
      funext y
      exact decide_eq_decide.mpr (x_kn_congr h)
    show x_dd lik made (if acc.any (fun y => decide (x_kn lik made x y)) then acc else acc ++ [x]) t = x_dd lik2 made (if acc.any (fun y => decide (x_kn lik2 made x y)) then acc else acc ++ [x]) t
    rw [e]
    exact x_dd_congr h t _
theorem x_dd_two2 {lik : Nat → Nat} {made a b : Nat} (ha : a < 512) (hb : b < 512) (i : Nat) : (x_dd lik made [] [a, b]).getD i 0 < 512 := by
  by_cases hj : i < (x_dd lik made [] [a, b]).length
  · rw [List.getD_eq_getElem?_getD, List.getElem?_eq_getElem hj]
    rcases x_dd_mem (lik := lik) (made := made) [a, b] [] (List.getElem_mem hj) with h | h
    · cases h
    · rcases List.mem_cons.mp h with h | h
      · show (x_dd lik made [] [a, b])[i] < 512; rw [h]; exact ha
      · rcases List.mem_cons.mp h with h | h
        · show (x_dd lik made [] [a, b])[i] < 512; rw [h]; exact hb
        · cases h
  · rw [List.getD_eq_getElem?_getD, List.getElem?_eq_none (by omega)]; show 0 < 512; decide
theorem x_dd_two {lik : Nat → Nat} {made a b : Nat} {p : Nat → Prop} (ha : p a) (hb : p b) : ∀ j, j < (x_dd lik made [] [a, b]).length → p ((x_dd lik made [] [a, b]).getD j 0) := by
  intro j hj
  rw [List.getD_eq_getElem?_getD, List.getElem?_eq_getElem hj]
  have h := x_dd_mem (lik := lik) (made := made) [a, b] [] (List.getElem_mem hj)
  rcases h with h | h
  · cases h
  · rcases List.mem_cons.mp h with h | h
    · show p _; rw [show (some ((x_dd lik made [] [a, b])[j])).getD 0 = a from h]; exact ha
    · rcases List.mem_cons.mp h with h | h
      · show p _; rw [show (some ((x_dd lik made [] [a, b])[j])).getD 0 = b from h]; exact hb
      · cases h
theorem zc_fits_n {d n sl : Nat} {φ : FH} {v bb so lo la ho : Nat} {cc : XV} {fV : Nat → XV} (hV : φ v = some (0, 10, 7, fV)) (hg : x_vg fV 0 bb so lo la ho cc) : x_f x_P (d + 1) 58 [(6, 7, 0), (6, v, 0), (0, 1, 0), (11, 0, 0), (11, 0, 0), (11, 0, 0), (11, 0, 0), (11, 0, 0), (11, 0, 0), (11, 0, 0)] φ n sl (x_r φ n sl (0, 1, 0)) := by
  refine x_f_of rfl ?_
  refine q_load (v := (6, v, 0)) (p2 := 1) rfl rfl rfl rfl ?_
  refine q_getv (v := (0, 0, 0)) (p2 := 2) rfl hV (by decide) hg.1 rfl ?_
  refine q_if0_s (p2 := 3) rfl (by decide) (by omega) rfl (fun _ => ?_) (fun hb => absurd (show 0 = 0 by omega) hb)
  refine q_load (v := (6, v, 0)) (p2 := 12) rfl rfl rfl rfl ?_
  refine q_getv (v := (0, 0, 0)) (p2 := 13) rfl hV (by decide) hg.1 rfl ?_
  refine q_if0_s (p2 := 14) rfl (by decide) (by omega) rfl (fun hb => absurd hb (show ¬ (¬ (0 = 0)) by omega)) (fun _ => ?_)
  refine q_const (p2 := 15) rfl rfl ?_
  refine q_goto rfl ?_
  exact q_retv (v := (0, 1, 0)) rfl rfl (⟨rfl, rfl, rfl, rfl, rfl⟩)
def zhm (hm : Nat → MV) (k : Nat) (m : MV) : Nat → MV := fun i => if i = k then m else hm i
theorem x_LK_st1 {φ φ1 : FH} {A B made made2 st : Nat} {comb comb2 : Nat → Nat} {hm hm2 : Nat → MV} (h : x_LK φ A B made st comb hm ∧ (A = 230 ∧ B = 231 ∨ A = 231 ∧ B = 230)) (e : ∀ j, 230 ≤ j → j ≤ 231 → φ1 j = φ j) : x_LK φ1 A B made2 1 comb2 hm2 ∧ (A = 230 ∧ B = 231 ∨ A = 231 ∧ B = 230) := by
  obtain ⟨⟨la, lb, h1, h2, h3⟩, hA⟩ := h
  exact ⟨⟨la, lb, x_row_at2 h1 (e _ (by omega) (by omega)), x_row_at2 h2 (e _ (by omega) (by omega)), fun z => absurd z (by decide)⟩, hA⟩
set_option maxHeartbeats 1000000 in
theorem zc_set0_bad {d n sl : Nat} {φ : FH} {tpd : Nat} {tp : Nat → Nat} {lf : Nat} {mi : Nat} {made : Nat} {sv : Nat} {svm : Nat} {comb : Nat → Nat} {hm : Nat → MV} {sc : Nat → Nat} {sm : Nat → MV} {mh : MV} {noted : Nat} {verd : Nat} {ins : Nat → Nat} {ver : Nat → Nat} {sz : Nat} {bw : Nat → Nat} {x : Nat} (hG : zG φ tpd tp lf mi made sv svm comb hm sc sm mh noted verd ins ver sz bw) (hn0 : 486 ≤ n) (hpv : ∀ i, x_pv2 (hm i)) (hmi : mi + 100 ≤ 20000) (hx : x < 1000) (hna : ¬ x_isA made comb x 0) : x_f x_P (d + 4) 24 [(6, 0, 0), (0, x, 0), (0, 0, 0), (11, 0, 0), (11, 0, 0), (11, 0, 0)] φ n sl (x_bR n sl 0 0 (fun zw φ2 => zw = (0, 4294967295, 0) ∧ zG φ2 tpd tp lf mi made sv svm comb hm sc sm mh noted verd ins ver sz bw)) := by
  refine x_f_of rfl ?_
  have hG0 := hG
  obtain ⟨⟨hand, ie, hH, hhw⟩, hB, hTJ, hEJ, hN, hKJ, ⟨A, B, s9, hPS, hLK0⟩, hSP, hV5, ⟨slq, hSL⟩, hRW, hJ, hFJ, hWJ, ⟨ovn, ovh, hOV, hovn, hovh⟩⟩ := hG
  refine x_n_lt (fun hlt0 => ?_)
  have hmade := x_PS_lt hPS
  obtain ⟨co, ⟨top_, fr_, pc_, mm, st, lo, re, rs, fl, se, hKS⟩, hco⟩ := hKJ
  refine q_load (v := (6, 0, 0)) (p2 := 1) rfl rfl rfl rfl ?_
  refine q_getv (v := (6, 7, 0)) (p2 := 2) rfl hH (by decide) rfl rfl ?_
  refine q_load (v := (0, x, 0)) (p2 := 3) rfl rfl rfl rfl ?_
  refine q_load (v := (0, 0, 0)) (p2 := 4) rfl rfl rfl rfl ?_
  refine q_callr (xs := [(0, 0, 0), (0, x, 0), (6, 7, 0)]) (p2 := 5) rfl rfl rfl rfl (x_rcv_s 7 hPS.1.choose_spec.1) rfl (zr_no (e_has_0 hPS.1.choose_spec hPS.2.1 hKS.2.2.2.2.2.2.2.2.2 (by omega)) hna) (Nat.le_refl _) (Nat.le_refl _) rfl ?_
  refine q_if0_s (p2 := 6) rfl (by decide) (by omega) rfl (fun _ => ?_) (fun hb => absurd (show 0 = 0 by omega) hb)
  refine q_const (p2 := 16) rfl rfl ?_
  exact q_retv (v := (0, 4294967295, 0)) rfl rfl (⟨rfl, ⟨by omega, by omega⟩, ⟨by omega, by omega⟩, rfl, ⟨⟨_, _, hH, hhw⟩, hB, hTJ, hEJ, hN, ⟨_, ⟨_, _, _, _, _, _, _, _, _, _, hKS⟩, hco⟩, ⟨_, _, _, hPS, hLK0⟩, hSP, hV5, ⟨_, hSL⟩, hRW, hJ, hFJ, hWJ, ⟨_, _, hOV, hovn, hovh⟩⟩⟩)
set_option maxHeartbeats 1000000 in
theorem zc_set1_bad {d n sl : Nat} {φ : FH} {tpd : Nat} {tp : Nat → Nat} {lf : Nat} {mi : Nat} {made : Nat} {sv : Nat} {svm : Nat} {comb : Nat → Nat} {hm : Nat → MV} {sc : Nat → Nat} {sm : Nat → MV} {mh : MV} {noted : Nat} {verd : Nat} {ins : Nat → Nat} {ver : Nat → Nat} {sz : Nat} {bw : Nat → Nat} {x : Nat} (hG : zG φ tpd tp lf mi made sv svm comb hm sc sm mh noted verd ins ver sz bw) (hn0 : 486 ≤ n) (hpv : ∀ i, x_pv2 (hm i)) (hmi : mi + 100 ≤ 20000) (hx : x < 1000) (hna : ¬ x_isA made comb x 0) : x_f x_P (d + 4) 24 [(6, 0, 0), (0, x, 0), (0, 1, 0), (11, 0, 0), (11, 0, 0), (11, 0, 0)] φ n sl (x_bR n sl 0 0 (fun zw φ2 => zw = (0, 4294967295, 0) ∧ zG φ2 tpd tp lf mi made sv svm comb hm sc sm mh noted verd ins ver sz bw)) := by
  refine x_f_of rfl ?_
  have hG0 := hG
  obtain ⟨⟨hand, ie, hH, hhw⟩, hB, hTJ, hEJ, hN, hKJ, ⟨A, B, s9, hPS, hLK0⟩, hSP, hV5, ⟨slq, hSL⟩, hRW, hJ, hFJ, hWJ, ⟨ovn, ovh, hOV, hovn, hovh⟩⟩ := hG
  refine x_n_lt (fun hlt0 => ?_)
  have hmade := x_PS_lt hPS
  obtain ⟨co, ⟨top_, fr_, pc_, mm, st, lo, re, rs, fl, se, hKS⟩, hco⟩ := hKJ
  refine q_load (v := (6, 0, 0)) (p2 := 1) rfl rfl rfl rfl ?_
  refine q_getv (v := (6, 7, 0)) (p2 := 2) rfl hH (by decide) rfl rfl ?_
  refine q_load (v := (0, x, 0)) (p2 := 3) rfl rfl rfl rfl ?_
  refine q_load (v := (0, 1, 0)) (p2 := 4) rfl rfl rfl rfl ?_
  refine q_callr (xs := [(0, 1, 0), (0, x, 0), (6, 7, 0)]) (p2 := 5) rfl rfl rfl rfl (x_rcv_s 7 hPS.1.choose_spec.1) rfl (zr_no (e_has_1 hPS.1.choose_spec hPS.2.1 hKS.2.2.2.2.2.2.2.2.2 (by omega)) hna) (Nat.le_refl _) (Nat.le_refl _) rfl ?_
  refine q_if0_s (p2 := 6) rfl (by decide) (by omega) rfl (fun _ => ?_) (fun hb => absurd (show 0 = 0 by omega) hb)
  refine q_const (p2 := 16) rfl rfl ?_
  exact q_retv (v := (0, 4294967295, 0)) rfl rfl (⟨rfl, ⟨by omega, by omega⟩, ⟨by omega, by omega⟩, rfl, ⟨⟨_, _, hH, hhw⟩, hB, hTJ, hEJ, hN, ⟨_, ⟨_, _, _, _, _, _, _, _, _, _, hKS⟩, hco⟩, ⟨_, _, _, hPS, hLK0⟩, hSP, hV5, ⟨_, hSL⟩, hRW, hJ, hFJ, hWJ, ⟨_, _, hOV, hovn, hovh⟩⟩⟩)
set_option maxHeartbeats 1000000 in
theorem zc_set3_bad {d n sl : Nat} {φ : FH} {tpd : Nat} {tp : Nat → Nat} {lf : Nat} {mi : Nat} {made : Nat} {sv : Nat} {svm : Nat} {comb : Nat → Nat} {hm : Nat → MV} {sc : Nat → Nat} {sm : Nat → MV} {mh : MV} {noted : Nat} {verd : Nat} {ins : Nat → Nat} {ver : Nat → Nat} {sz : Nat} {bw : Nat → Nat} {x : Nat} (hG : zG φ tpd tp lf mi made sv svm comb hm sc sm mh noted verd ins ver sz bw) (hn0 : 486 ≤ n) (hpv : ∀ i, x_pv2 (hm i)) (hmi : mi + 100 ≤ 20000) (hx : x < 1000) (hna : ¬ x_isA made comb x 1) : x_f x_P (d + 4) 24 [(6, 0, 0), (0, x, 0), (0, 3, 0), (11, 0, 0), (11, 0, 0), (11, 0, 0)] φ n sl (x_bR n sl 0 0 (fun zw φ2 => zw = (0, 4294967295, 0) ∧ zG φ2 tpd tp lf mi made sv svm comb hm sc sm mh noted verd ins ver sz bw)) := by
  refine x_f_of rfl ?_
  have hG0 := hG
  obtain ⟨⟨hand, ie, hH, hhw⟩, hB, hTJ, hEJ, hN, hKJ, ⟨A, B, s9, hPS, hLK0⟩, hSP, hV5, ⟨slq, hSL⟩, hRW, hJ, hFJ, hWJ, ⟨ovn, ovh, hOV, hovn, hovh⟩⟩ := hG
  refine x_n_lt (fun hlt0 => ?_)
  have hmade := x_PS_lt hPS
  obtain ⟨co, ⟨top_, fr_, pc_, mm, st, lo, re, rs, fl, se, hKS⟩, hco⟩ := hKJ
  refine q_load (v := (6, 0, 0)) (p2 := 1) rfl rfl rfl rfl ?_
  refine q_getv (v := (6, 7, 0)) (p2 := 2) rfl hH (by decide) rfl rfl ?_
  refine q_load (v := (0, x, 0)) (p2 := 3) rfl rfl rfl rfl ?_
  refine q_load (v := (0, 3, 0)) (p2 := 4) rfl rfl rfl rfl ?_
  refine q_callr (xs := [(0, 3, 0), (0, x, 0), (6, 7, 0)]) (p2 := 5) rfl rfl rfl rfl (x_rcv_s 7 hPS.1.choose_spec.1) rfl (zr_no (e_has_3 hPS.1.choose_spec hPS.2.1 hKS.2.2.2.2.2.2.2.2.2 (by omega)) hna) (Nat.le_refl _) (Nat.le_refl _) rfl ?_
  refine q_if0_s (p2 := 6) rfl (by decide) (by omega) rfl (fun _ => ?_) (fun hb => absurd (show 0 = 0 by omega) hb)
  refine q_const (p2 := 16) rfl rfl ?_
  exact q_retv (v := (0, 4294967295, 0)) rfl rfl (⟨rfl, ⟨by omega, by omega⟩, ⟨by omega, by omega⟩, rfl, ⟨⟨_, _, hH, hhw⟩, hB, hTJ, hEJ, hN, ⟨_, ⟨_, _, _, _, _, _, _, _, _, _, hKS⟩, hco⟩, ⟨_, _, _, hPS, hLK0⟩, hSP, hV5, ⟨_, hSL⟩, hRW, hJ, hFJ, hWJ, ⟨_, _, hOV, hovn, hovh⟩⟩⟩)
set_option maxHeartbeats 1000000 in
theorem zc_set0_1 {d n sl : Nat} {φ : FH} {tp : Nat → Nat} {lf : Nat} {mi : Nat} {made : Nat} {sv : Nat} {svm : Nat} {comb : Nat → Nat} {hm : Nat → MV} {sc : Nat → Nat} {sm : Nat → MV} {mh : MV} {noted : Nat} {verd : Nat} {ins : Nat → Nat} {ver : Nat → Nat} {sz : Nat} {bw : Nat → Nat} {x w1 d1 : Nat} (hG : zG φ 1 tp lf mi made sv svm comb hm sc sm mh noted verd ins ver sz bw) (hn0 : 486 ≤ n) (hpv : ∀ i, x_pv2 (hm i)) (hmi : mi + 100 ≤ 20000) (hx : x < 40) (hisA : x_isA made comb x 0) (ht0 : tp 0 = d1) (hdd1 : 48 ≤ d1 ∧ d1 ≤ 57) (hw : 0 + d1 - 48 = w1) (hw1 : w1 < 1024) : x_f x_P (d + 11) 24 [(6, 0, 0), (0, x, 0), (0, 0, 0), (11, 0, 0), (11, 0, 0), (11, 0, 0)] φ n sl (x_bR n sl 1 7 (fun zw φ2 => zw = (0, 1, 0) ∧ zG φ2 0 tp 0 (mi + 1) made sv svm comb (zhm hm (x * 40 + 0) (1, w1, 0, 0, [])) sc sm mh noted verd ins ver sz bw)) := by
  refine x_f_of rfl ?_
  have hG0 := hG
  obtain ⟨⟨hand, ie, hH, hhw⟩, hB, hTJ, hEJ, hN, hKJ, ⟨A, B, s9, hPS, hLK0⟩, hSP, hV5, ⟨slq, hSL⟩, hRW, hJ, hFJ, hWJ, ⟨ovn, ovh, hOV, hovn, hovh⟩⟩ := hG
  refine x_n_lt (fun hlt0 => ?_)
  have hmade := x_PS_lt hPS
  obtain ⟨tot, at_, cur, pl, va, fa, fp, sf, sp, no, op, K, P, V, hT⟩ := hTJ
  obtain ⟨bi, top, hid, lc, slo, own, sk, hE⟩ := hEJ
  obtain ⟨co, ⟨top_, fr_, pc_, mm, st, lo, re, rs, fl, se, hKS⟩, hco⟩ := hKJ
  refine q_load (v := (6, 0, 0)) (p2 := 1) rfl rfl rfl rfl ?_
  refine q_getv (v := (6, 7, 0)) (p2 := 2) rfl hH (by decide) rfl rfl ?_
  refine q_load (v := (0, x, 0)) (p2 := 3) rfl rfl rfl rfl ?_
  refine q_load (v := (0, 0, 0)) (p2 := 4) rfl rfl rfl rfl ?_
  refine q_callr (xs := [(0, 0, 0), (0, x, 0), (6, 7, 0)]) (p2 := 5) rfl rfl rfl rfl (x_rcv_s 7 hPS.1.choose_spec.1) rfl (x_r_yes (e_has_0 hPS.1.choose_spec hPS.2.1 hKS.2.2.2.2.2.2.2.2.2 (by omega)) hisA) (Nat.le_refl _) (Nat.le_refl _) rfl ?_
  refine q_if0_s (p2 := 6) rfl (by decide) (by omega) rfl (fun hb => absurd hb (show ¬ (1 = 0) by omega)) (fun _ => ?_)
  refine q_load (v := (6, 0, 0)) (p2 := 7) rfl rfl rfl rfl ?_
  refine q_getv (v := (6, 7, 0)) (p2 := 8) rfl hH (by decide) rfl rfl ?_
  refine q_getv (v := (6, 237, 0)) (p2 := 9) rfl hPS.1.choose_spec.1 (by decide) hPS.1.choose_spec.2.1 rfl ?_
  refine q_getv (v := (6, 271, 0)) (p2 := 10) rfl hKS.2.2.2.2.2.2.2.2.2.1.choose_spec.1 (by decide) hKS.2.2.2.2.2.2.2.2.2.1.choose_spec.2.2.2.2.2.2.2.2.1 rfl ?_
  refine q_load (v := (0, 0, 0)) (p2 := 11) rfl rfl rfl rfl ?_
  refine q_aldv (v := (6, 272, 0)) (p2 := 12) rfl (x_sc_271 hKS.2.2.2.2.2.2.2.2.2) (by omega) (by omega) rfl rfl ?_
  refine q_const (p2 := 13) rfl rfl ?_
  refine q_aldv (v := (0, 0, 0)) (p2 := 14) rfl (x_sc_272 hKS.2.2.2.2.2.2.2.2.2) (by omega) (by omega) rfl rfl ?_
  refine q_if0_s (p2 := 15) rfl (by decide) (by omega) rfl (fun _ => ?_) (fun hb => absurd (show 0 = 0 by omega) hb)
  refine q_load (v := (6, 0, 0)) (p2 := 18) rfl rfl rfl rfl ?_
  refine q_callrE (xs := [(6, 0, 0)]) (p2 := 19) rfl rfl rfl rfl (x_rcv_s 0 hH) rfl (zc_h_rx_whole1 hH hB hT hE hKS hPS hN ht0 (by omega)) (Nat.le_refl _) (Nat.le_refl _) rfl (fun φ1 hR1 => ?_)
  obtain ⟨hs1_0, hs1_1, hs1_2, hs1_3, fr1⟩ := hR1
  refine q_store (loc2 := [(6, 0, 0), (0, x, 0), (0, 0, 0), (0, 60, 0), (11, 0, 0), (11, 0, 0)]) (p2 := 20) rfl rfl rfl rfl rfl ?_
  refine q_load (v := (0, 60, 0)) (p2 := 21) rfl rfl rfl rfl ?_
  refine q_if0_s (p2 := 22) rfl (by decide) (by omega) rfl (fun _ => ?_) (fun hb => absurd (show ¬ (60 < 0) by omega) hb)
  refine q_load (v := (6, 0, 0)) (p2 := 25) rfl rfl rfl rfl ?_
  refine q_getv (v := (6, 7, 0)) (p2 := 26) rfl hs1_0 (by decide) rfl rfl ?_
  refine x_n_lt (fun hlt3 => ?_)
  have hm2 := (x_PS_at hPS (fun j hj hne => by have hj2 := x_some_lt hlt0 hne; exact (fr1 j (by omega) (by omega) (by omega) (by omega) (by omega) (by omega) (by omega))))
  have hm4 := (x_LK_at2 hLK0 (fun j h1 h2 => (fr1 j (by omega) (by omega) (by omega) (by omega) (by omega) (by omega) (by omega))))
  refine q_callvE (xs := [(6, 7, 0)]) (p2 := 27) rfl rfl rfl rfl (x_rcv_s 7 hm2.1.choose_spec.1) rfl (e_prepare hm2 hm4.1 hpv hs1_3.2.2.2.2.2.2.2.2.2) (Nat.le_refl _) (Nat.le_refl _) rfl (fun φ5 hR5 => ?_)
  obtain ⟨A5, B5, hPS5, hLK5, frn5⟩ := hR5
  have hAB5 := x_pop_AB hPS5.1.choose_spec
  obtain ⟨lik5, lb5, hL5, hLb5, hlk5⟩ := id hLK5
  refine x_n_lt (fun hlt6 => ?_)
  have hLKx5 : x_LK φ5 A5 B5 made 0 comb hm ∧ _ := ⟨hLK5, hAB5⟩
  refine q_load (v := (6, 0, 0)) (p2 := 28) rfl rfl rfl rfl ?_
  have hm7 := (zq_H_at hs1_0 (frn5 0 (by omega) (by omega) (by omega)))
  refine q_getv (v := (6, 455, 0)) (p2 := 29) rfl hm7 (by decide) rfl rfl ?_
  refine q_load (v := (0, 60, 0)) (p2 := 30) rfl rfl rfl rfl ?_
  refine q_load (v := (6, 0, 0)) (p2 := 31) rfl rfl rfl rfl ?_
  refine q_getv (v := (6, 7, 0)) (p2 := 32) rfl hm7 (by decide) rfl rfl ?_
  refine q_getv (v := (6, 225, 0)) (p2 := 33) rfl hPS5.1.choose_spec.1 (by decide) hPS5.1.choose_spec.2.2.1 rfl ?_
  have hm8 := (x_KS_at2 hs1_3 (fun j h1 h2 h3 h4 => (frn5 j (by omega) (by omega) (by omega))))
  refine q_callrB (xs := [(6, 225, 0), (0, 60, 0), (6, 455, 0)]) (p2 := 34) rfl rfl rfl rfl (x_rcv_s 455 (x_KS_455 hm8)) rfl (zc_run_whole hPS5 hm8 (by omega) (by omega) (((x_s_ne (by decide)).trans ((x_s_ne (by decide)).trans ((x_s_ne (by decide)).trans ((x_s_ne (by decide)).trans ((x_s_ne (by decide)).trans (x_s_eq))))))) (((x_s_ne (by decide)).trans ((x_s_ne (by decide)).trans ((x_s_ne (by decide)).trans (x_s_eq))))) (((x_s_ne (by decide)).trans ((x_s_ne (by decide)).trans (x_s_eq)))) ((((x_s_ne (by decide)).trans (x_s_eq))).trans hw) ((x_s_eq)) (by omega)) rfl (fun w9 φ9 n9 sl9 hn9 hN9 hs9 hT9 hR9 => ?_)
  obtain ⟨v9, hwv9, ⟨ka9, kb9, kc9, kd9, ke9, kf9, kg9, kh9, ki9, kj9, hK9⟩, hV9, frn9⟩ := hR9
  subst hwv9
  refine x_n_lt (fun hlt10 => ?_)
  have hz11 := x_mv_lt hV9 hlt10
  have hy11 := hV9.1
  refine q_store (loc2 := [(6, 0, 0), (0, x, 0), (0, 0, 0), (0, 60, 0), (6, v9, 0), (11, 0, 0)]) (p2 := 35) rfl rfl rfl rfl rfl ?_
  refine q_load (v := (6, 0, 0)) (p2 := 36) rfl rfl rfl rfl ?_
  have hm12 := (zq_H_at hm7 (frn9 0 (by omega) (by omega)))
  refine q_getv (v := (6, 455, 0)) (p2 := 37) rfl hm12 (by decide) rfl rfl ?_
  refine q_getv (v := (0, 0, 0)) (p2 := 38) rfl (x_KS_455 hK9) (by decide) hK9.1.choose_spec.2.2.2.2.2.2.2.2.2.2.2.2.2.2.2.2.2.1 rfl ?_
  refine q_if0_s (p2 := 39) rfl (by decide) (by omega) rfl (fun _ => ?_) (fun hb => absurd (show 0 = 0 by omega) hb)
  refine q_load (v := (6, 0, 0)) (p2 := 42) rfl rfl rfl rfl ?_
  refine q_getv (v := (6, 7, 0)) (p2 := 43) rfl hm12 (by decide) rfl rfl ?_
  have hm13 := (x_PS_at hPS5 (fun j hj hne => by have hj2 := x_some_lt hlt6 hne; exact (frn9 j (by omega) (by omega))))
  refine q_getv (v := (6, 237, 0)) (p2 := 44) rfl hm13.1.choose_spec.1 (by decide) hm13.1.choose_spec.2.1 rfl ?_
  refine q_getv (v := (6, 271, 0)) (p2 := 45) rfl hK9.2.2.2.2.2.2.2.2.2.1.choose_spec.1 (by decide) hK9.2.2.2.2.2.2.2.2.2.1.choose_spec.2.2.2.2.2.2.2.2.1 rfl ?_
  refine q_load (v := (0, 0, 0)) (p2 := 46) rfl rfl rfl rfl ?_
  refine q_aldv (v := (6, 272, 0)) (p2 := 47) rfl (x_sc_271 hK9.2.2.2.2.2.2.2.2.2) (by omega) (by omega) rfl rfl ?_
  refine q_const (p2 := 48) rfl rfl ?_
  refine q_aldv (v := (0, 0, 0)) (p2 := 49) rfl (x_sc_272 hK9.2.2.2.2.2.2.2.2.2) (by omega) (by omega) rfl rfl ?_
  refine q_store (loc2 := [(6, 0, 0), (0, x, 0), (0, 0, 0), (0, 60, 0), (6, v9, 0), (0, 0, 0)]) (p2 := 50) rfl rfl rfl rfl rfl ?_
  refine q_load (v := (6, 0, 0)) (p2 := 51) rfl rfl rfl rfl ?_
  refine q_getv (v := (6, 7, 0)) (p2 := 52) rfl hm12 (by decide) rfl rfl ?_
  refine q_load (v := (6, v9, 0)) (p2 := 53) rfl rfl rfl rfl ?_
  refine q_load (v := (0, 0, 0)) (p2 := 54) rfl rfl rfl rfl ?_
  obtain ⟨fV14, hW14, hg14⟩ := x_mv_gS hV9 (by decide)
  have hl14 := hlt10 _ _ hW14
  have h6_14 := hV9.1
  refine q_callr (xs := [(0, 0, 0), (6, v9, 0), (6, 7, 0)]) (p2 := 55) rfl rfl rfl rfl (x_rcv_s 7 hm13.1.choose_spec.1) rfl (e_conv_0 hm13.1.choose_spec hW14 hg14 (by decide) (by omega) hK9.2.2.2.2.2.2.2.2.2) (Nat.le_refl _) (Nat.le_refl _) rfl ?_
  refine q_store (loc2 := [(6, 0, 0), (0, x, 0), (0, 0, 0), (0, 60, 0), (6, v9, 0), (0, 0, 0)]) (p2 := 56) rfl rfl rfl rfl rfl ?_
  refine q_load (v := (6, 0, 0)) (p2 := 57) rfl rfl rfl rfl ?_
  refine q_getv (v := (6, 7, 0)) (p2 := 58) rfl hm12 (by decide) rfl rfl ?_
  refine q_load (v := (6, v9, 0)) (p2 := 59) rfl rfl rfl rfl ?_
  refine q_load (v := (0, 0, 0)) (p2 := 60) rfl rfl rfl rfl ?_
  refine q_callr (xs := [(0, 0, 0), (6, v9, 0), (6, 7, 0)]) (p2 := 61) rfl rfl rfl rfl (x_rcv_s 7 hm13.1.choose_spec.1) rfl (e_fits_0 hm13.1.choose_spec hW14 hg14 (by decide) (by omega) hK9.2.2.2.2.2.2.2.2.2 (by decide)) (Nat.le_refl _) (Nat.le_refl _) rfl ?_
  refine q_if0_s (p2 := 62) rfl (by decide) (by omega) rfl (fun _ => ?_) (fun hb => absurd (show ¬ (1 = 0) by omega) hb)
  refine q_load (v := (6, 0, 0)) (p2 := 65) rfl rfl rfl rfl ?_
  refine q_getv (v := (6, 7, 0)) (p2 := 66) rfl hm12 (by decide) rfl rfl ?_
  refine q_load (v := (0, x, 0)) (p2 := 67) rfl rfl rfl rfl ?_
  refine q_load (v := (0, 0, 0)) (p2 := 68) rfl rfl rfl rfl ?_
  refine q_load (v := (6, v9, 0)) (p2 := 69) rfl rfl rfl rfl ?_
  have hm15 := (x_LK_at2 hLKx5 (fun j h1 h2 => (frn9 j (by omega) (by omega))))
  refine q_callvE (xs := [(6, v9, 0), (0, 0, 0), (0, x, 0), (6, 7, 0)]) (p2 := 70) rfl rfl rfl rfl (x_rcv_s 7 hm13.1.choose_spec.1) rfl (e_holdP hm13 hV9 (by omega) (by omega)) (Nat.le_refl _) (Nat.le_refl _) rfl (fun φ16 hR16 => ?_)
  obtain ⟨hPS16, frn16⟩ := hR16
  have hPZ16 : x_PS φ16 A5 B5 made sv svm 1 comb (zhm hm (x * 40 + 0) (1, w1, 0, 0, [])) := hPS16
  refine x_n_lt (fun hlt17 => ?_)
  have hLZ16 := x_LK_st1 (made2 := made) (comb2 := comb) (hm2 := (zhm hm (x * 40 + 0) (1, w1, 0, 0, []))) hm15 (fun j h1 h2 => (frn16 j (by omega) (by omega)))
  refine q_load (v := (6, v9, 0)) (p2 := 71) rfl rfl rfl rfl ?_
  refine q_getv (v := (0, 1, 0)) (p2 := 72) rfl ((frn16 v9 (by omega) (by omega)).trans hW14) (by decide) hg14.1 rfl ?_
  have hm18 := (zq_H_at hm12 (frn16 0 (by omega) (by omega)))
  have hm19 := (zq_tp_at hB ((frn16 1 (by omega) (by omega)).trans ((frn9 1 (by omega) (by omega)).trans ((frn5 1 (by omega) (by omega) (by omega)).trans (fr1 1 (by decide) (by decide) (by decide) (by decide) (by decide) (by decide) (by decide))))))
  have hm20 := (zq_T_at hs1_1 ((frn16 2 (by omega) (by omega)).trans ((frn9 2 (by omega) (by omega)).trans (frn5 2 (by omega) (by omega) (by omega)))) ((frn16 3 (by omega) (by omega)).trans ((frn9 3 (by omega) (by omega)).trans (frn5 3 (by omega) (by omega) (by omega)))) ((frn16 4 (by omega) (by omega)).trans ((frn9 4 (by omega) (by omega)).trans (frn5 4 (by omega) (by omega) (by omega)))) ((frn16 5 (by omega) (by omega)).trans ((frn9 5 (by omega) (by omega)).trans (frn5 5 (by omega) (by omega) (by omega)))) ((frn16 6 (by omega) (by omega)).trans ((frn9 6 (by omega) (by omega)).trans (frn5 6 (by omega) (by omega) (by omega)))))
  have hm21 := (zq_E_at hs1_2 ((frn16 232 (by omega) (by omega)).trans ((frn9 232 (by omega) (by omega)).trans (frn5 232 (by omega) (by omega) (by omega)))))
  have hm22 := (zq_nm_at hN ((frn16 239 (by omega) (by omega)).trans ((frn9 239 (by omega) (by omega)).trans ((frn5 239 (by omega) (by omega) (by omega)).trans (fr1 239 (by decide) (by decide) (by decide) (by decide) (by decide) (by decide) (by decide))))) ((frn16 242 (by omega) (by omega)).trans ((frn9 242 (by omega) (by omega)).trans ((frn5 242 (by omega) (by omega) (by omega)).trans (fr1 242 (by decide) (by decide) (by decide) (by decide) (by decide) (by decide) (by decide))))) ((frn16 244 (by omega) (by omega)).trans ((frn9 244 (by omega) (by omega)).trans ((frn5 244 (by omega) (by omega) (by omega)).trans (fr1 244 (by decide) (by decide) (by decide) (by decide) (by decide) (by decide) (by decide))))))
  have hm23 := (x_KS_at2 hK9 (fun j h1 h2 h3 h4 => (frn16 j (by omega) (by omega))))
  have hm24 := (x_SP_at hSP (fun j hj hne => by have hj2 := x_some_lt hlt0 hne; exact ((frn16 j (by omega) (by omega)).trans ((frn9 j (by omega) (by omega)).trans ((frn5 j (by omega) (by omega) (by omega)).trans (fr1 j (by omega) (by omega) (by omega) (by omega) (by omega) (by omega) (by omega)))))))
  have hm25 := (zq_V5_at hV5 ((frn16 485 (by omega) (by omega)).trans ((frn9 485 (by omega) (by omega)).trans ((frn5 485 (by omega) (by omega) (by omega)).trans (fr1 485 (by decide) (by decide) (by decide) (by decide) (by decide) (by decide) (by decide))))))
  have hm26 := (zq_SL_at hSL ((frn16 482 (by omega) (by omega)).trans ((frn9 482 (by omega) (by omega)).trans ((frn5 482 (by omega) (by omega) (by omega)).trans (fr1 482 (by decide) (by decide) (by decide) (by decide) (by decide) (by decide) (by decide))))))
  have hm27 := (zq_RW_at hRW ((frn16 483 (by omega) (by omega)).trans ((frn9 483 (by omega) (by omega)).trans ((frn5 483 (by omega) (by omega) (by omega)).trans (fr1 483 (by decide) (by decide) (by decide) (by decide) (by decide) (by decide) (by decide))))))
  have hm28 := (zq_J_at hJ ((frn16 468 (by omega) (by omega)).trans ((frn9 468 (by omega) (by omega)).trans ((frn5 468 (by omega) (by omega) (by omega)).trans (fr1 468 (by decide) (by decide) (by decide) (by decide) (by decide) (by decide) (by decide))))) ((frn16 469 (by omega) (by omega)).trans ((frn9 469 (by omega) (by omega)).trans ((frn5 469 (by omega) (by omega) (by omega)).trans (fr1 469 (by decide) (by decide) (by decide) (by decide) (by decide) (by decide) (by decide))))) ((frn16 470 (by omega) (by omega)).trans ((frn9 470 (by omega) (by omega)).trans ((frn5 470 (by omega) (by omega) (by omega)).trans (fr1 470 (by decide) (by decide) (by decide) (by decide) (by decide) (by decide) (by decide))))))
  have hm29 := (zFJ_at hFJ (fun j h1 h2 => ((frn16 j (by omega) (by omega)).trans ((frn9 j (by omega) (by omega)).trans ((frn5 j (by omega) (by omega) (by omega)).trans (fr1 j (by omega) (by omega) (by omega) (by omega) (by omega) (by omega) (by omega)))))))
  have hm30 := (zWJ_at hWJ (fun j h1 h2 => ((frn16 j (by omega) (by omega)).trans ((frn9 j (by omega) (by omega)).trans ((frn5 j (by omega) (by omega) (by omega)).trans (fr1 j (by omega) (by omega) (by omega) (by omega) (by omega) (by omega) (by omega)))))))
  have hm31 := (zq_OV_at hOV ((frn16 452 (by omega) (by omega)).trans ((frn9 452 (by omega) (by omega)).trans ((frn5 452 (by omega) (by omega) (by omega)).trans (fr1 452 (by decide) (by decide) (by decide) (by decide) (by decide) (by decide) (by decide))))) ((frn16 453 (by omega) (by omega)).trans ((frn9 453 (by omega) (by omega)).trans ((frn5 453 (by omega) (by omega) (by omega)).trans (fr1 453 (by decide) (by decide) (by decide) (by decide) (by decide) (by decide) (by decide))))))
  exact q_retv (v := (0, 1, 0)) rfl rfl (⟨rfl, ⟨by omega, by omega⟩, ⟨by omega, by omega⟩, rfl, ⟨⟨_, _, hm18, (x_hw_at hhw (fun j hj hne => by have hj2 := x_some_lt hlt0 hne; exact ((frn16 j (by omega) (by omega)).trans ((frn9 j (by omega) (by omega)).trans ((frn5 j (by omega) (by omega) (by omega)).trans (fr1 j (by omega) (by omega) (by omega) (by omega) (by omega) (by omega) (by omega)))))))⟩, hm19, ⟨_, _, _, _, _, _, _, _, _, _, _, _, _, _, hm20⟩, ⟨_, _, _, _, _, _, _, hm21⟩, hm22, ⟨_, ⟨_, _, _, _, _, _, _, _, _, _, hm23⟩, (fun i hi => by rw [x_s_ne (by omega), x_s_ne (by omega), x_s_ne (by omega), x_s_ne (by omega), x_s_ne (by omega), x_s_ne (by omega)]; exact hco i hi)⟩, ⟨_, _, _, hPZ16, hLZ16⟩, hm24, hm25, ⟨_, hm26⟩, hm27, hm28, hm29, hm30, ⟨_, _, hm31, hovn, hovh⟩⟩⟩)
set_option maxHeartbeats 1000000 in
theorem zc_set0_2 {d n sl : Nat} {φ : FH} {tp : Nat → Nat} {lf : Nat} {mi : Nat} {made : Nat} {sv : Nat} {svm : Nat} {comb : Nat → Nat} {hm : Nat → MV} {sc : Nat → Nat} {sm : Nat → MV} {mh : MV} {noted : Nat} {verd : Nat} {ins : Nat → Nat} {ver : Nat → Nat} {sz : Nat} {bw : Nat → Nat} {x w1 d1 d2 : Nat} (hG : zG φ 2 tp lf mi made sv svm comb hm sc sm mh noted verd ins ver sz bw) (hn0 : 486 ≤ n) (hpv : ∀ i, x_pv2 (hm i)) (hmi : mi + 100 ≤ 20000) (hx : x < 40) (hisA : x_isA made comb x 0) (ht0 : tp 0 = d1) (ht1 : tp 1 = d2) (hdd1 : 48 ≤ d1 ∧ d1 ≤ 57) (hdd2 : 48 ≤ d2 ∧ d2 ≤ 57) (hw : (((0 + d1) - 48) * 10) + d2 - 48 = w1) (hw1 : w1 < 1024) : x_f x_P (d + 11) 24 [(6, 0, 0), (0, x, 0), (0, 0, 0), (11, 0, 0), (11, 0, 0), (11, 0, 0)] φ n sl (x_bR n sl 1 7 (fun zw φ2 => zw = (0, 1, 0) ∧ zG φ2 0 tp 0 (mi + 1) made sv svm comb (zhm hm (x * 40 + 0) (1, w1, 0, 0, [])) sc sm mh noted verd ins ver sz bw)) := by
  refine x_f_of rfl ?_
  have hG0 := hG
  obtain ⟨⟨hand, ie, hH, hhw⟩, hB, hTJ, hEJ, hN, hKJ, ⟨A, B, s9, hPS, hLK0⟩, hSP, hV5, ⟨slq, hSL⟩, hRW, hJ, hFJ, hWJ, ⟨ovn, ovh, hOV, hovn, hovh⟩⟩ := hG
  refine x_n_lt (fun hlt0 => ?_)
  have hmade := x_PS_lt hPS
  obtain ⟨tot, at_, cur, pl, va, fa, fp, sf, sp, no, op, K, P, V, hT⟩ := hTJ
  obtain ⟨bi, top, hid, lc, slo, own, sk, hE⟩ := hEJ
  obtain ⟨co, ⟨top_, fr_, pc_, mm, st, lo, re, rs, fl, se, hKS⟩, hco⟩ := hKJ
  refine q_load (v := (6, 0, 0)) (p2 := 1) rfl rfl rfl rfl ?_
  refine q_getv (v := (6, 7, 0)) (p2 := 2) rfl hH (by decide) rfl rfl ?_
  refine q_load (v := (0, x, 0)) (p2 := 3) rfl rfl rfl rfl ?_
  refine q_load (v := (0, 0, 0)) (p2 := 4) rfl rfl rfl rfl ?_
  refine q_callr (xs := [(0, 0, 0), (0, x, 0), (6, 7, 0)]) (p2 := 5) rfl rfl rfl rfl (x_rcv_s 7 hPS.1.choose_spec.1) rfl (x_r_yes (e_has_0 hPS.1.choose_spec hPS.2.1 hKS.2.2.2.2.2.2.2.2.2 (by omega)) hisA) (Nat.le_refl _) (Nat.le_refl _) rfl ?_
  refine q_if0_s (p2 := 6) rfl (by decide) (by omega) rfl (fun hb => absurd hb (show ¬ (1 = 0) by omega)) (fun _ => ?_)
  refine q_load (v := (6, 0, 0)) (p2 := 7) rfl rfl rfl rfl ?_
  refine q_getv (v := (6, 7, 0)) (p2 := 8) rfl hH (by decide) rfl rfl ?_
  refine q_getv (v := (6, 237, 0)) (p2 := 9) rfl hPS.1.choose_spec.1 (by decide) hPS.1.choose_spec.2.1 rfl ?_
  refine q_getv (v := (6, 271, 0)) (p2 := 10) rfl hKS.2.2.2.2.2.2.2.2.2.1.choose_spec.1 (by decide) hKS.2.2.2.2.2.2.2.2.2.1.choose_spec.2.2.2.2.2.2.2.2.1 rfl ?_
  refine q_load (v := (0, 0, 0)) (p2 := 11) rfl rfl rfl rfl ?_
  refine q_aldv (v := (6, 272, 0)) (p2 := 12) rfl (x_sc_271 hKS.2.2.2.2.2.2.2.2.2) (by omega) (by omega) rfl rfl ?_
  refine q_const (p2 := 13) rfl rfl ?_
  refine q_aldv (v := (0, 0, 0)) (p2 := 14) rfl (x_sc_272 hKS.2.2.2.2.2.2.2.2.2) (by omega) (by omega) rfl rfl ?_
  refine q_if0_s (p2 := 15) rfl (by decide) (by omega) rfl (fun _ => ?_) (fun hb => absurd (show 0 = 0 by omega) hb)
  refine q_load (v := (6, 0, 0)) (p2 := 18) rfl rfl rfl rfl ?_
  refine q_callrE (xs := [(6, 0, 0)]) (p2 := 19) rfl rfl rfl rfl (x_rcv_s 0 hH) rfl (zc_h_rx_whole2 hH hB hT hE hKS hPS hN ht0 ht1 (by omega)) (Nat.le_refl _) (Nat.le_refl _) rfl (fun φ1 hR1 => ?_)
  obtain ⟨hs1_0, hs1_1, hs1_2, hs1_3, fr1⟩ := hR1
  refine q_store (loc2 := [(6, 0, 0), (0, x, 0), (0, 0, 0), (0, 60, 0), (11, 0, 0), (11, 0, 0)]) (p2 := 20) rfl rfl rfl rfl rfl ?_
  refine q_load (v := (0, 60, 0)) (p2 := 21) rfl rfl rfl rfl ?_
  refine q_if0_s (p2 := 22) rfl (by decide) (by omega) rfl (fun _ => ?_) (fun hb => absurd (show ¬ (60 < 0) by omega) hb)
  refine q_load (v := (6, 0, 0)) (p2 := 25) rfl rfl rfl rfl ?_
  refine q_getv (v := (6, 7, 0)) (p2 := 26) rfl hs1_0 (by decide) rfl rfl ?_
  refine x_n_lt (fun hlt3 => ?_)
  have hm2 := (x_PS_at hPS (fun j hj hne => by have hj2 := x_some_lt hlt0 hne; exact (fr1 j (by omega) (by omega) (by omega) (by omega) (by omega) (by omega) (by omega))))
  have hm4 := (x_LK_at2 hLK0 (fun j h1 h2 => (fr1 j (by omega) (by omega) (by omega) (by omega) (by omega) (by omega) (by omega))))
  refine q_callvE (xs := [(6, 7, 0)]) (p2 := 27) rfl rfl rfl rfl (x_rcv_s 7 hm2.1.choose_spec.1) rfl (e_prepare hm2 hm4.1 hpv hs1_3.2.2.2.2.2.2.2.2.2) (Nat.le_refl _) (Nat.le_refl _) rfl (fun φ5 hR5 => ?_)
  obtain ⟨A5, B5, hPS5, hLK5, frn5⟩ := hR5
  have hAB5 := x_pop_AB hPS5.1.choose_spec
  obtain ⟨lik5, lb5, hL5, hLb5, hlk5⟩ := id hLK5
  refine x_n_lt (fun hlt6 => ?_)
  have hLKx5 : x_LK φ5 A5 B5 made 0 comb hm ∧ _ := ⟨hLK5, hAB5⟩
  refine q_load (v := (6, 0, 0)) (p2 := 28) rfl rfl rfl rfl ?_
  have hm7 := (zq_H_at hs1_0 (frn5 0 (by omega) (by omega) (by omega)))
  refine q_getv (v := (6, 455, 0)) (p2 := 29) rfl hm7 (by decide) rfl rfl ?_
  refine q_load (v := (0, 60, 0)) (p2 := 30) rfl rfl rfl rfl ?_
  refine q_load (v := (6, 0, 0)) (p2 := 31) rfl rfl rfl rfl ?_
  refine q_getv (v := (6, 7, 0)) (p2 := 32) rfl hm7 (by decide) rfl rfl ?_
  refine q_getv (v := (6, 225, 0)) (p2 := 33) rfl hPS5.1.choose_spec.1 (by decide) hPS5.1.choose_spec.2.2.1 rfl ?_
  have hm8 := (x_KS_at2 hs1_3 (fun j h1 h2 h3 h4 => (frn5 j (by omega) (by omega) (by omega))))
  refine q_callrB (xs := [(6, 225, 0), (0, 60, 0), (6, 455, 0)]) (p2 := 34) rfl rfl rfl rfl (x_rcv_s 455 (x_KS_455 hm8)) rfl (zc_run_whole hPS5 hm8 (by omega) (by omega) (((x_s_ne (by decide)).trans ((x_s_ne (by decide)).trans ((x_s_ne (by decide)).trans ((x_s_ne (by decide)).trans ((x_s_ne (by decide)).trans (x_s_eq))))))) (((x_s_ne (by decide)).trans ((x_s_ne (by decide)).trans ((x_s_ne (by decide)).trans (x_s_eq))))) (((x_s_ne (by decide)).trans ((x_s_ne (by decide)).trans (x_s_eq)))) ((((x_s_ne (by decide)).trans (x_s_eq))).trans hw) ((x_s_eq)) (by omega)) rfl (fun w9 φ9 n9 sl9 hn9 hN9 hs9 hT9 hR9 => ?_)
  obtain ⟨v9, hwv9, ⟨ka9, kb9, kc9, kd9, ke9, kf9, kg9, kh9, ki9, kj9, hK9⟩, hV9, frn9⟩ := hR9
  subst hwv9
  refine x_n_lt (fun hlt10 => ?_)
  have hz11 := x_mv_lt hV9 hlt10
  have hy11 := hV9.1
  refine q_store (loc2 := [(6, 0, 0), (0, x, 0), (0, 0, 0), (0, 60, 0), (6, v9, 0), (11, 0, 0)]) (p2 := 35) rfl rfl rfl rfl rfl ?_
  refine q_load (v := (6, 0, 0)) (p2 := 36) rfl rfl rfl rfl ?_
  have hm12 := (zq_H_at hm7 (frn9 0 (by omega) (by omega)))
  refine q_getv (v := (6, 455, 0)) (p2 := 37) rfl hm12 (by decide) rfl rfl ?_
  refine q_getv (v := (0, 0, 0)) (p2 := 38) rfl (x_KS_455 hK9) (by decide) hK9.1.choose_spec.2.2.2.2.2.2.2.2.2.2.2.2.2.2.2.2.2.1 rfl ?_
  refine q_if0_s (p2 := 39) rfl (by decide) (by omega) rfl (fun _ => ?_) (fun hb => absurd (show 0 = 0 by omega) hb)
  refine q_load (v := (6, 0, 0)) (p2 := 42) rfl rfl rfl rfl ?_
  refine q_getv (v := (6, 7, 0)) (p2 := 43) rfl hm12 (by decide) rfl rfl ?_
  have hm13 := (x_PS_at hPS5 (fun j hj hne => by have hj2 := x_some_lt hlt6 hne; exact (frn9 j (by omega) (by omega))))
  refine q_getv (v := (6, 237, 0)) (p2 := 44) rfl hm13.1.choose_spec.1 (by decide) hm13.1.choose_spec.2.1 rfl ?_
  refine q_getv (v := (6, 271, 0)) (p2 := 45) rfl hK9.2.2.2.2.2.2.2.2.2.1.choose_spec.1 (by decide) hK9.2.2.2.2.2.2.2.2.2.1.choose_spec.2.2.2.2.2.2.2.2.1 rfl ?_
  refine q_load (v := (0, 0, 0)) (p2 := 46) rfl rfl rfl rfl ?_
  refine q_aldv (v := (6, 272, 0)) (p2 := 47) rfl (x_sc_271 hK9.2.2.2.2.2.2.2.2.2) (by omega) (by omega) rfl rfl ?_
  refine q_const (p2 := 48) rfl rfl ?_
  refine q_aldv (v := (0, 0, 0)) (p2 := 49) rfl (x_sc_272 hK9.2.2.2.2.2.2.2.2.2) (by omega) (by omega) rfl rfl ?_
  refine q_store (loc2 := [(6, 0, 0), (0, x, 0), (0, 0, 0), (0, 60, 0), (6, v9, 0), (0, 0, 0)]) (p2 := 50) rfl rfl rfl rfl rfl ?_
  refine q_load (v := (6, 0, 0)) (p2 := 51) rfl rfl rfl rfl ?_
  refine q_getv (v := (6, 7, 0)) (p2 := 52) rfl hm12 (by decide) rfl rfl ?_
  refine q_load (v := (6, v9, 0)) (p2 := 53) rfl rfl rfl rfl ?_
  refine q_load (v := (0, 0, 0)) (p2 := 54) rfl rfl rfl rfl ?_
  obtain ⟨fV14, hW14, hg14⟩ := x_mv_gS hV9 (by decide)
  have hl14 := hlt10 _ _ hW14
  have h6_14 := hV9.1
  refine q_callr (xs := [(0, 0, 0), (6, v9, 0), (6, 7, 0)]) (p2 := 55) rfl rfl rfl rfl (x_rcv_s 7 hm13.1.choose_spec.1) rfl (e_conv_0 hm13.1.choose_spec hW14 hg14 (by decide) (by omega) hK9.2.2.2.2.2.2.2.2.2) (Nat.le_refl _) (Nat.le_refl _) rfl ?_
  refine q_store (loc2 := [(6, 0, 0), (0, x, 0), (0, 0, 0), (0, 60, 0), (6, v9, 0), (0, 0, 0)]) (p2 := 56) rfl rfl rfl rfl rfl ?_
  refine q_load (v := (6, 0, 0)) (p2 := 57) rfl rfl rfl rfl ?_
  refine q_getv (v := (6, 7, 0)) (p2 := 58) rfl hm12 (by decide) rfl rfl ?_
  refine q_load (v := (6, v9, 0)) (p2 := 59) rfl rfl rfl rfl ?_
  refine q_load (v := (0, 0, 0)) (p2 := 60) rfl rfl rfl rfl ?_
  refine q_callr (xs := [(0, 0, 0), (6, v9, 0), (6, 7, 0)]) (p2 := 61) rfl rfl rfl rfl (x_rcv_s 7 hm13.1.choose_spec.1) rfl (e_fits_0 hm13.1.choose_spec hW14 hg14 (by decide) (by omega) hK9.2.2.2.2.2.2.2.2.2 (by decide)) (Nat.le_refl _) (Nat.le_refl _) rfl ?_
  refine q_if0_s (p2 := 62) rfl (by decide) (by omega) rfl (fun _ => ?_) (fun hb => absurd (show ¬ (1 = 0) by omega) hb)
  refine q_load (v := (6, 0, 0)) (p2 := 65) rfl rfl rfl rfl ?_
  refine q_getv (v := (6, 7, 0)) (p2 := 66) rfl hm12 (by decide) rfl rfl ?_
  refine q_load (v := (0, x, 0)) (p2 := 67) rfl rfl rfl rfl ?_
  refine q_load (v := (0, 0, 0)) (p2 := 68) rfl rfl rfl rfl ?_
  refine q_load (v := (6, v9, 0)) (p2 := 69) rfl rfl rfl rfl ?_
  have hm15 := (x_LK_at2 hLKx5 (fun j h1 h2 => (frn9 j (by omega) (by omega))))
  refine q_callvE (xs := [(6, v9, 0), (0, 0, 0), (0, x, 0), (6, 7, 0)]) (p2 := 70) rfl rfl rfl rfl (x_rcv_s 7 hm13.1.choose_spec.1) rfl (e_holdP hm13 hV9 (by omega) (by omega)) (Nat.le_refl _) (Nat.le_refl _) rfl (fun φ16 hR16 => ?_)
  obtain ⟨hPS16, frn16⟩ := hR16
  have hPZ16 : x_PS φ16 A5 B5 made sv svm 1 comb (zhm hm (x * 40 + 0) (1, w1, 0, 0, [])) := hPS16
  refine x_n_lt (fun hlt17 => ?_)
  have hLZ16 := x_LK_st1 (made2 := made) (comb2 := comb) (hm2 := (zhm hm (x * 40 + 0) (1, w1, 0, 0, []))) hm15 (fun j h1 h2 => (frn16 j (by omega) (by omega)))
  refine q_load (v := (6, v9, 0)) (p2 := 71) rfl rfl rfl rfl ?_
  refine q_getv (v := (0, 1, 0)) (p2 := 72) rfl ((frn16 v9 (by omega) (by omega)).trans hW14) (by decide) hg14.1 rfl ?_
  have hm18 := (zq_H_at hm12 (frn16 0 (by omega) (by omega)))
  have hm19 := (zq_tp_at hB ((frn16 1 (by omega) (by omega)).trans ((frn9 1 (by omega) (by omega)).trans ((frn5 1 (by omega) (by omega) (by omega)).trans (fr1 1 (by decide) (by decide) (by decide) (by decide) (by decide) (by decide) (by decide))))))
  have hm20 := (zq_T_at hs1_1 ((frn16 2 (by omega) (by omega)).trans ((frn9 2 (by omega) (by omega)).trans (frn5 2 (by omega) (by omega) (by omega)))) ((frn16 3 (by omega) (by omega)).trans ((frn9 3 (by omega) (by omega)).trans (frn5 3 (by omega) (by omega) (by omega)))) ((frn16 4 (by omega) (by omega)).trans ((frn9 4 (by omega) (by omega)).trans (frn5 4 (by omega) (by omega) (by omega)))) ((frn16 5 (by omega) (by omega)).trans ((frn9 5 (by omega) (by omega)).trans (frn5 5 (by omega) (by omega) (by omega)))) ((frn16 6 (by omega) (by omega)).trans ((frn9 6 (by omega) (by omega)).trans (frn5 6 (by omega) (by omega) (by omega)))))
  have hm21 := (zq_E_at hs1_2 ((frn16 232 (by omega) (by omega)).trans ((frn9 232 (by omega) (by omega)).trans (frn5 232 (by omega) (by omega) (by omega)))))
  have hm22 := (zq_nm_at hN ((frn16 239 (by omega) (by omega)).trans ((frn9 239 (by omega) (by omega)).trans ((frn5 239 (by omega) (by omega) (by omega)).trans (fr1 239 (by decide) (by decide) (by decide) (by decide) (by decide) (by decide) (by decide))))) ((frn16 242 (by omega) (by omega)).trans ((frn9 242 (by omega) (by omega)).trans ((frn5 242 (by omega) (by omega) (by omega)).trans (fr1 242 (by decide) (by decide) (by decide) (by decide) (by decide) (by decide) (by decide))))) ((frn16 244 (by omega) (by omega)).trans ((frn9 244 (by omega) (by omega)).trans ((frn5 244 (by omega) (by omega) (by omega)).trans (fr1 244 (by decide) (by decide) (by decide) (by decide) (by decide) (by decide) (by decide))))))
  have hm23 := (x_KS_at2 hK9 (fun j h1 h2 h3 h4 => (frn16 j (by omega) (by omega))))
  have hm24 := (x_SP_at hSP (fun j hj hne => by have hj2 := x_some_lt hlt0 hne; exact ((frn16 j (by omega) (by omega)).trans ((frn9 j (by omega) (by omega)).trans ((frn5 j (by omega) (by omega) (by omega)).trans (fr1 j (by omega) (by omega) (by omega) (by omega) (by omega) (by omega) (by omega)))))))
  have hm25 := (zq_V5_at hV5 ((frn16 485 (by omega) (by omega)).trans ((frn9 485 (by omega) (by omega)).trans ((frn5 485 (by omega) (by omega) (by omega)).trans (fr1 485 (by decide) (by decide) (by decide) (by decide) (by decide) (by decide) (by decide))))))
  have hm26 := (zq_SL_at hSL ((frn16 482 (by omega) (by omega)).trans ((frn9 482 (by omega) (by omega)).trans ((frn5 482 (by omega) (by omega) (by omega)).trans (fr1 482 (by decide) (by decide) (by decide) (by decide) (by decide) (by decide) (by decide))))))
  have hm27 := (zq_RW_at hRW ((frn16 483 (by omega) (by omega)).trans ((frn9 483 (by omega) (by omega)).trans ((frn5 483 (by omega) (by omega) (by omega)).trans (fr1 483 (by decide) (by decide) (by decide) (by decide) (by decide) (by decide) (by decide))))))
  have hm28 := (zq_J_at hJ ((frn16 468 (by omega) (by omega)).trans ((frn9 468 (by omega) (by omega)).trans ((frn5 468 (by omega) (by omega) (by omega)).trans (fr1 468 (by decide) (by decide) (by decide) (by decide) (by decide) (by decide) (by decide))))) ((frn16 469 (by omega) (by omega)).trans ((frn9 469 (by omega) (by omega)).trans ((frn5 469 (by omega) (by omega) (by omega)).trans (fr1 469 (by decide) (by decide) (by decide) (by decide) (by decide) (by decide) (by decide))))) ((frn16 470 (by omega) (by omega)).trans ((frn9 470 (by omega) (by omega)).trans ((frn5 470 (by omega) (by omega) (by omega)).trans (fr1 470 (by decide) (by decide) (by decide) (by decide) (by decide) (by decide) (by decide))))))
  have hm29 := (zFJ_at hFJ (fun j h1 h2 => ((frn16 j (by omega) (by omega)).trans ((frn9 j (by omega) (by omega)).trans ((frn5 j (by omega) (by omega) (by omega)).trans (fr1 j (by omega) (by omega) (by omega) (by omega) (by omega) (by omega) (by omega)))))))
  have hm30 := (zWJ_at hWJ (fun j h1 h2 => ((frn16 j (by omega) (by omega)).trans ((frn9 j (by omega) (by omega)).trans ((frn5 j (by omega) (by omega) (by omega)).trans (fr1 j (by omega) (by omega) (by omega) (by omega) (by omega) (by omega) (by omega)))))))
  have hm31 := (zq_OV_at hOV ((frn16 452 (by omega) (by omega)).trans ((frn9 452 (by omega) (by omega)).trans ((frn5 452 (by omega) (by omega) (by omega)).trans (fr1 452 (by decide) (by decide) (by decide) (by decide) (by decide) (by decide) (by decide))))) ((frn16 453 (by omega) (by omega)).trans ((frn9 453 (by omega) (by omega)).trans ((frn5 453 (by omega) (by omega) (by omega)).trans (fr1 453 (by decide) (by decide) (by decide) (by decide) (by decide) (by decide) (by decide))))))
  exact q_retv (v := (0, 1, 0)) rfl rfl (⟨rfl, ⟨by omega, by omega⟩, ⟨by omega, by omega⟩, rfl, ⟨⟨_, _, hm18, (x_hw_at hhw (fun j hj hne => by have hj2 := x_some_lt hlt0 hne; exact ((frn16 j (by omega) (by omega)).trans ((frn9 j (by omega) (by omega)).trans ((frn5 j (by omega) (by omega) (by omega)).trans (fr1 j (by omega) (by omega) (by omega) (by omega) (by omega) (by omega) (by omega)))))))⟩, hm19, ⟨_, _, _, _, _, _, _, _, _, _, _, _, _, _, hm20⟩, ⟨_, _, _, _, _, _, _, hm21⟩, hm22, ⟨_, ⟨_, _, _, _, _, _, _, _, _, _, hm23⟩, (fun i hi => by rw [x_s_ne (by omega), x_s_ne (by omega), x_s_ne (by omega), x_s_ne (by omega), x_s_ne (by omega), x_s_ne (by omega)]; exact hco i hi)⟩, ⟨_, _, _, hPZ16, hLZ16⟩, hm24, hm25, ⟨_, hm26⟩, hm27, hm28, hm29, hm30, ⟨_, _, hm31, hovn, hovh⟩⟩⟩)
set_option maxHeartbeats 1000000 in
theorem zc_set0_3 {d n sl : Nat} {φ : FH} {tp : Nat → Nat} {lf : Nat} {mi : Nat} {made : Nat} {sv : Nat} {svm : Nat} {comb : Nat → Nat} {hm : Nat → MV} {sc : Nat → Nat} {sm : Nat → MV} {mh : MV} {noted : Nat} {verd : Nat} {ins : Nat → Nat} {ver : Nat → Nat} {sz : Nat} {bw : Nat → Nat} {x w1 d1 d2 d3 : Nat} (hG : zG φ 3 tp lf mi made sv svm comb hm sc sm mh noted verd ins ver sz bw) (hn0 : 486 ≤ n) (hpv : ∀ i, x_pv2 (hm i)) (hmi : mi + 100 ≤ 20000) (hx : x < 40) (hisA : x_isA made comb x 0) (ht0 : tp 0 = d1) (ht1 : tp 1 = d2) (ht2 : tp 2 = d3) (hdd1 : 48 ≤ d1 ∧ d1 ≤ 57) (hdd2 : 48 ≤ d2 ∧ d2 ≤ 57) (hdd3 : 48 ≤ d3 ∧ d3 ≤ 57) (hw : ((((((0 + d1) - 48) * 10) + d2) - 48) * 10) + d3 - 48 = w1) (hw1 : w1 < 1024) : x_f x_P (d + 11) 24 [(6, 0, 0), (0, x, 0), (0, 0, 0), (11, 0, 0), (11, 0, 0), (11, 0, 0)] φ n sl (x_bR n sl 1 7 (fun zw φ2 => zw = (0, 1, 0) ∧ zG φ2 0 tp 0 (mi + 1) made sv svm comb (zhm hm (x * 40 + 0) (1, w1, 0, 0, [])) sc sm mh noted verd ins ver sz bw)) := by
  refine x_f_of rfl ?_
  have hG0 := hG
  obtain ⟨⟨hand, ie, hH, hhw⟩, hB, hTJ, hEJ, hN, hKJ, ⟨A, B, s9, hPS, hLK0⟩, hSP, hV5, ⟨slq, hSL⟩, hRW, hJ, hFJ, hWJ, ⟨ovn, ovh, hOV, hovn, hovh⟩⟩ := hG
  refine x_n_lt (fun hlt0 => ?_)
  have hmade := x_PS_lt hPS
  obtain ⟨tot, at_, cur, pl, va, fa, fp, sf, sp, no, op, K, P, V, hT⟩ := hTJ
  obtain ⟨bi, top, hid, lc, slo, own, sk, hE⟩ := hEJ
  obtain ⟨co, ⟨top_, fr_, pc_, mm, st, lo, re, rs, fl, se, hKS⟩, hco⟩ := hKJ
  refine q_load (v := (6, 0, 0)) (p2 := 1) rfl rfl rfl rfl ?_
  refine q_getv (v := (6, 7, 0)) (p2 := 2) rfl hH (by decide) rfl rfl ?_
  refine q_load (v := (0, x, 0)) (p2 := 3) rfl rfl rfl rfl ?_
  refine q_load (v := (0, 0, 0)) (p2 := 4) rfl rfl rfl rfl ?_
  refine q_callr (xs := [(0, 0, 0), (0, x, 0), (6, 7, 0)]) (p2 := 5) rfl rfl rfl rfl (x_rcv_s 7 hPS.1.choose_spec.1) rfl (x_r_yes (e_has_0 hPS.1.choose_spec hPS.2.1 hKS.2.2.2.2.2.2.2.2.2 (by omega)) hisA) (Nat.le_refl _) (Nat.le_refl _) rfl ?_
  refine q_if0_s (p2 := 6) rfl (by decide) (by omega) rfl (fun hb => absurd hb (show ¬ (1 = 0) by omega)) (fun _ => ?_)
  refine q_load (v := (6, 0, 0)) (p2 := 7) rfl rfl rfl rfl ?_
  refine q_getv (v := (6, 7, 0)) (p2 := 8) rfl hH (by decide) rfl rfl ?_
  refine q_getv (v := (6, 237, 0)) (p2 := 9) rfl hPS.1.choose_spec.1 (by decide) hPS.1.choose_spec.2.1 rfl ?_
  refine q_getv (v := (6, 271, 0)) (p2 := 10) rfl hKS.2.2.2.2.2.2.2.2.2.1.choose_spec.1 (by decide) hKS.2.2.2.2.2.2.2.2.2.1.choose_spec.2.2.2.2.2.2.2.2.1 rfl ?_
  refine q_load (v := (0, 0, 0)) (p2 := 11) rfl rfl rfl rfl ?_
  refine q_aldv (v := (6, 272, 0)) (p2 := 12) rfl (x_sc_271 hKS.2.2.2.2.2.2.2.2.2) (by omega) (by omega) rfl rfl ?_
  refine q_const (p2 := 13) rfl rfl ?_
  refine q_aldv (v := (0, 0, 0)) (p2 := 14) rfl (x_sc_272 hKS.2.2.2.2.2.2.2.2.2) (by omega) (by omega) rfl rfl ?_
  refine q_if0_s (p2 := 15) rfl (by decide) (by omega) rfl (fun _ => ?_) (fun hb => absurd (show 0 = 0 by omega) hb)
  refine q_load (v := (6, 0, 0)) (p2 := 18) rfl rfl rfl rfl ?_
  refine q_callrE (xs := [(6, 0, 0)]) (p2 := 19) rfl rfl rfl rfl (x_rcv_s 0 hH) rfl (zc_h_rx_whole3 hH hB hT hE hKS hPS hN ht0 ht1 ht2 (by omega)) (Nat.le_refl _) (Nat.le_refl _) rfl (fun φ1 hR1 => ?_)
  obtain ⟨hs1_0, hs1_1, hs1_2, hs1_3, fr1⟩ := hR1
  refine q_store (loc2 := [(6, 0, 0), (0, x, 0), (0, 0, 0), (0, 60, 0), (11, 0, 0), (11, 0, 0)]) (p2 := 20) rfl rfl rfl rfl rfl ?_
  refine q_load (v := (0, 60, 0)) (p2 := 21) rfl rfl rfl rfl ?_
  refine q_if0_s (p2 := 22) rfl (by decide) (by omega) rfl (fun _ => ?_) (fun hb => absurd (show ¬ (60 < 0) by omega) hb)
  refine q_load (v := (6, 0, 0)) (p2 := 25) rfl rfl rfl rfl ?_
  refine q_getv (v := (6, 7, 0)) (p2 := 26) rfl hs1_0 (by decide) rfl rfl ?_
  refine x_n_lt (fun hlt3 => ?_)
  have hm2 := (x_PS_at hPS (fun j hj hne => by have hj2 := x_some_lt hlt0 hne; exact (fr1 j (by omega) (by omega) (by omega) (by omega) (by omega) (by omega) (by omega))))
  have hm4 := (x_LK_at2 hLK0 (fun j h1 h2 => (fr1 j (by omega) (by omega) (by omega) (by omega) (by omega) (by omega) (by omega))))
  refine q_callvE (xs := [(6, 7, 0)]) (p2 := 27) rfl rfl rfl rfl (x_rcv_s 7 hm2.1.choose_spec.1) rfl (e_prepare hm2 hm4.1 hpv hs1_3.2.2.2.2.2.2.2.2.2) (Nat.le_refl _) (Nat.le_refl _) rfl (fun φ5 hR5 => ?_)
  obtain ⟨A5, B5, hPS5, hLK5, frn5⟩ := hR5
  have hAB5 := x_pop_AB hPS5.1.choose_spec
  obtain ⟨lik5, lb5, hL5, hLb5, hlk5⟩ := id hLK5
  refine x_n_lt (fun hlt6 => ?_)
  have hLKx5 : x_LK φ5 A5 B5 made 0 comb hm ∧ _ := ⟨hLK5, hAB5⟩
  refine q_load (v := (6, 0, 0)) (p2 := 28) rfl rfl rfl rfl ?_
  have hm7 := (zq_H_at hs1_0 (frn5 0 (by omega) (by omega) (by omega)))
  refine q_getv (v := (6, 455, 0)) (p2 := 29) rfl hm7 (by decide) rfl rfl ?_
  refine q_load (v := (0, 60, 0)) (p2 := 30) rfl rfl rfl rfl ?_
  refine q_load (v := (6, 0, 0)) (p2 := 31) rfl rfl rfl rfl ?_
  refine q_getv (v := (6, 7, 0)) (p2 := 32) rfl hm7 (by decide) rfl rfl ?_
  refine q_getv (v := (6, 225, 0)) (p2 := 33) rfl hPS5.1.choose_spec.1 (by decide) hPS5.1.choose_spec.2.2.1 rfl ?_
  have hm8 := (x_KS_at2 hs1_3 (fun j h1 h2 h3 h4 => (frn5 j (by omega) (by omega) (by omega))))
  refine q_callrB (xs := [(6, 225, 0), (0, 60, 0), (6, 455, 0)]) (p2 := 34) rfl rfl rfl rfl (x_rcv_s 455 (x_KS_455 hm8)) rfl (zc_run_whole hPS5 hm8 (by omega) (by omega) (((x_s_ne (by decide)).trans ((x_s_ne (by decide)).trans ((x_s_ne (by decide)).trans ((x_s_ne (by decide)).trans ((x_s_ne (by decide)).trans (x_s_eq))))))) (((x_s_ne (by decide)).trans ((x_s_ne (by decide)).trans ((x_s_ne (by decide)).trans (x_s_eq))))) (((x_s_ne (by decide)).trans ((x_s_ne (by decide)).trans (x_s_eq)))) ((((x_s_ne (by decide)).trans (x_s_eq))).trans hw) ((x_s_eq)) (by omega)) rfl (fun w9 φ9 n9 sl9 hn9 hN9 hs9 hT9 hR9 => ?_)
  obtain ⟨v9, hwv9, ⟨ka9, kb9, kc9, kd9, ke9, kf9, kg9, kh9, ki9, kj9, hK9⟩, hV9, frn9⟩ := hR9
  subst hwv9
  refine x_n_lt (fun hlt10 => ?_)
  have hz11 := x_mv_lt hV9 hlt10
  have hy11 := hV9.1
  refine q_store (loc2 := [(6, 0, 0), (0, x, 0), (0, 0, 0), (0, 60, 0), (6, v9, 0), (11, 0, 0)]) (p2 := 35) rfl rfl rfl rfl rfl ?_
  refine q_load (v := (6, 0, 0)) (p2 := 36) rfl rfl rfl rfl ?_
  have hm12 := (zq_H_at hm7 (frn9 0 (by omega) (by omega)))
  refine q_getv (v := (6, 455, 0)) (p2 := 37) rfl hm12 (by decide) rfl rfl ?_
  refine q_getv (v := (0, 0, 0)) (p2 := 38) rfl (x_KS_455 hK9) (by decide) hK9.1.choose_spec.2.2.2.2.2.2.2.2.2.2.2.2.2.2.2.2.2.1 rfl ?_
  refine q_if0_s (p2 := 39) rfl (by decide) (by omega) rfl (fun _ => ?_) (fun hb => absurd (show 0 = 0 by omega) hb)
  refine q_load (v := (6, 0, 0)) (p2 := 42) rfl rfl rfl rfl ?_
  refine q_getv (v := (6, 7, 0)) (p2 := 43) rfl hm12 (by decide) rfl rfl ?_
  have hm13 := (x_PS_at hPS5 (fun j hj hne => by have hj2 := x_some_lt hlt6 hne; exact (frn9 j (by omega) (by omega))))
  refine q_getv (v := (6, 237, 0)) (p2 := 44) rfl hm13.1.choose_spec.1 (by decide) hm13.1.choose_spec.2.1 rfl ?_
  refine q_getv (v := (6, 271, 0)) (p2 := 45) rfl hK9.2.2.2.2.2.2.2.2.2.1.choose_spec.1 (by decide) hK9.2.2.2.2.2.2.2.2.2.1.choose_spec.2.2.2.2.2.2.2.2.1 rfl ?_
  refine q_load (v := (0, 0, 0)) (p2 := 46) rfl rfl rfl rfl ?_
  refine q_aldv (v := (6, 272, 0)) (p2 := 47) rfl (x_sc_271 hK9.2.2.2.2.2.2.2.2.2) (by omega) (by omega) rfl rfl ?_
  refine q_const (p2 := 48) rfl rfl ?_
  refine q_aldv (v := (0, 0, 0)) (p2 := 49) rfl (x_sc_272 hK9.2.2.2.2.2.2.2.2.2) (by omega) (by omega) rfl rfl ?_
  refine q_store (loc2 := [(6, 0, 0), (0, x, 0), (0, 0, 0), (0, 60, 0), (6, v9, 0), (0, 0, 0)]) (p2 := 50) rfl rfl rfl rfl rfl ?_
  refine q_load (v := (6, 0, 0)) (p2 := 51) rfl rfl rfl rfl ?_
  refine q_getv (v := (6, 7, 0)) (p2 := 52) rfl hm12 (by decide) rfl rfl ?_
  refine q_load (v := (6, v9, 0)) (p2 := 53) rfl rfl rfl rfl ?_
  refine q_load (v := (0, 0, 0)) (p2 := 54) rfl rfl rfl rfl ?_
  obtain ⟨fV14, hW14, hg14⟩ := x_mv_gS hV9 (by decide)
  have hl14 := hlt10 _ _ hW14
  have h6_14 := hV9.1
  refine q_callr (xs := [(0, 0, 0), (6, v9, 0), (6, 7, 0)]) (p2 := 55) rfl rfl rfl rfl (x_rcv_s 7 hm13.1.choose_spec.1) rfl (e_conv_0 hm13.1.choose_spec hW14 hg14 (by decide) (by omega) hK9.2.2.2.2.2.2.2.2.2) (Nat.le_refl _) (Nat.le_refl _) rfl ?_
  refine q_store (loc2 := [(6, 0, 0), (0, x, 0), (0, 0, 0), (0, 60, 0), (6, v9, 0), (0, 0, 0)]) (p2 := 56) rfl rfl rfl rfl rfl ?_
  refine q_load (v := (6, 0, 0)) (p2 := 57) rfl rfl rfl rfl ?_
  refine q_getv (v := (6, 7, 0)) (p2 := 58) rfl hm12 (by decide) rfl rfl ?_
  refine q_load (v := (6, v9, 0)) (p2 := 59) rfl rfl rfl rfl ?_
  refine q_load (v := (0, 0, 0)) (p2 := 60) rfl rfl rfl rfl ?_
  refine q_callr (xs := [(0, 0, 0), (6, v9, 0), (6, 7, 0)]) (p2 := 61) rfl rfl rfl rfl (x_rcv_s 7 hm13.1.choose_spec.1) rfl (e_fits_0 hm13.1.choose_spec hW14 hg14 (by decide) (by omega) hK9.2.2.2.2.2.2.2.2.2 (by decide)) (Nat.le_refl _) (Nat.le_refl _) rfl ?_
  refine q_if0_s (p2 := 62) rfl (by decide) (by omega) rfl (fun _ => ?_) (fun hb => absurd (show ¬ (1 = 0) by omega) hb)
  refine q_load (v := (6, 0, 0)) (p2 := 65) rfl rfl rfl rfl ?_
  refine q_getv (v := (6, 7, 0)) (p2 := 66) rfl hm12 (by decide) rfl rfl ?_
  refine q_load (v := (0, x, 0)) (p2 := 67) rfl rfl rfl rfl ?_
  refine q_load (v := (0, 0, 0)) (p2 := 68) rfl rfl rfl rfl ?_
  refine q_load (v := (6, v9, 0)) (p2 := 69) rfl rfl rfl rfl ?_
  have hm15 := (x_LK_at2 hLKx5 (fun j h1 h2 => (frn9 j (by omega) (by omega))))
  refine q_callvE (xs := [(6, v9, 0), (0, 0, 0), (0, x, 0), (6, 7, 0)]) (p2 := 70) rfl rfl rfl rfl (x_rcv_s 7 hm13.1.choose_spec.1) rfl (e_holdP hm13 hV9 (by omega) (by omega)) (Nat.le_refl _) (Nat.le_refl _) rfl (fun φ16 hR16 => ?_)
  obtain ⟨hPS16, frn16⟩ := hR16
  have hPZ16 : x_PS φ16 A5 B5 made sv svm 1 comb (zhm hm (x * 40 + 0) (1, w1, 0, 0, [])) := hPS16
  refine x_n_lt (fun hlt17 => ?_)
  have hLZ16 := x_LK_st1 (made2 := made) (comb2 := comb) (hm2 := (zhm hm (x * 40 + 0) (1, w1, 0, 0, []))) hm15 (fun j h1 h2 => (frn16 j (by omega) (by omega)))
  refine q_load (v := (6, v9, 0)) (p2 := 71) rfl rfl rfl rfl ?_
  refine q_getv (v := (0, 1, 0)) (p2 := 72) rfl ((frn16 v9 (by omega) (by omega)).trans hW14) (by decide) hg14.1 rfl ?_
  have hm18 := (zq_H_at hm12 (frn16 0 (by omega) (by omega)))
  have hm19 := (zq_tp_at hB ((frn16 1 (by omega) (by omega)).trans ((frn9 1 (by omega) (by omega)).trans ((frn5 1 (by omega) (by omega) (by omega)).trans (fr1 1 (by decide) (by decide) (by decide) (by decide) (by decide) (by decide) (by decide))))))
  have hm20 := (zq_T_at hs1_1 ((frn16 2 (by omega) (by omega)).trans ((frn9 2 (by omega) (by omega)).trans (frn5 2 (by omega) (by omega) (by omega)))) ((frn16 3 (by omega) (by omega)).trans ((frn9 3 (by omega) (by omega)).trans (frn5 3 (by omega) (by omega) (by omega)))) ((frn16 4 (by omega) (by omega)).trans ((frn9 4 (by omega) (by omega)).trans (frn5 4 (by omega) (by omega) (by omega)))) ((frn16 5 (by omega) (by omega)).trans ((frn9 5 (by omega) (by omega)).trans (frn5 5 (by omega) (by omega) (by omega)))) ((frn16 6 (by omega) (by omega)).trans ((frn9 6 (by omega) (by omega)).trans (frn5 6 (by omega) (by omega) (by omega)))))
  have hm21 := (zq_E_at hs1_2 ((frn16 232 (by omega) (by omega)).trans ((frn9 232 (by omega) (by omega)).trans (frn5 232 (by omega) (by omega) (by omega)))))
  have hm22 := (zq_nm_at hN ((frn16 239 (by omega) (by omega)).trans ((frn9 239 (by omega) (by omega)).trans ((frn5 239 (by omega) (by omega) (by omega)).trans (fr1 239 (by decide) (by decide) (by decide) (by decide) (by decide) (by decide) (by decide))))) ((frn16 242 (by omega) (by omega)).trans ((frn9 242 (by omega) (by omega)).trans ((frn5 242 (by omega) (by omega) (by omega)).trans (fr1 242 (by decide) (by decide) (by decide) (by decide) (by decide) (by decide) (by decide))))) ((frn16 244 (by omega) (by omega)).trans ((frn9 244 (by omega) (by omega)).trans ((frn5 244 (by omega) (by omega) (by omega)).trans (fr1 244 (by decide) (by decide) (by decide) (by decide) (by decide) (by decide) (by decide))))))
  have hm23 := (x_KS_at2 hK9 (fun j h1 h2 h3 h4 => (frn16 j (by omega) (by omega))))
  have hm24 := (x_SP_at hSP (fun j hj hne => by have hj2 := x_some_lt hlt0 hne; exact ((frn16 j (by omega) (by omega)).trans ((frn9 j (by omega) (by omega)).trans ((frn5 j (by omega) (by omega) (by omega)).trans (fr1 j (by omega) (by omega) (by omega) (by omega) (by omega) (by omega) (by omega)))))))
  have hm25 := (zq_V5_at hV5 ((frn16 485 (by omega) (by omega)).trans ((frn9 485 (by omega) (by omega)).trans ((frn5 485 (by omega) (by omega) (by omega)).trans (fr1 485 (by decide) (by decide) (by decide) (by decide) (by decide) (by decide) (by decide))))))
  have hm26 := (zq_SL_at hSL ((frn16 482 (by omega) (by omega)).trans ((frn9 482 (by omega) (by omega)).trans ((frn5 482 (by omega) (by omega) (by omega)).trans (fr1 482 (by decide) (by decide) (by decide) (by decide) (by decide) (by decide) (by decide))))))
  have hm27 := (zq_RW_at hRW ((frn16 483 (by omega) (by omega)).trans ((frn9 483 (by omega) (by omega)).trans ((frn5 483 (by omega) (by omega) (by omega)).trans (fr1 483 (by decide) (by decide) (by decide) (by decide) (by decide) (by decide) (by decide))))))
  have hm28 := (zq_J_at hJ ((frn16 468 (by omega) (by omega)).trans ((frn9 468 (by omega) (by omega)).trans ((frn5 468 (by omega) (by omega) (by omega)).trans (fr1 468 (by decide) (by decide) (by decide) (by decide) (by decide) (by decide) (by decide))))) ((frn16 469 (by omega) (by omega)).trans ((frn9 469 (by omega) (by omega)).trans ((frn5 469 (by omega) (by omega) (by omega)).trans (fr1 469 (by decide) (by decide) (by decide) (by decide) (by decide) (by decide) (by decide))))) ((frn16 470 (by omega) (by omega)).trans ((frn9 470 (by omega) (by omega)).trans ((frn5 470 (by omega) (by omega) (by omega)).trans (fr1 470 (by decide) (by decide) (by decide) (by decide) (by decide) (by decide) (by decide))))))
  have hm29 := (zFJ_at hFJ (fun j h1 h2 => ((frn16 j (by omega) (by omega)).trans ((frn9 j (by omega) (by omega)).trans ((frn5 j (by omega) (by omega) (by omega)).trans (fr1 j (by omega) (by omega) (by omega) (by omega) (by omega) (by omega) (by omega)))))))
  have hm30 := (zWJ_at hWJ (fun j h1 h2 => ((frn16 j (by omega) (by omega)).trans ((frn9 j (by omega) (by omega)).trans ((frn5 j (by omega) (by omega) (by omega)).trans (fr1 j (by omega) (by omega) (by omega) (by omega) (by omega) (by omega) (by omega)))))))
  have hm31 := (zq_OV_at hOV ((frn16 452 (by omega) (by omega)).trans ((frn9 452 (by omega) (by omega)).trans ((frn5 452 (by omega) (by omega) (by omega)).trans (fr1 452 (by decide) (by decide) (by decide) (by decide) (by decide) (by decide) (by decide))))) ((frn16 453 (by omega) (by omega)).trans ((frn9 453 (by omega) (by omega)).trans ((frn5 453 (by omega) (by omega) (by omega)).trans (fr1 453 (by decide) (by decide) (by decide) (by decide) (by decide) (by decide) (by decide))))))
  exact q_retv (v := (0, 1, 0)) rfl rfl (⟨rfl, ⟨by omega, by omega⟩, ⟨by omega, by omega⟩, rfl, ⟨⟨_, _, hm18, (x_hw_at hhw (fun j hj hne => by have hj2 := x_some_lt hlt0 hne; exact ((frn16 j (by omega) (by omega)).trans ((frn9 j (by omega) (by omega)).trans ((frn5 j (by omega) (by omega) (by omega)).trans (fr1 j (by omega) (by omega) (by omega) (by omega) (by omega) (by omega) (by omega)))))))⟩, hm19, ⟨_, _, _, _, _, _, _, _, _, _, _, _, _, _, hm20⟩, ⟨_, _, _, _, _, _, _, hm21⟩, hm22, ⟨_, ⟨_, _, _, _, _, _, _, _, _, _, hm23⟩, (fun i hi => by rw [x_s_ne (by omega), x_s_ne (by omega), x_s_ne (by omega), x_s_ne (by omega), x_s_ne (by omega), x_s_ne (by omega)]; exact hco i hi)⟩, ⟨_, _, _, hPZ16, hLZ16⟩, hm24, hm25, ⟨_, hm26⟩, hm27, hm28, hm29, hm30, ⟨_, _, hm31, hovn, hovh⟩⟩⟩)
set_option maxHeartbeats 1000000 in
theorem zc_set0_4 {d n sl : Nat} {φ : FH} {tp : Nat → Nat} {lf : Nat} {mi : Nat} {made : Nat} {sv : Nat} {svm : Nat} {comb : Nat → Nat} {hm : Nat → MV} {sc : Nat → Nat} {sm : Nat → MV} {mh : MV} {noted : Nat} {verd : Nat} {ins : Nat → Nat} {ver : Nat → Nat} {sz : Nat} {bw : Nat → Nat} {x w1 d1 d2 d3 d4 : Nat} (hG : zG φ 4 tp lf mi made sv svm comb hm sc sm mh noted verd ins ver sz bw) (hn0 : 486 ≤ n) (hpv : ∀ i, x_pv2 (hm i)) (hmi : mi + 100 ≤ 20000) (hx : x < 40) (hisA : x_isA made comb x 0) (ht0 : tp 0 = d1) (ht1 : tp 1 = d2) (ht2 : tp 2 = d3) (ht3 : tp 3 = d4) (hdd1 : 48 ≤ d1 ∧ d1 ≤ 57) (hdd2 : 48 ≤ d2 ∧ d2 ≤ 57) (hdd3 : 48 ≤ d3 ∧ d3 ≤ 57) (hdd4 : 48 ≤ d4 ∧ d4 ≤ 57) (hw : (((((((((0 + d1) - 48) * 10) + d2) - 48) * 10) + d3) - 48) * 10) + d4 - 48 = w1) (hw1 : w1 < 1024) : x_f x_P (d + 11) 24 [(6, 0, 0), (0, x, 0), (0, 0, 0), (11, 0, 0), (11, 0, 0), (11, 0, 0)] φ n sl (x_bR n sl 1 7 (fun zw φ2 => zw = (0, 1, 0) ∧ zG φ2 0 tp 0 (mi + 1) made sv svm comb (zhm hm (x * 40 + 0) (1, w1, 0, 0, [])) sc sm mh noted verd ins ver sz bw)) := by
  refine x_f_of rfl ?_
  have hG0 := hG
  obtain ⟨⟨hand, ie, hH, hhw⟩, hB, hTJ, hEJ, hN, hKJ, ⟨A, B, s9, hPS, hLK0⟩, hSP, hV5, ⟨slq, hSL⟩, hRW, hJ, hFJ, hWJ, ⟨ovn, ovh, hOV, hovn, hovh⟩⟩ := hG
  refine x_n_lt (fun hlt0 => ?_)
  have hmade := x_PS_lt hPS
  obtain ⟨tot, at_, cur, pl, va, fa, fp, sf, sp, no, op, K, P, V, hT⟩ := hTJ
  obtain ⟨bi, top, hid, lc, slo, own, sk, hE⟩ := hEJ
  obtain ⟨co, ⟨top_, fr_, pc_, mm, st, lo, re, rs, fl, se, hKS⟩, hco⟩ := hKJ
  refine q_load (v := (6, 0, 0)) (p2 := 1) rfl rfl rfl rfl ?_
  refine q_getv (v := (6, 7, 0)) (p2 := 2) rfl hH (by decide) rfl rfl ?_
  refine q_load (v := (0, x, 0)) (p2 := 3) rfl rfl rfl rfl ?_
  refine q_load (v := (0, 0, 0)) (p2 := 4) rfl rfl rfl rfl ?_
  refine q_callr (xs := [(0, 0, 0), (0, x, 0), (6, 7, 0)]) (p2 := 5) rfl rfl rfl rfl (x_rcv_s 7 hPS.1.choose_spec.1) rfl (x_r_yes (e_has_0 hPS.1.choose_spec hPS.2.1 hKS.2.2.2.2.2.2.2.2.2 (by omega)) hisA) (Nat.le_refl _) (Nat.le_refl _) rfl ?_
  refine q_if0_s (p2 := 6) rfl (by decide) (by omega) rfl (fun hb => absurd hb (show ¬ (1 = 0) by omega)) (fun _ => ?_)
  refine q_load (v := (6, 0, 0)) (p2 := 7) rfl rfl rfl rfl ?_
  refine q_getv (v := (6, 7, 0)) (p2 := 8) rfl hH (by decide) rfl rfl ?_
  refine q_getv (v := (6, 237, 0)) (p2 := 9) rfl hPS.1.choose_spec.1 (by decide) hPS.1.choose_spec.2.1 rfl ?_
  refine q_getv (v := (6, 271, 0)) (p2 := 10) rfl hKS.2.2.2.2.2.2.2.2.2.1.choose_spec.1 (by decide) hKS.2.2.2.2.2.2.2.2.2.1.choose_spec.2.2.2.2.2.2.2.2.1 rfl ?_
  refine q_load (v := (0, 0, 0)) (p2 := 11) rfl rfl rfl rfl ?_
  refine q_aldv (v := (6, 272, 0)) (p2 := 12) rfl (x_sc_271 hKS.2.2.2.2.2.2.2.2.2) (by omega) (by omega) rfl rfl ?_
  refine q_const (p2 := 13) rfl rfl ?_
  refine q_aldv (v := (0, 0, 0)) (p2 := 14) rfl (x_sc_272 hKS.2.2.2.2.2.2.2.2.2) (by omega) (by omega) rfl rfl ?_
  refine q_if0_s (p2 := 15) rfl (by decide) (by omega) rfl (fun _ => ?_) (fun hb => absurd (show 0 = 0 by omega) hb)
  refine q_load (v := (6, 0, 0)) (p2 := 18) rfl rfl rfl rfl ?_
  refine q_callrE (xs := [(6, 0, 0)]) (p2 := 19) rfl rfl rfl rfl (x_rcv_s 0 hH) rfl (zc_h_rx_whole4 hH hB hT hE hKS hPS hN ht0 ht1 ht2 ht3 (by omega)) (Nat.le_refl _) (Nat.le_refl _) rfl (fun φ1 hR1 => ?_)
  obtain ⟨hs1_0, hs1_1, hs1_2, hs1_3, fr1⟩ := hR1
  refine q_store (loc2 := [(6, 0, 0), (0, x, 0), (0, 0, 0), (0, 60, 0), (11, 0, 0), (11, 0, 0)]) (p2 := 20) rfl rfl rfl rfl rfl ?_
  refine q_load (v := (0, 60, 0)) (p2 := 21) rfl rfl rfl rfl ?_
  refine q_if0_s (p2 := 22) rfl (by decide) (by omega) rfl (fun _ => ?_) (fun hb => absurd (show ¬ (60 < 0) by omega) hb)
  refine q_load (v := (6, 0, 0)) (p2 := 25) rfl rfl rfl rfl ?_
  refine q_getv (v := (6, 7, 0)) (p2 := 26) rfl hs1_0 (by decide) rfl rfl ?_
  refine x_n_lt (fun hlt3 => ?_)
  have hm2 := (x_PS_at hPS (fun j hj hne => by have hj2 := x_some_lt hlt0 hne; exact (fr1 j (by omega) (by omega) (by omega) (by omega) (by omega) (by omega) (by omega))))
  have hm4 := (x_LK_at2 hLK0 (fun j h1 h2 => (fr1 j (by omega) (by omega) (by omega) (by omega) (by omega) (by omega) (by omega))))
  refine q_callvE (xs := [(6, 7, 0)]) (p2 := 27) rfl rfl rfl rfl (x_rcv_s 7 hm2.1.choose_spec.1) rfl (e_prepare hm2 hm4.1 hpv hs1_3.2.2.2.2.2.2.2.2.2) (Nat.le_refl _) (Nat.le_refl _) rfl (fun φ5 hR5 => ?_)
  obtain ⟨A5, B5, hPS5, hLK5, frn5⟩ := hR5
  have hAB5 := x_pop_AB hPS5.1.choose_spec
  obtain ⟨lik5, lb5, hL5, hLb5, hlk5⟩ := id hLK5
  refine x_n_lt (fun hlt6 => ?_)
  have hLKx5 : x_LK φ5 A5 B5 made 0 comb hm ∧ _ := ⟨hLK5, hAB5⟩
  refine q_load (v := (6, 0, 0)) (p2 := 28) rfl rfl rfl rfl ?_
  have hm7 := (zq_H_at hs1_0 (frn5 0 (by omega) (by omega) (by omega)))
  refine q_getv (v := (6, 455, 0)) (p2 := 29) rfl hm7 (by decide) rfl rfl ?_
  refine q_load (v := (0, 60, 0)) (p2 := 30) rfl rfl rfl rfl ?_
  refine q_load (v := (6, 0, 0)) (p2 := 31) rfl rfl rfl rfl ?_
  refine q_getv (v := (6, 7, 0)) (p2 := 32) rfl hm7 (by decide) rfl rfl ?_
  refine q_getv (v := (6, 225, 0)) (p2 := 33) rfl hPS5.1.choose_spec.1 (by decide) hPS5.1.choose_spec.2.2.1 rfl ?_
  have hm8 := (x_KS_at2 hs1_3 (fun j h1 h2 h3 h4 => (frn5 j (by omega) (by omega) (by omega))))
  refine q_callrB (xs := [(6, 225, 0), (0, 60, 0), (6, 455, 0)]) (p2 := 34) rfl rfl rfl rfl (x_rcv_s 455 (x_KS_455 hm8)) rfl (zc_run_whole hPS5 hm8 (by omega) (by omega) (((x_s_ne (by decide)).trans ((x_s_ne (by decide)).trans ((x_s_ne (by decide)).trans ((x_s_ne (by decide)).trans ((x_s_ne (by decide)).trans (x_s_eq))))))) (((x_s_ne (by decide)).trans ((x_s_ne (by decide)).trans ((x_s_ne (by decide)).trans (x_s_eq))))) (((x_s_ne (by decide)).trans ((x_s_ne (by decide)).trans (x_s_eq)))) ((((x_s_ne (by decide)).trans (x_s_eq))).trans hw) ((x_s_eq)) (by omega)) rfl (fun w9 φ9 n9 sl9 hn9 hN9 hs9 hT9 hR9 => ?_)
  obtain ⟨v9, hwv9, ⟨ka9, kb9, kc9, kd9, ke9, kf9, kg9, kh9, ki9, kj9, hK9⟩, hV9, frn9⟩ := hR9
  subst hwv9
  refine x_n_lt (fun hlt10 => ?_)
  have hz11 := x_mv_lt hV9 hlt10
  have hy11 := hV9.1
  refine q_store (loc2 := [(6, 0, 0), (0, x, 0), (0, 0, 0), (0, 60, 0), (6, v9, 0), (11, 0, 0)]) (p2 := 35) rfl rfl rfl rfl rfl ?_
  refine q_load (v := (6, 0, 0)) (p2 := 36) rfl rfl rfl rfl ?_
  have hm12 := (zq_H_at hm7 (frn9 0 (by omega) (by omega)))
  refine q_getv (v := (6, 455, 0)) (p2 := 37) rfl hm12 (by decide) rfl rfl ?_
  refine q_getv (v := (0, 0, 0)) (p2 := 38) rfl (x_KS_455 hK9) (by decide) hK9.1.choose_spec.2.2.2.2.2.2.2.2.2.2.2.2.2.2.2.2.2.1 rfl ?_
  refine q_if0_s (p2 := 39) rfl (by decide) (by omega) rfl (fun _ => ?_) (fun hb => absurd (show 0 = 0 by omega) hb)
  refine q_load (v := (6, 0, 0)) (p2 := 42) rfl rfl rfl rfl ?_
  refine q_getv (v := (6, 7, 0)) (p2 := 43) rfl hm12 (by decide) rfl rfl ?_
  have hm13 := (x_PS_at hPS5 (fun j hj hne => by have hj2 := x_some_lt hlt6 hne; exact (frn9 j (by omega) (by omega))))
  refine q_getv (v := (6, 237, 0)) (p2 := 44) rfl hm13.1.choose_spec.1 (by decide) hm13.1.choose_spec.2.1 rfl ?_
  refine q_getv (v := (6, 271, 0)) (p2 := 45) rfl hK9.2.2.2.2.2.2.2.2.2.1.choose_spec.1 (by decide) hK9.2.2.2.2.2.2.2.2.2.1.choose_spec.2.2.2.2.2.2.2.2.1 rfl ?_
  refine q_load (v := (0, 0, 0)) (p2 := 46) rfl rfl rfl rfl ?_
  refine q_aldv (v := (6, 272, 0)) (p2 := 47) rfl (x_sc_271 hK9.2.2.2.2.2.2.2.2.2) (by omega) (by omega) rfl rfl ?_
  refine q_const (p2 := 48) rfl rfl ?_
  refine q_aldv (v := (0, 0, 0)) (p2 := 49) rfl (x_sc_272 hK9.2.2.2.2.2.2.2.2.2) (by omega) (by omega) rfl rfl ?_
  refine q_store (loc2 := [(6, 0, 0), (0, x, 0), (0, 0, 0), (0, 60, 0), (6, v9, 0), (0, 0, 0)]) (p2 := 50) rfl rfl rfl rfl rfl ?_
  refine q_load (v := (6, 0, 0)) (p2 := 51) rfl rfl rfl rfl ?_
  refine q_getv (v := (6, 7, 0)) (p2 := 52) rfl hm12 (by decide) rfl rfl ?_
  refine q_load (v := (6, v9, 0)) (p2 := 53) rfl rfl rfl rfl ?_
  refine q_load (v := (0, 0, 0)) (p2 := 54) rfl rfl rfl rfl ?_
  obtain ⟨fV14, hW14, hg14⟩ := x_mv_gS hV9 (by decide)
  have hl14 := hlt10 _ _ hW14
  have h6_14 := hV9.1
  refine q_callr (xs := [(0, 0, 0), (6, v9, 0), (6, 7, 0)]) (p2 := 55) rfl rfl rfl rfl (x_rcv_s 7 hm13.1.choose_spec.1) rfl (e_conv_0 hm13.1.choose_spec hW14 hg14 (by decide) (by omega) hK9.2.2.2.2.2.2.2.2.2) (Nat.le_refl _) (Nat.le_refl _) rfl ?_
  refine q_store (loc2 := [(6, 0, 0), (0, x, 0), (0, 0, 0), (0, 60, 0), (6, v9, 0), (0, 0, 0)]) (p2 := 56) rfl rfl rfl rfl rfl ?_
  refine q_load (v := (6, 0, 0)) (p2 := 57) rfl rfl rfl rfl ?_
  refine q_getv (v := (6, 7, 0)) (p2 := 58) rfl hm12 (by decide) rfl rfl ?_
  refine q_load (v := (6, v9, 0)) (p2 := 59) rfl rfl rfl rfl ?_
  refine q_load (v := (0, 0, 0)) (p2 := 60) rfl rfl rfl rfl ?_
  refine q_callr (xs := [(0, 0, 0), (6, v9, 0), (6, 7, 0)]) (p2 := 61) rfl rfl rfl rfl (x_rcv_s 7 hm13.1.choose_spec.1) rfl (e_fits_0 hm13.1.choose_spec hW14 hg14 (by decide) (by omega) hK9.2.2.2.2.2.2.2.2.2 (by decide)) (Nat.le_refl _) (Nat.le_refl _) rfl ?_
  refine q_if0_s (p2 := 62) rfl (by decide) (by omega) rfl (fun _ => ?_) (fun hb => absurd (show ¬ (1 = 0) by omega) hb)
  refine q_load (v := (6, 0, 0)) (p2 := 65) rfl rfl rfl rfl ?_
  refine q_getv (v := (6, 7, 0)) (p2 := 66) rfl hm12 (by decide) rfl rfl ?_
  refine q_load (v := (0, x, 0)) (p2 := 67) rfl rfl rfl rfl ?_
  refine q_load (v := (0, 0, 0)) (p2 := 68) rfl rfl rfl rfl ?_
  refine q_load (v := (6, v9, 0)) (p2 := 69) rfl rfl rfl rfl ?_
  have hm15 := (x_LK_at2 hLKx5 (fun j h1 h2 => (frn9 j (by omega) (by omega))))
  refine q_callvE (xs := [(6, v9, 0), (0, 0, 0), (0, x, 0), (6, 7, 0)]) (p2 := 70) rfl rfl rfl rfl (x_rcv_s 7 hm13.1.choose_spec.1) rfl (e_holdP hm13 hV9 (by omega) (by omega)) (Nat.le_refl _) (Nat.le_refl _) rfl (fun φ16 hR16 => ?_)
  obtain ⟨hPS16, frn16⟩ := hR16
  have hPZ16 : x_PS φ16 A5 B5 made sv svm 1 comb (zhm hm (x * 40 + 0) (1, w1, 0, 0, [])) := hPS16
  refine x_n_lt (fun hlt17 => ?_)
  have hLZ16 := x_LK_st1 (made2 := made) (comb2 := comb) (hm2 := (zhm hm (x * 40 + 0) (1, w1, 0, 0, []))) hm15 (fun j h1 h2 => (frn16 j (by omega) (by omega)))
  refine q_load (v := (6, v9, 0)) (p2 := 71) rfl rfl rfl rfl ?_
  refine q_getv (v := (0, 1, 0)) (p2 := 72) rfl ((frn16 v9 (by omega) (by omega)).trans hW14) (by decide) hg14.1 rfl ?_
  have hm18 := (zq_H_at hm12 (frn16 0 (by omega) (by omega)))
  have hm19 := (zq_tp_at hB ((frn16 1 (by omega) (by omega)).trans ((frn9 1 (by omega) (by omega)).trans ((frn5 1 (by omega) (by omega) (by omega)).trans (fr1 1 (by decide) (by decide) (by decide) (by decide) (by decide) (by decide) (by decide))))))
  have hm20 := (zq_T_at hs1_1 ((frn16 2 (by omega) (by omega)).trans ((frn9 2 (by omega) (by omega)).trans (frn5 2 (by omega) (by omega) (by omega)))) ((frn16 3 (by omega) (by omega)).trans ((frn9 3 (by omega) (by omega)).trans (frn5 3 (by omega) (by omega) (by omega)))) ((frn16 4 (by omega) (by omega)).trans ((frn9 4 (by omega) (by omega)).trans (frn5 4 (by omega) (by omega) (by omega)))) ((frn16 5 (by omega) (by omega)).trans ((frn9 5 (by omega) (by omega)).trans (frn5 5 (by omega) (by omega) (by omega)))) ((frn16 6 (by omega) (by omega)).trans ((frn9 6 (by omega) (by omega)).trans (frn5 6 (by omega) (by omega) (by omega)))))
  have hm21 := (zq_E_at hs1_2 ((frn16 232 (by omega) (by omega)).trans ((frn9 232 (by omega) (by omega)).trans (frn5 232 (by omega) (by omega) (by omega)))))
  have hm22 := (zq_nm_at hN ((frn16 239 (by omega) (by omega)).trans ((frn9 239 (by omega) (by omega)).trans ((frn5 239 (by omega) (by omega) (by omega)).trans (fr1 239 (by decide) (by decide) (by decide) (by decide) (by decide) (by decide) (by decide))))) ((frn16 242 (by omega) (by omega)).trans ((frn9 242 (by omega) (by omega)).trans ((frn5 242 (by omega) (by omega) (by omega)).trans (fr1 242 (by decide) (by decide) (by decide) (by decide) (by decide) (by decide) (by decide))))) ((frn16 244 (by omega) (by omega)).trans ((frn9 244 (by omega) (by omega)).trans ((frn5 244 (by omega) (by omega) (by omega)).trans (fr1 244 (by decide) (by decide) (by decide) (by decide) (by decide) (by decide) (by decide))))))
  have hm23 := (x_KS_at2 hK9 (fun j h1 h2 h3 h4 => (frn16 j (by omega) (by omega))))
  have hm24 := (x_SP_at hSP (fun j hj hne => by have hj2 := x_some_lt hlt0 hne; exact ((frn16 j (by omega) (by omega)).trans ((frn9 j (by omega) (by omega)).trans ((frn5 j (by omega) (by omega) (by omega)).trans (fr1 j (by omega) (by omega) (by omega) (by omega) (by omega) (by omega) (by omega)))))))
  have hm25 := (zq_V5_at hV5 ((frn16 485 (by omega) (by omega)).trans ((frn9 485 (by omega) (by omega)).trans ((frn5 485 (by omega) (by omega) (by omega)).trans (fr1 485 (by decide) (by decide) (by decide) (by decide) (by decide) (by decide) (by decide))))))
  have hm26 := (zq_SL_at hSL ((frn16 482 (by omega) (by omega)).trans ((frn9 482 (by omega) (by omega)).trans ((frn5 482 (by omega) (by omega) (by omega)).trans (fr1 482 (by decide) (by decide) (by decide) (by decide) (by decide) (by decide) (by decide))))))
  have hm27 := (zq_RW_at hRW ((frn16 483 (by omega) (by omega)).trans ((frn9 483 (by omega) (by omega)).trans ((frn5 483 (by omega) (by omega) (by omega)).trans (fr1 483 (by decide) (by decide) (by decide) (by decide) (by decide) (by decide) (by decide))))))
  have hm28 := (zq_J_at hJ ((frn16 468 (by omega) (by omega)).trans ((frn9 468 (by omega) (by omega)).trans ((frn5 468 (by omega) (by omega) (by omega)).trans (fr1 468 (by decide) (by decide) (by decide) (by decide) (by decide) (by decide) (by decide))))) ((frn16 469 (by omega) (by omega)).trans ((frn9 469 (by omega) (by omega)).trans ((frn5 469 (by omega) (by omega) (by omega)).trans (fr1 469 (by decide) (by decide) (by decide) (by decide) (by decide) (by decide) (by decide))))) ((frn16 470 (by omega) (by omega)).trans ((frn9 470 (by omega) (by omega)).trans ((frn5 470 (by omega) (by omega) (by omega)).trans (fr1 470 (by decide) (by decide) (by decide) (by decide) (by decide) (by decide) (by decide))))))
  have hm29 := (zFJ_at hFJ (fun j h1 h2 => ((frn16 j (by omega) (by omega)).trans ((frn9 j (by omega) (by omega)).trans ((frn5 j (by omega) (by omega) (by omega)).trans (fr1 j (by omega) (by omega) (by omega) (by omega) (by omega) (by omega) (by omega)))))))
  have hm30 := (zWJ_at hWJ (fun j h1 h2 => ((frn16 j (by omega) (by omega)).trans ((frn9 j (by omega) (by omega)).trans ((frn5 j (by omega) (by omega) (by omega)).trans (fr1 j (by omega) (by omega) (by omega) (by omega) (by omega) (by omega) (by omega)))))))
  have hm31 := (zq_OV_at hOV ((frn16 452 (by omega) (by omega)).trans ((frn9 452 (by omega) (by omega)).trans ((frn5 452 (by omega) (by omega) (by omega)).trans (fr1 452 (by decide) (by decide) (by decide) (by decide) (by decide) (by decide) (by decide))))) ((frn16 453 (by omega) (by omega)).trans ((frn9 453 (by omega) (by omega)).trans ((frn5 453 (by omega) (by omega) (by omega)).trans (fr1 453 (by decide) (by decide) (by decide) (by decide) (by decide) (by decide) (by decide))))))
  exact q_retv (v := (0, 1, 0)) rfl rfl (⟨rfl, ⟨by omega, by omega⟩, ⟨by omega, by omega⟩, rfl, ⟨⟨_, _, hm18, (x_hw_at hhw (fun j hj hne => by have hj2 := x_some_lt hlt0 hne; exact ((frn16 j (by omega) (by omega)).trans ((frn9 j (by omega) (by omega)).trans ((frn5 j (by omega) (by omega) (by omega)).trans (fr1 j (by omega) (by omega) (by omega) (by omega) (by omega) (by omega) (by omega)))))))⟩, hm19, ⟨_, _, _, _, _, _, _, _, _, _, _, _, _, _, hm20⟩, ⟨_, _, _, _, _, _, _, hm21⟩, hm22, ⟨_, ⟨_, _, _, _, _, _, _, _, _, _, hm23⟩, (fun i hi => by rw [x_s_ne (by omega), x_s_ne (by omega), x_s_ne (by omega), x_s_ne (by omega), x_s_ne (by omega), x_s_ne (by omega)]; exact hco i hi)⟩, ⟨_, _, _, hPZ16, hLZ16⟩, hm24, hm25, ⟨_, hm26⟩, hm27, hm28, hm29, hm30, ⟨_, _, hm31, hovn, hovh⟩⟩⟩)
set_option maxHeartbeats 1000000 in
theorem zc_set3_y {d n sl : Nat} {φ : FH} {tp : Nat → Nat} {lf : Nat} {mi : Nat} {made : Nat} {sv : Nat} {svm : Nat} {comb : Nat → Nat} {hm : Nat → MV} {sc : Nat → Nat} {sm : Nat → MV} {mh : MV} {noted : Nat} {verd : Nat} {ins : Nat → Nat} {ver : Nat → Nat} {sz : Nat} {bw : Nat → Nat} {x w1 d1 : Nat} (hG : zG φ 2 tp lf mi made sv svm comb hm sc sm mh noted verd ins ver sz bw) (hn0 : 486 ≤ n) (hpv : ∀ i, x_pv2 (hm i)) (hmi : mi + 100 ≤ 20000) (hx : x < 40) (hisA : x_isA made comb x 1) (ht0 : tp 0 = 35) (ht1 : tp 1 = d1) (hdd1 : 48 ≤ d1 ∧ d1 ≤ 57) (hw_1 : 0 + d1 - 48 = w1) (hw1 : w1 < 512) (h1 : w1 < made ∧ comb w1 ≠ 0) (hb1 : 1 &&& comb w1 ≠ 0)  : x_f x_P (d + 11) 24 [(6, 0, 0), (0, x, 0), (0, 3, 0), (11, 0, 0), (11, 0, 0), (11, 0, 0)] φ n sl (x_bR n sl 1 7 (fun zw φ2 => zw = (0, 5, 0) ∧ zG φ2 0 tp 0 (mi + 1) made sv svm comb (zhm hm (x * 40 + 3) (5, w1, 0, 0, [])) sc sm mh noted verd ins ver sz bw)) := by
  refine x_f_of rfl ?_
  have hG0 := hG
  obtain ⟨⟨hand, ie, hH, hhw⟩, hB, hTJ, hEJ, hN, hKJ, ⟨A, B, s9, hPS, hLK0⟩, hSP, hV5, ⟨slq, hSL⟩, hRW, hJ, hFJ, hWJ, ⟨ovn, ovh, hOV, hovn, hovh⟩⟩ := hG
  refine x_n_lt (fun hlt0 => ?_)
  have hmade := x_PS_lt hPS
  obtain ⟨tot, at_, cur, pl, va, fa, fp, sf, sp, no, op, K, P, V, hT⟩ := hTJ
  obtain ⟨bi, top, hid, lc, slo, own, sk, hE⟩ := hEJ
  obtain ⟨co, ⟨top_, fr_, pc_, mm, st, lo, re, rs, fl, se, hKS⟩, hco⟩ := hKJ
  refine q_load (v := (6, 0, 0)) (p2 := 1) rfl rfl rfl rfl ?_
  refine q_getv (v := (6, 7, 0)) (p2 := 2) rfl hH (by decide) rfl rfl ?_
  refine q_load (v := (0, x, 0)) (p2 := 3) rfl rfl rfl rfl ?_
  refine q_load (v := (0, 3, 0)) (p2 := 4) rfl rfl rfl rfl ?_
  refine q_callr (xs := [(0, 3, 0), (0, x, 0), (6, 7, 0)]) (p2 := 5) rfl rfl rfl rfl (x_rcv_s 7 hPS.1.choose_spec.1) rfl (x_r_yes (e_has_3 hPS.1.choose_spec hPS.2.1 hKS.2.2.2.2.2.2.2.2.2 (by omega)) hisA) (Nat.le_refl _) (Nat.le_refl _) rfl ?_
  refine q_if0_s (p2 := 6) rfl (by decide) (by omega) rfl (fun hb => absurd hb (show ¬ (1 = 0) by omega)) (fun _ => ?_)
  refine q_load (v := (6, 0, 0)) (p2 := 7) rfl rfl rfl rfl ?_
  refine q_getv (v := (6, 7, 0)) (p2 := 8) rfl hH (by decide) rfl rfl ?_
  refine q_getv (v := (6, 237, 0)) (p2 := 9) rfl hPS.1.choose_spec.1 (by decide) hPS.1.choose_spec.2.1 rfl ?_
  refine q_getv (v := (6, 271, 0)) (p2 := 10) rfl hKS.2.2.2.2.2.2.2.2.2.1.choose_spec.1 (by decide) hKS.2.2.2.2.2.2.2.2.2.1.choose_spec.2.2.2.2.2.2.2.2.1 rfl ?_
  refine q_load (v := (0, 3, 0)) (p2 := 11) rfl rfl rfl rfl ?_
  refine q_aldv (v := (6, 275, 0)) (p2 := 12) rfl (x_sc_271 hKS.2.2.2.2.2.2.2.2.2) (by omega) (by omega) rfl rfl ?_
  refine q_const (p2 := 13) rfl rfl ?_
  refine q_aldv (v := (0, 0, 0)) (p2 := 14) rfl (x_sc_275 hKS.2.2.2.2.2.2.2.2.2) (by omega) (by omega) rfl rfl ?_
  refine q_if0_s (p2 := 15) rfl (by decide) (by omega) rfl (fun _ => ?_) (fun hb => absurd (show 0 = 0 by omega) hb)
  refine q_load (v := (6, 0, 0)) (p2 := 18) rfl rfl rfl rfl ?_
  refine q_callrE (xs := [(6, 0, 0)]) (p2 := 19) rfl rfl rfl rfl (x_rcv_s 0 hH) rfl (zc_h_rx_hash hH hB hT hE hKS hPS hN ht0 ht1 (by omega)) (Nat.le_refl _) (Nat.le_refl _) rfl (fun φ1 hR1 => ?_)
  obtain ⟨hs1_0, hs1_1, hs1_2, hs1_3, fr1⟩ := hR1
  refine q_store (loc2 := [(6, 0, 0), (0, x, 0), (0, 3, 0), (0, 60, 0), (11, 0, 0), (11, 0, 0)]) (p2 := 20) rfl rfl rfl rfl rfl ?_
  refine q_load (v := (0, 60, 0)) (p2 := 21) rfl rfl rfl rfl ?_
  refine q_if0_s (p2 := 22) rfl (by decide) (by omega) rfl (fun _ => ?_) (fun hb => absurd (show ¬ (60 < 0) by omega) hb)
  refine q_load (v := (6, 0, 0)) (p2 := 25) rfl rfl rfl rfl ?_
  refine q_getv (v := (6, 7, 0)) (p2 := 26) rfl hs1_0 (by decide) rfl rfl ?_
  refine x_n_lt (fun hlt3 => ?_)
  have hm2 := (x_PS_at hPS (fun j hj hne => by have hj2 := x_some_lt hlt0 hne; exact (fr1 j (by omega) (by omega) (by omega) (by omega) (by omega) (by omega) (by omega))))
  have hm4 := (x_LK_at2 hLK0 (fun j h1 h2 => (fr1 j (by omega) (by omega) (by omega) (by omega) (by omega) (by omega) (by omega))))
  refine q_callvE (xs := [(6, 7, 0)]) (p2 := 27) rfl rfl rfl rfl (x_rcv_s 7 hm2.1.choose_spec.1) rfl (e_prepare hm2 hm4.1 hpv hs1_3.2.2.2.2.2.2.2.2.2) (Nat.le_refl _) (Nat.le_refl _) rfl (fun φ5 hR5 => ?_)
  obtain ⟨A5, B5, hPS5, hLK5, frn5⟩ := hR5
  have hAB5 := x_pop_AB hPS5.1.choose_spec
  obtain ⟨lik5, lb5, hL5, hLb5, hlk5⟩ := id hLK5
  refine x_n_lt (fun hlt6 => ?_)
  have hLKx5 : x_LK φ5 A5 B5 made 0 comb hm ∧ _ := ⟨hLK5, hAB5⟩
  refine q_load (v := (6, 0, 0)) (p2 := 28) rfl rfl rfl rfl ?_
  have hm7 := (zq_H_at hs1_0 (frn5 0 (by omega) (by omega) (by omega)))
  refine q_getv (v := (6, 455, 0)) (p2 := 29) rfl hm7 (by decide) rfl rfl ?_
  refine q_load (v := (0, 60, 0)) (p2 := 30) rfl rfl rfl rfl ?_
  refine q_load (v := (6, 0, 0)) (p2 := 31) rfl rfl rfl rfl ?_
  refine q_getv (v := (6, 7, 0)) (p2 := 32) rfl hm7 (by decide) rfl rfl ?_
  refine q_getv (v := (6, 225, 0)) (p2 := 33) rfl hPS5.1.choose_spec.1 (by decide) hPS5.1.choose_spec.2.2.1 rfl ?_
  have hm8 := (x_KS_at2 hs1_3 (fun j h1 h2 h3 h4 => (frn5 j (by omega) (by omega) (by omega))))
  refine q_callrB (xs := [(6, 225, 0), (0, 60, 0), (6, 455, 0)]) (p2 := 34) rfl rfl rfl rfl (x_rcv_s 455 (x_KS_455 hm8)) rfl (zc_run_hash_y hPS5 hm8 (by omega) (by omega) (((x_s_ne (by decide)).trans ((x_s_ne (by decide)).trans ((x_s_ne (by decide)).trans ((x_s_ne (by decide)).trans ((x_s_ne (by decide)).trans (x_s_eq))))))) (((x_s_ne (by decide)).trans ((x_s_ne (by decide)).trans ((x_s_ne (by decide)).trans (x_s_eq))))) (((x_s_ne (by decide)).trans ((x_s_ne (by decide)).trans (x_s_eq)))) ((((x_s_ne (by decide)).trans (x_s_eq))).trans hw_1) ((x_s_eq)) (by omega) h1) rfl (fun w9 φ9 n9 sl9 hn9 hN9 hs9 hT9 hR9 => ?_)
  obtain ⟨v9, hwv9, ⟨ka9, kb9, kc9, kd9, ke9, kf9, kg9, kh9, ki9, kj9, hK9⟩, hV9, frn9⟩ := hR9
  subst hwv9
  refine x_n_lt (fun hlt10 => ?_)
  have hz11 := x_mv_lt hV9 hlt10
  have hy11 := hV9.1
  refine q_store (loc2 := [(6, 0, 0), (0, x, 0), (0, 3, 0), (0, 60, 0), (6, v9, 0), (11, 0, 0)]) (p2 := 35) rfl rfl rfl rfl rfl ?_
  refine q_load (v := (6, 0, 0)) (p2 := 36) rfl rfl rfl rfl ?_
  have hm12 := (zq_H_at hm7 (frn9 0 (by omega) (by omega)))
  refine q_getv (v := (6, 455, 0)) (p2 := 37) rfl hm12 (by decide) rfl rfl ?_
  refine q_getv (v := (0, 0, 0)) (p2 := 38) rfl (x_KS_455 hK9) (by decide) hK9.1.choose_spec.2.2.2.2.2.2.2.2.2.2.2.2.2.2.2.2.2.1 rfl ?_
  refine q_if0_s (p2 := 39) rfl (by decide) (by omega) rfl (fun _ => ?_) (fun hb => absurd (show 0 = 0 by omega) hb)
  refine q_load (v := (6, 0, 0)) (p2 := 42) rfl rfl rfl rfl ?_
  refine q_getv (v := (6, 7, 0)) (p2 := 43) rfl hm12 (by decide) rfl rfl ?_
  have hm13 := (x_PS_at hPS5 (fun j hj hne => by have hj2 := x_some_lt hlt6 hne; exact (frn9 j (by omega) (by omega))))
  refine q_getv (v := (6, 237, 0)) (p2 := 44) rfl hm13.1.choose_spec.1 (by decide) hm13.1.choose_spec.2.1 rfl ?_
  refine q_getv (v := (6, 271, 0)) (p2 := 45) rfl hK9.2.2.2.2.2.2.2.2.2.1.choose_spec.1 (by decide) hK9.2.2.2.2.2.2.2.2.2.1.choose_spec.2.2.2.2.2.2.2.2.1 rfl ?_
  refine q_load (v := (0, 3, 0)) (p2 := 46) rfl rfl rfl rfl ?_
  refine q_aldv (v := (6, 275, 0)) (p2 := 47) rfl (x_sc_271 hK9.2.2.2.2.2.2.2.2.2) (by omega) (by omega) rfl rfl ?_
  refine q_const (p2 := 48) rfl rfl ?_
  refine q_aldv (v := (0, 3, 0)) (p2 := 49) rfl (x_sc_275 hK9.2.2.2.2.2.2.2.2.2) (by omega) (by omega) rfl rfl ?_
  refine q_store (loc2 := [(6, 0, 0), (0, x, 0), (0, 3, 0), (0, 60, 0), (6, v9, 0), (0, 3, 0)]) (p2 := 50) rfl rfl rfl rfl rfl ?_
  refine q_load (v := (6, 0, 0)) (p2 := 51) rfl rfl rfl rfl ?_
  refine q_getv (v := (6, 7, 0)) (p2 := 52) rfl hm12 (by decide) rfl rfl ?_
  refine q_load (v := (6, v9, 0)) (p2 := 53) rfl rfl rfl rfl ?_
  refine q_load (v := (0, 3, 0)) (p2 := 54) rfl rfl rfl rfl ?_
  obtain ⟨fV14, hW14, hg14⟩ := x_mv_gS hV9 (by decide)
  have hl14 := hlt10 _ _ hW14
  have h6_14 := hV9.1
  refine q_callr (xs := [(0, 3, 0), (6, v9, 0), (6, 7, 0)]) (p2 := 55) rfl rfl rfl rfl (x_rcv_s 7 hm13.1.choose_spec.1) rfl (e_conv_3 hm13.1.choose_spec hW14 hg14 (by decide) (by omega) hK9.2.2.2.2.2.2.2.2.2) (Nat.le_refl _) (Nat.le_refl _) rfl ?_
  refine q_store (loc2 := [(6, 0, 0), (0, x, 0), (0, 3, 0), (0, 60, 0), (6, v9, 0), (0, 3, 0)]) (p2 := 56) rfl rfl rfl rfl rfl ?_
  refine q_load (v := (6, 0, 0)) (p2 := 57) rfl rfl rfl rfl ?_
  refine q_getv (v := (6, 7, 0)) (p2 := 58) rfl hm12 (by decide) rfl rfl ?_
  refine q_load (v := (6, v9, 0)) (p2 := 59) rfl rfl rfl rfl ?_
  refine q_load (v := (0, 3, 0)) (p2 := 60) rfl rfl rfl rfl ?_
  refine q_callr (xs := [(0, 3, 0), (6, v9, 0), (6, 7, 0)]) (p2 := 61) rfl rfl rfl rfl (x_rcv_s 7 hm13.1.choose_spec.1) rfl (x_r_yes (e_fits_3 hm13.1.choose_spec hm13.2.1 hW14 hg14 (by decide) (by omega) hK9.2.2.2.2.2.2.2.2.2 (Or.inr rfl) (by omega)) (Or.inr hb1)) (Nat.le_refl _) (Nat.le_refl _) rfl ?_
  refine q_if0_s (p2 := 62) rfl (by decide) (by omega) rfl (fun _ => ?_) (fun hb => absurd (show ¬ (1 = 0) by omega) hb)
  refine q_load (v := (6, 0, 0)) (p2 := 65) rfl rfl rfl rfl ?_
  refine q_getv (v := (6, 7, 0)) (p2 := 66) rfl hm12 (by decide) rfl rfl ?_
  refine q_load (v := (0, x, 0)) (p2 := 67) rfl rfl rfl rfl ?_
  refine q_load (v := (0, 3, 0)) (p2 := 68) rfl rfl rfl rfl ?_
  refine q_load (v := (6, v9, 0)) (p2 := 69) rfl rfl rfl rfl ?_
  have hm15 := (x_LK_at2 hLKx5 (fun j h1 h2 => (frn9 j (by omega) (by omega))))
  refine q_callvE (xs := [(6, v9, 0), (0, 3, 0), (0, x, 0), (6, 7, 0)]) (p2 := 70) rfl rfl rfl rfl (x_rcv_s 7 hm13.1.choose_spec.1) rfl (e_holdP hm13 hV9 (by omega) (by omega)) (Nat.le_refl _) (Nat.le_refl _) rfl (fun φ16 hR16 => ?_)
  obtain ⟨hPS16, frn16⟩ := hR16
  have hPZ16 : x_PS φ16 A5 B5 made sv svm 1 comb (zhm hm (x * 40 + 3) (5, w1, 0, 0, [])) := hPS16
  refine x_n_lt (fun hlt17 => ?_)
  have hLZ16 := x_LK_st1 (made2 := made) (comb2 := comb) (hm2 := (zhm hm (x * 40 + 3) (5, w1, 0, 0, []))) hm15 (fun j h1 h2 => (frn16 j (by omega) (by omega)))
  refine q_load (v := (6, v9, 0)) (p2 := 71) rfl rfl rfl rfl ?_
  refine q_getv (v := (0, 5, 0)) (p2 := 72) rfl ((frn16 v9 (by omega) (by omega)).trans hW14) (by decide) hg14.1 rfl ?_
  have hm18 := (zq_H_at hm12 (frn16 0 (by omega) (by omega)))
  have hm19 := (zq_tp_at hB ((frn16 1 (by omega) (by omega)).trans ((frn9 1 (by omega) (by omega)).trans ((frn5 1 (by omega) (by omega) (by omega)).trans (fr1 1 (by decide) (by decide) (by decide) (by decide) (by decide) (by decide) (by decide))))))
  have hm20 := (zq_T_at hs1_1 ((frn16 2 (by omega) (by omega)).trans ((frn9 2 (by omega) (by omega)).trans (frn5 2 (by omega) (by omega) (by omega)))) ((frn16 3 (by omega) (by omega)).trans ((frn9 3 (by omega) (by omega)).trans (frn5 3 (by omega) (by omega) (by omega)))) ((frn16 4 (by omega) (by omega)).trans ((frn9 4 (by omega) (by omega)).trans (frn5 4 (by omega) (by omega) (by omega)))) ((frn16 5 (by omega) (by omega)).trans ((frn9 5 (by omega) (by omega)).trans (frn5 5 (by omega) (by omega) (by omega)))) ((frn16 6 (by omega) (by omega)).trans ((frn9 6 (by omega) (by omega)).trans (frn5 6 (by omega) (by omega) (by omega)))))
  have hm21 := (zq_E_at hs1_2 ((frn16 232 (by omega) (by omega)).trans ((frn9 232 (by omega) (by omega)).trans (frn5 232 (by omega) (by omega) (by omega)))))
  have hm22 := (zq_nm_at hN ((frn16 239 (by omega) (by omega)).trans ((frn9 239 (by omega) (by omega)).trans ((frn5 239 (by omega) (by omega) (by omega)).trans (fr1 239 (by decide) (by decide) (by decide) (by decide) (by decide) (by decide) (by decide))))) ((frn16 242 (by omega) (by omega)).trans ((frn9 242 (by omega) (by omega)).trans ((frn5 242 (by omega) (by omega) (by omega)).trans (fr1 242 (by decide) (by decide) (by decide) (by decide) (by decide) (by decide) (by decide))))) ((frn16 244 (by omega) (by omega)).trans ((frn9 244 (by omega) (by omega)).trans ((frn5 244 (by omega) (by omega) (by omega)).trans (fr1 244 (by decide) (by decide) (by decide) (by decide) (by decide) (by decide) (by decide))))))
  have hm23 := (x_KS_at2 hK9 (fun j h1 h2 h3 h4 => (frn16 j (by omega) (by omega))))
  have hm24 := (x_SP_at hSP (fun j hj hne => by have hj2 := x_some_lt hlt0 hne; exact ((frn16 j (by omega) (by omega)).trans ((frn9 j (by omega) (by omega)).trans ((frn5 j (by omega) (by omega) (by omega)).trans (fr1 j (by omega) (by omega) (by omega) (by omega) (by omega) (by omega) (by omega)))))))
  have hm25 := (zq_V5_at hV5 ((frn16 485 (by omega) (by omega)).trans ((frn9 485 (by omega) (by omega)).trans ((frn5 485 (by omega) (by omega) (by omega)).trans (fr1 485 (by decide) (by decide) (by decide) (by decide) (by decide) (by decide) (by decide))))))
  have hm26 := (zq_SL_at hSL ((frn16 482 (by omega) (by omega)).trans ((frn9 482 (by omega) (by omega)).trans ((frn5 482 (by omega) (by omega) (by omega)).trans (fr1 482 (by decide) (by decide) (by decide) (by decide) (by decide) (by decide) (by decide))))))
  have hm27 := (zq_RW_at hRW ((frn16 483 (by omega) (by omega)).trans ((frn9 483 (by omega) (by omega)).trans ((frn5 483 (by omega) (by omega) (by omega)).trans (fr1 483 (by decide) (by decide) (by decide) (by decide) (by decide) (by decide) (by decide))))))
  have hm28 := (zq_J_at hJ ((frn16 468 (by omega) (by omega)).trans ((frn9 468 (by omega) (by omega)).trans ((frn5 468 (by omega) (by omega) (by omega)).trans (fr1 468 (by decide) (by decide) (by decide) (by decide) (by decide) (by decide) (by decide))))) ((frn16 469 (by omega) (by omega)).trans ((frn9 469 (by omega) (by omega)).trans ((frn5 469 (by omega) (by omega) (by omega)).trans (fr1 469 (by decide) (by decide) (by decide) (by decide) (by decide) (by decide) (by decide))))) ((frn16 470 (by omega) (by omega)).trans ((frn9 470 (by omega) (by omega)).trans ((frn5 470 (by omega) (by omega) (by omega)).trans (fr1 470 (by decide) (by decide) (by decide) (by decide) (by decide) (by decide) (by decide))))))
  have hm29 := (zFJ_at hFJ (fun j h1 h2 => ((frn16 j (by omega) (by omega)).trans ((frn9 j (by omega) (by omega)).trans ((frn5 j (by omega) (by omega) (by omega)).trans (fr1 j (by omega) (by omega) (by omega) (by omega) (by omega) (by omega) (by omega)))))))
  have hm30 := (zWJ_at hWJ (fun j h1 h2 => ((frn16 j (by omega) (by omega)).trans ((frn9 j (by omega) (by omega)).trans ((frn5 j (by omega) (by omega) (by omega)).trans (fr1 j (by omega) (by omega) (by omega) (by omega) (by omega) (by omega) (by omega)))))))
  have hm31 := (zq_OV_at hOV ((frn16 452 (by omega) (by omega)).trans ((frn9 452 (by omega) (by omega)).trans ((frn5 452 (by omega) (by omega) (by omega)).trans (fr1 452 (by decide) (by decide) (by decide) (by decide) (by decide) (by decide) (by decide))))) ((frn16 453 (by omega) (by omega)).trans ((frn9 453 (by omega) (by omega)).trans ((frn5 453 (by omega) (by omega) (by omega)).trans (fr1 453 (by decide) (by decide) (by decide) (by decide) (by decide) (by decide) (by decide))))))
  exact q_retv (v := (0, 5, 0)) rfl rfl (⟨rfl, ⟨by omega, by omega⟩, ⟨by omega, by omega⟩, rfl, ⟨⟨_, _, hm18, (x_hw_at hhw (fun j hj hne => by have hj2 := x_some_lt hlt0 hne; exact ((frn16 j (by omega) (by omega)).trans ((frn9 j (by omega) (by omega)).trans ((frn5 j (by omega) (by omega) (by omega)).trans (fr1 j (by omega) (by omega) (by omega) (by omega) (by omega) (by omega) (by omega)))))))⟩, hm19, ⟨_, _, _, _, _, _, _, _, _, _, _, _, _, _, hm20⟩, ⟨_, _, _, _, _, _, _, hm21⟩, hm22, ⟨_, ⟨_, _, _, _, _, _, _, _, _, _, hm23⟩, (fun i hi => by rw [x_s_ne (by omega), x_s_ne (by omega), x_s_ne (by omega), x_s_ne (by omega), x_s_ne (by omega), x_s_ne (by omega)]; exact hco i hi)⟩, ⟨_, _, _, hPZ16, hLZ16⟩, hm24, hm25, ⟨_, hm26⟩, hm27, hm28, hm29, hm30, ⟨_, _, hm31, hovn, hovh⟩⟩⟩)
set_option maxHeartbeats 1000000 in
theorem zc_set1_yy {d n sl : Nat} {φ : FH} {tp : Nat → Nat} {lf : Nat} {mi : Nat} {made : Nat} {sv : Nat} {svm : Nat} {comb : Nat → Nat} {hm : Nat → MV} {sc : Nat → Nat} {sm : Nat → MV} {mh : MV} {noted : Nat} {verd : Nat} {ins : Nat → Nat} {ver : Nat → Nat} {sz : Nat} {bw : Nat → Nat} {x w1 w2 d1 d2 : Nat} (hG : zG φ 7 tp lf mi made sv svm comb hm sc sm mh noted verd ins ver sz bw) (hn0 : 486 ≤ n) (hpv : ∀ i, x_pv2 (hm i)) (hmi : mi + 100 ≤ 20000) (hx : x < 40) (hisA : x_isA made comb x 0) (ht0 : tp 0 = 91) (ht1 : tp 1 = 35) (ht2 : tp 2 = d1) (ht3 : tp 3 = 44) (ht4 : tp 4 = 35) (ht5 : tp 5 = d2) (ht6 : tp 6 = 93) (hdd1 : 48 ≤ d1 ∧ d1 ≤ 57) (hdd2 : 48 ≤ d2 ∧ d2 ≤ 57) (hw_1 : 0 + d1 - 48 = w1) (hw1 : w1 < 512) (hw_2 : 0 + d2 - 48 = w2) (hw2 : w2 < 512) (h1 : w1 < made ∧ comb w1 ≠ 0) (h2 : w2 < made ∧ comb w2 ≠ 0) (hb1 : 1 &&& comb w1 ≠ 0) (hb2 : 1 &&& comb w2 ≠ 0)  : x_f x_P (d + 19) 24 [(6, 0, 0), (0, x, 0), (0, 1, 0), (11, 0, 0), (11, 0, 0), (11, 0, 0)] φ n sl (x_bR n sl 10 116 (fun zw φ2 => zw = (0, 6, 0) ∧ zG φ2 0 tp 0 (mi + 3) made sv svm comb (zhm hm (x * 40 + 1) (6, 0, 3, 5, x_dd (x_lks made comb hm) made [] [w1, w2])) sc sm mh noted verd ins ver sz bw)) := by
  refine x_f_of rfl ?_
  have hG0 := hG
  obtain ⟨⟨hand, ie, hH, hhw⟩, hB, hTJ, hEJ, hN, hKJ, ⟨A, B, s9, hPS, hLK0⟩, hSP, hV5, ⟨slq, hSL⟩, hRW, hJ, hFJ, hWJ, ⟨ovn, ovh, hOV, hovn, hovh⟩⟩ := hG
  refine x_n_lt (fun hlt0 => ?_)
  have hmade := x_PS_lt hPS
  obtain ⟨tot, at_, cur, pl, va, fa, fp, sf, sp, no, op, K, P, V, hT⟩ := hTJ
  obtain ⟨bi, top, hid, lc, slo, own, sk, hE⟩ := hEJ
  obtain ⟨co, ⟨top_, fr_, pc_, mm, st, lo, re, rs, fl, se, hKS⟩, hco⟩ := hKJ
  refine q_load (v := (6, 0, 0)) (p2 := 1) rfl rfl rfl rfl ?_
  refine q_getv (v := (6, 7, 0)) (p2 := 2) rfl hH (by decide) rfl rfl ?_
  refine q_load (v := (0, x, 0)) (p2 := 3) rfl rfl rfl rfl ?_
  refine q_load (v := (0, 1, 0)) (p2 := 4) rfl rfl rfl rfl ?_
  refine q_callr (xs := [(0, 1, 0), (0, x, 0), (6, 7, 0)]) (p2 := 5) rfl rfl rfl rfl (x_rcv_s 7 hPS.1.choose_spec.1) rfl (x_r_yes (e_has_1 hPS.1.choose_spec hPS.2.1 hKS.2.2.2.2.2.2.2.2.2 (by omega)) hisA) (Nat.le_refl _) (Nat.le_refl _) rfl ?_
  refine q_if0_s (p2 := 6) rfl (by decide) (by omega) rfl (fun hb => absurd hb (show ¬ (1 = 0) by omega)) (fun _ => ?_)
  refine q_load (v := (6, 0, 0)) (p2 := 7) rfl rfl rfl rfl ?_
  refine q_getv (v := (6, 7, 0)) (p2 := 8) rfl hH (by decide) rfl rfl ?_
  refine q_getv (v := (6, 237, 0)) (p2 := 9) rfl hPS.1.choose_spec.1 (by decide) hPS.1.choose_spec.2.1 rfl ?_
  refine q_getv (v := (6, 271, 0)) (p2 := 10) rfl hKS.2.2.2.2.2.2.2.2.2.1.choose_spec.1 (by decide) hKS.2.2.2.2.2.2.2.2.2.1.choose_spec.2.2.2.2.2.2.2.2.1 rfl ?_
  refine q_load (v := (0, 1, 0)) (p2 := 11) rfl rfl rfl rfl ?_
  refine q_aldv (v := (6, 273, 0)) (p2 := 12) rfl (x_sc_271 hKS.2.2.2.2.2.2.2.2.2) (by omega) (by omega) rfl rfl ?_
  refine q_const (p2 := 13) rfl rfl ?_
  refine q_aldv (v := (0, 0, 0)) (p2 := 14) rfl (x_sc_273 hKS.2.2.2.2.2.2.2.2.2) (by omega) (by omega) rfl rfl ?_
  refine q_if0_s (p2 := 15) rfl (by decide) (by omega) rfl (fun _ => ?_) (fun hb => absurd (show 0 = 0 by omega) hb)
  refine q_load (v := (6, 0, 0)) (p2 := 18) rfl rfl rfl rfl ?_
  refine q_callrE (xs := [(6, 0, 0)]) (p2 := 19) rfl rfl rfl rfl (x_rcv_s 0 hH) rfl (zc_h_rx_list hH hB hT hE hKS hPS hN ht0 ht1 ht2 ht3 ht4 ht5 ht6 (by omega)) (Nat.le_refl _) (Nat.le_refl _) rfl (fun φ1 hR1 => ?_)
  obtain ⟨hs1_0, hs1_1, hs1_2, hs1_3, fr1⟩ := hR1
  refine q_store (loc2 := [(6, 0, 0), (0, x, 0), (0, 1, 0), (0, 60, 0), (11, 0, 0), (11, 0, 0)]) (p2 := 20) rfl rfl rfl rfl rfl ?_
  refine q_load (v := (0, 60, 0)) (p2 := 21) rfl rfl rfl rfl ?_
  refine q_if0_s (p2 := 22) rfl (by decide) (by omega) rfl (fun _ => ?_) (fun hb => absurd (show ¬ (60 < 0) by omega) hb)
  refine q_load (v := (6, 0, 0)) (p2 := 25) rfl rfl rfl rfl ?_
  refine q_getv (v := (6, 7, 0)) (p2 := 26) rfl hs1_0 (by decide) rfl rfl ?_
  refine x_n_lt (fun hlt3 => ?_)
  have hm2 := (x_PS_at hPS (fun j hj hne => by have hj2 := x_some_lt hlt0 hne; exact (fr1 j (by omega) (by omega) (by omega) (by omega) (by omega) (by omega) (by omega))))
  have hm4 := (x_LK_at2 hLK0 (fun j h1 h2 => (fr1 j (by omega) (by omega) (by omega) (by omega) (by omega) (by omega) (by omega))))
  refine q_callvE (xs := [(6, 7, 0)]) (p2 := 27) rfl rfl rfl rfl (x_rcv_s 7 hm2.1.choose_spec.1) rfl (e_prepare hm2 hm4.1 hpv hs1_3.2.2.2.2.2.2.2.2.2) (Nat.le_refl _) (Nat.le_refl _) rfl (fun φ5 hR5 => ?_)
  obtain ⟨A5, B5, hPS5, hLK5, frn5⟩ := hR5
  have hAB5 := x_pop_AB hPS5.1.choose_spec
  obtain ⟨lik5, lb5, hL5, hLb5, hlk5⟩ := id hLK5
  refine x_n_lt (fun hlt6 => ?_)
  have hLKx5 : x_LK φ5 A5 B5 made 0 comb hm ∧ _ := ⟨hLK5, hAB5⟩
  refine q_load (v := (6, 0, 0)) (p2 := 28) rfl rfl rfl rfl ?_
  have hm7 := (zq_H_at hs1_0 (frn5 0 (by omega) (by omega) (by omega)))
  refine q_getv (v := (6, 455, 0)) (p2 := 29) rfl hm7 (by decide) rfl rfl ?_
  refine q_load (v := (0, 60, 0)) (p2 := 30) rfl rfl rfl rfl ?_
  refine q_load (v := (6, 0, 0)) (p2 := 31) rfl rfl rfl rfl ?_
  refine q_getv (v := (6, 7, 0)) (p2 := 32) rfl hm7 (by decide) rfl rfl ?_
  refine q_getv (v := (6, 225, 0)) (p2 := 33) rfl hPS5.1.choose_spec.1 (by decide) hPS5.1.choose_spec.2.2.1 rfl ?_
  have hm8 := (x_KS_at2 hs1_3 (fun j h1 h2 h3 h4 => (frn5 j (by omega) (by omega) (by omega))))
  refine q_callrB (xs := [(6, 225, 0), (0, 60, 0), (6, 455, 0)]) (p2 := 34) rfl rfl rfl rfl (x_rcv_s 455 (x_KS_455 hm8)) rfl (zc_run_list_yy hPS5 hm8 (by omega) (by omega) (((x_s_ne (by decide)).trans ((x_s_ne (by decide)).trans ((x_s_ne (by decide)).trans ((x_s_ne (by decide)).trans ((x_s_ne (by decide)).trans ((x_s_ne (by decide)).trans ((x_s_ne (by decide)).trans ((x_s_ne (by decide)).trans ((x_s_ne (by decide)).trans ((x_s_ne (by decide)).trans ((x_s_ne (by decide)).trans ((x_s_ne (by decide)).trans ((x_s_ne (by decide)).trans ((x_s_ne (by decide)).trans ((x_s_ne (by decide)).trans ((x_s_ne (by decide)).trans ((x_s_ne (by decide)).trans ((x_s_ne (by decide)).trans ((x_s_ne (by decide)).trans (x_s_eq))))))))))))))))))))) (((x_s_ne (by decide)).trans ((x_s_ne (by decide)).trans ((x_s_ne (by decide)).trans ((x_s_ne (by decide)).trans ((x_s_ne (by decide)).trans ((x_s_ne (by decide)).trans ((x_s_ne (by decide)).trans ((x_s_ne (by decide)).trans ((x_s_ne (by decide)).trans ((x_s_ne (by decide)).trans ((x_s_ne (by decide)).trans ((x_s_ne (by decide)).trans ((x_s_ne (by decide)).trans ((x_s_ne (by decide)).trans ((x_s_ne (by decide)).trans ((x_s_ne (by decide)).trans ((x_s_ne (by decide)).trans (x_s_eq))))))))))))))))))) (((x_s_ne (by decide)).trans ((x_s_ne (by decide)).trans ((x_s_ne (by decide)).trans ((x_s_ne (by decide)).trans ((x_s_ne (by decide)).trans ((x_s_ne (by decide)).trans ((x_s_ne (by decide)).trans ((x_s_ne (by decide)).trans ((x_s_ne (by decide)).trans ((x_s_ne (by decide)).trans ((x_s_ne (by decide)).trans ((x_s_ne (by decide)).trans ((x_s_ne (by decide)).trans ((x_s_ne (by decide)).trans ((x_s_ne (by decide)).trans ((x_s_ne (by decide)).trans (x_s_eq)))))))))))))))))) (((x_s_ne (by decide)).trans ((x_s_ne (by decide)).trans ((x_s_ne (by decide)).trans ((x_s_ne (by decide)).trans ((x_s_ne (by decide)).trans ((x_s_ne (by decide)).trans ((x_s_ne (by decide)).trans ((x_s_ne (by decide)).trans ((x_s_ne (by decide)).trans ((x_s_ne (by decide)).trans ((x_s_ne (by decide)).trans ((x_s_ne (by decide)).trans ((x_s_ne (by decide)).trans ((x_s_ne (by decide)).trans (x_s_eq)))))))))))))))) (((x_s_ne (by decide)).trans ((x_s_ne (by decide)).trans ((x_s_ne (by decide)).trans ((x_s_ne (by decide)).trans ((x_s_ne (by decide)).trans ((x_s_ne (by decide)).trans ((x_s_ne (by decide)).trans ((x_s_ne (by decide)).trans ((x_s_ne (by decide)).trans ((x_s_ne (by decide)).trans ((x_s_ne (by decide)).trans ((x_s_ne (by decide)).trans ((x_s_ne (by decide)).trans (x_s_eq))))))))))))))) ((((x_s_ne (by decide)).trans ((x_s_ne (by decide)).trans ((x_s_ne (by decide)).trans ((x_s_ne (by decide)).trans ((x_s_ne (by decide)).trans ((x_s_ne (by decide)).trans ((x_s_ne (by decide)).trans ((x_s_ne (by decide)).trans ((x_s_ne (by decide)).trans ((x_s_ne (by decide)).trans ((x_s_ne (by decide)).trans ((x_s_ne (by decide)).trans (x_s_eq)))))))))))))).trans hw_1) (((x_s_ne (by decide)).trans ((x_s_ne (by decide)).trans ((x_s_ne (by decide)).trans ((x_s_ne (by decide)).trans ((x_s_ne (by decide)).trans ((x_s_ne (by decide)).trans ((x_s_ne (by decide)).trans ((x_s_ne (by decide)).trans ((x_s_ne (by decide)).trans ((x_s_ne (by decide)).trans ((x_s_ne (by decide)).trans (x_s_eq))))))))))))) (((x_s_ne (by decide)).trans ((x_s_ne (by decide)).trans ((x_s_ne (by decide)).trans ((x_s_ne (by decide)).trans ((x_s_ne (by decide)).trans ((x_s_ne (by decide)).trans ((x_s_ne (by decide)).trans ((x_s_ne (by decide)).trans ((x_s_ne (by decide)).trans ((x_s_ne (by decide)).trans (x_s_eq)))))))))))) (((x_s_ne (by decide)).trans ((x_s_ne (by decide)).trans ((x_s_ne (by decide)).trans ((x_s_ne (by decide)).trans ((x_s_ne (by decide)).trans ((x_s_ne (by decide)).trans ((x_s_ne (by decide)).trans ((x_s_ne (by decide)).trans ((x_s_ne (by decide)).trans (x_s_eq))))))))))) (((x_s_ne (by decide)).trans ((x_s_ne (by decide)).trans ((x_s_ne (by decide)).trans ((x_s_ne (by decide)).trans ((x_s_ne (by decide)).trans ((x_s_ne (by decide)).trans ((x_s_ne (by decide)).trans (x_s_eq))))))))) (((x_s_ne (by decide)).trans ((x_s_ne (by decide)).trans ((x_s_ne (by decide)).trans ((x_s_ne (by decide)).trans ((x_s_ne (by decide)).trans ((x_s_ne (by decide)).trans (x_s_eq)))))))) ((((x_s_ne (by decide)).trans ((x_s_ne (by decide)).trans ((x_s_ne (by decide)).trans ((x_s_ne (by decide)).trans ((x_s_ne (by decide)).trans (x_s_eq))))))).trans hw_2) (((x_s_ne (by decide)).trans ((x_s_ne (by decide)).trans ((x_s_ne (by decide)).trans ((x_s_ne (by decide)).trans (x_s_eq)))))) (((x_s_ne (by decide)).trans ((x_s_ne (by decide)).trans ((x_s_ne (by decide)).trans (x_s_eq))))) (((x_s_ne (by decide)).trans ((x_s_ne (by decide)).trans (x_s_eq)))) (((x_s_ne (by decide)).trans (x_s_eq))) ((x_s_eq)) (by omega) (by omega) h1 h2) rfl (fun w9 φ9 n9 sl9 hn9 hN9 hs9 hT9 hR9 => ?_)
  obtain ⟨v9, hwv9, ⟨ka9, kb9, kc9, kd9, ke9, kf9, kg9, kh9, ki9, kj9, hK9⟩, hV9, frn9⟩ := hR9
  subst hwv9
  refine x_n_lt (fun hlt10 => ?_)
  have hz11 := x_mv_lt hV9 hlt10
  have hy11 := hV9.1
  refine q_store (loc2 := [(6, 0, 0), (0, x, 0), (0, 1, 0), (0, 60, 0), (6, v9, 0), (11, 0, 0)]) (p2 := 35) rfl rfl rfl rfl rfl ?_
  refine q_load (v := (6, 0, 0)) (p2 := 36) rfl rfl rfl rfl ?_
  have hm12 := (zq_H_at hm7 (frn9 0 (by omega) (by omega)))
  refine q_getv (v := (6, 455, 0)) (p2 := 37) rfl hm12 (by decide) rfl rfl ?_
  refine q_getv (v := (0, 0, 0)) (p2 := 38) rfl (x_KS_455 hK9) (by decide) hK9.1.choose_spec.2.2.2.2.2.2.2.2.2.2.2.2.2.2.2.2.2.1 rfl ?_
  refine q_if0_s (p2 := 39) rfl (by decide) (by omega) rfl (fun _ => ?_) (fun hb => absurd (show 0 = 0 by omega) hb)
  refine q_load (v := (6, 0, 0)) (p2 := 42) rfl rfl rfl rfl ?_
  refine q_getv (v := (6, 7, 0)) (p2 := 43) rfl hm12 (by decide) rfl rfl ?_
  have hm13 := (x_PS_at hPS5 (fun j hj hne => by have hj2 := x_some_lt hlt6 hne; exact (frn9 j (by omega) (by omega))))
  refine q_getv (v := (6, 237, 0)) (p2 := 44) rfl hm13.1.choose_spec.1 (by decide) hm13.1.choose_spec.2.1 rfl ?_
  refine q_getv (v := (6, 271, 0)) (p2 := 45) rfl hK9.2.2.2.2.2.2.2.2.2.1.choose_spec.1 (by decide) hK9.2.2.2.2.2.2.2.2.2.1.choose_spec.2.2.2.2.2.2.2.2.1 rfl ?_
  refine q_load (v := (0, 1, 0)) (p2 := 46) rfl rfl rfl rfl ?_
  refine q_aldv (v := (6, 273, 0)) (p2 := 47) rfl (x_sc_271 hK9.2.2.2.2.2.2.2.2.2) (by omega) (by omega) rfl rfl ?_
  refine q_const (p2 := 48) rfl rfl ?_
  refine q_aldv (v := (0, 1, 0)) (p2 := 49) rfl (x_sc_273 hK9.2.2.2.2.2.2.2.2.2) (by omega) (by omega) rfl rfl ?_
  refine q_store (loc2 := [(6, 0, 0), (0, x, 0), (0, 1, 0), (0, 60, 0), (6, v9, 0), (0, 1, 0)]) (p2 := 50) rfl rfl rfl rfl rfl ?_
  refine q_load (v := (6, 0, 0)) (p2 := 51) rfl rfl rfl rfl ?_
  refine q_getv (v := (6, 7, 0)) (p2 := 52) rfl hm12 (by decide) rfl rfl ?_
  refine q_load (v := (6, v9, 0)) (p2 := 53) rfl rfl rfl rfl ?_
  refine q_load (v := (0, 1, 0)) (p2 := 54) rfl rfl rfl rfl ?_
  obtain ⟨fA14, cA14, gA14, h8_14, hW14, hg14, hcA14, hgA14, hlA14, hLA14⟩ := x_mv_gA hV9
  have hl14 := hlt10 _ _ hW14
  have h6_14 := hV9.1
  have hlB14 : ([w1, w2]).length ≤ 24 := hlA14
  have hABz := x_pop_AB hm13.1.choose_spec
  refine q_callrB (xs := [(0, 1, 0), (6, v9, 0), (6, 7, 0)]) (p2 := 55) rfl rfl rfl rfl (x_rcv_s 7 hm13.1.choose_spec.1) rfl (e_conv_1l hg14 hgA14 hLA14 hlA14 hm13.1.choose_spec (x_row_at2 hL5 (frn9 A5 (by omega) (by omega))) hW14 hcA14 hK9.2.2.2.2.2.2.2.2.2 (by omega)) rfl (fun w15 φ15 n15 sl15 hn15 hN15 hs15 hT15 hR15 => ?_)
  obtain ⟨v15, hwv15, hV15, frn15⟩ := hR15
  subst hwv15
  rw [x_dd_congr (hlk5 rfl)] at hV15
  refine x_n_lt (fun hlt16 => ?_)
  have hz17 := x_mv_lt hV15 hlt16
  have hy17 := hV15.1
  refine q_store (loc2 := [(6, 0, 0), (0, x, 0), (0, 1, 0), (0, 60, 0), (6, v15, 0), (0, 1, 0)]) (p2 := 56) rfl rfl rfl rfl rfl ?_
  refine q_load (v := (6, 0, 0)) (p2 := 57) rfl rfl rfl rfl ?_
  have hm18 := (zq_H_at hm12 (frn15 0 (by omega)))
  refine q_getv (v := (6, 7, 0)) (p2 := 58) rfl hm18 (by decide) rfl rfl ?_
  refine q_load (v := (6, v15, 0)) (p2 := 59) rfl rfl rfl rfl ?_
  refine q_load (v := (0, 1, 0)) (p2 := 60) rfl rfl rfl rfl ?_
  have hm19 := (x_PS_at hm13 (fun j hj hne => by have hj2 := x_some_lt hlt10 hne; exact (frn15 j (by omega))))
  have hm20 := (x_KS_at2 hK9 (fun j h1 h2 h3 h4 => (frn15 j (by omega))))
  obtain ⟨fA21, cA21, gA21, h8_21, hW21, hg21, hcA21, hgA21, hlA21, hLA21⟩ := x_mv_gA hV15
  have hl21 := hlt16 _ _ hW21
  have h6_21 := hV15.1
  have hlB21 : (x_dd (x_lks made comb hm) made [] [w1, w2]).length ≤ 24 := hlA21
  refine q_callr (xs := [(0, 1, 0), (6, v15, 0), (6, 7, 0)]) (p2 := 61) rfl rfl rfl rfl (x_rcv_s 7 hm19.1.choose_spec.1) rfl (x_r_yes (e_fits_1 hm19.1.choose_spec hm19.2.1 hm20.2.2.2.2.2.2.2.2.2 hW21 hg21 hcA21 hgA21 hLA21 hlA21 (x_dd_two2 hw1 hw2)) (x_dd_two (p := fun z => 1 &&& comb z ≠ 0) hb1 hb2)) (Nat.le_refl _) (Nat.le_refl _) rfl ?_
  refine q_if0_s (p2 := 62) rfl (by decide) (by omega) rfl (fun _ => ?_) (fun hb => absurd (show ¬ (1 = 0) by omega) hb)
  refine q_load (v := (6, 0, 0)) (p2 := 65) rfl rfl rfl rfl ?_
  refine q_getv (v := (6, 7, 0)) (p2 := 66) rfl hm18 (by decide) rfl rfl ?_
  refine q_load (v := (0, x, 0)) (p2 := 67) rfl rfl rfl rfl ?_
  refine q_load (v := (0, 1, 0)) (p2 := 68) rfl rfl rfl rfl ?_
  refine q_load (v := (6, v15, 0)) (p2 := 69) rfl rfl rfl rfl ?_
  have hm22 := (x_LK_at2 hLKx5 (fun j h1 h2 => ((frn15 j (by omega)).trans (frn9 j (by omega) (by omega)))))
  refine q_callvE (xs := [(6, v15, 0), (0, 1, 0), (0, x, 0), (6, 7, 0)]) (p2 := 70) rfl rfl rfl rfl (x_rcv_s 7 hm19.1.choose_spec.1) rfl (e_holdP hm19 hV15 (by omega) (by omega)) (Nat.le_refl _) (Nat.le_refl _) rfl (fun φ23 hR23 => ?_)
  obtain ⟨hPS23, frn23⟩ := hR23
  have hPZ23 : x_PS φ23 A5 B5 made sv svm 1 comb (zhm hm (x * 40 + 1) (6, 0, 3, 5, x_dd (x_lks made comb hm) made [] [w1, w2])) := hPS23
  refine x_n_lt (fun hlt24 => ?_)
  have hLZ23 := x_LK_st1 (made2 := made) (comb2 := comb) (hm2 := (zhm hm (x * 40 + 1) (6, 0, 3, 5, x_dd (x_lks made comb hm) made [] [w1, w2]))) hm22 (fun j h1 h2 => (frn23 j (by omega) (by omega)))
  refine q_load (v := (6, v15, 0)) (p2 := 71) rfl rfl rfl rfl ?_
  refine q_getv (v := (0, 6, 0)) (p2 := 72) rfl ((frn23 v15 (by omega) (by omega)).trans hW21) (by decide) hg21.1 rfl ?_
  have hm25 := (zq_H_at hm18 (frn23 0 (by omega) (by omega)))
  have hm26 := (zq_tp_at hB ((frn23 1 (by omega) (by omega)).trans ((frn15 1 (by omega)).trans ((frn9 1 (by omega) (by omega)).trans ((frn5 1 (by omega) (by omega) (by omega)).trans (fr1 1 (by decide) (by decide) (by decide) (by decide) (by decide) (by decide) (by decide)))))))
  have hm27 := (zq_T_at hs1_1 ((frn23 2 (by omega) (by omega)).trans ((frn15 2 (by omega)).trans ((frn9 2 (by omega) (by omega)).trans (frn5 2 (by omega) (by omega) (by omega))))) ((frn23 3 (by omega) (by omega)).trans ((frn15 3 (by omega)).trans ((frn9 3 (by omega) (by omega)).trans (frn5 3 (by omega) (by omega) (by omega))))) ((frn23 4 (by omega) (by omega)).trans ((frn15 4 (by omega)).trans ((frn9 4 (by omega) (by omega)).trans (frn5 4 (by omega) (by omega) (by omega))))) ((frn23 5 (by omega) (by omega)).trans ((frn15 5 (by omega)).trans ((frn9 5 (by omega) (by omega)).trans (frn5 5 (by omega) (by omega) (by omega))))) ((frn23 6 (by omega) (by omega)).trans ((frn15 6 (by omega)).trans ((frn9 6 (by omega) (by omega)).trans (frn5 6 (by omega) (by omega) (by omega))))))
  have hm28 := (zq_E_at hs1_2 ((frn23 232 (by omega) (by omega)).trans ((frn15 232 (by omega)).trans ((frn9 232 (by omega) (by omega)).trans (frn5 232 (by omega) (by omega) (by omega))))))
  have hm29 := (zq_nm_at hN ((frn23 239 (by omega) (by omega)).trans ((frn15 239 (by omega)).trans ((frn9 239 (by omega) (by omega)).trans ((frn5 239 (by omega) (by omega) (by omega)).trans (fr1 239 (by decide) (by decide) (by decide) (by decide) (by decide) (by decide) (by decide)))))) ((frn23 242 (by omega) (by omega)).trans ((frn15 242 (by omega)).trans ((frn9 242 (by omega) (by omega)).trans ((frn5 242 (by omega) (by omega) (by omega)).trans (fr1 242 (by decide) (by decide) (by decide) (by decide) (by decide) (by decide) (by decide)))))) ((frn23 244 (by omega) (by omega)).trans ((frn15 244 (by omega)).trans ((frn9 244 (by omega) (by omega)).trans ((frn5 244 (by omega) (by omega) (by omega)).trans (fr1 244 (by decide) (by decide) (by decide) (by decide) (by decide) (by decide) (by decide)))))))
  have hm30 := (x_KS_at2 hm20 (fun j h1 h2 h3 h4 => (frn23 j (by omega) (by omega))))
  have hm31 := (x_SP_at hSP (fun j hj hne => by have hj2 := x_some_lt hlt0 hne; exact ((frn23 j (by omega) (by omega)).trans ((frn15 j (by omega)).trans ((frn9 j (by omega) (by omega)).trans ((frn5 j (by omega) (by omega) (by omega)).trans (fr1 j (by omega) (by omega) (by omega) (by omega) (by omega) (by omega) (by omega))))))))
  have hm32 := (zq_V5_at hV5 ((frn23 485 (by omega) (by omega)).trans ((frn15 485 (by omega)).trans ((frn9 485 (by omega) (by omega)).trans ((frn5 485 (by omega) (by omega) (by omega)).trans (fr1 485 (by decide) (by decide) (by decide) (by decide) (by decide) (by decide) (by decide)))))))
  have hm33 := (zq_SL_at hSL ((frn23 482 (by omega) (by omega)).trans ((frn15 482 (by omega)).trans ((frn9 482 (by omega) (by omega)).trans ((frn5 482 (by omega) (by omega) (by omega)).trans (fr1 482 (by decide) (by decide) (by decide) (by decide) (by decide) (by decide) (by decide)))))))
  have hm34 := (zq_RW_at hRW ((frn23 483 (by omega) (by omega)).trans ((frn15 483 (by omega)).trans ((frn9 483 (by omega) (by omega)).trans ((frn5 483 (by omega) (by omega) (by omega)).trans (fr1 483 (by decide) (by decide) (by decide) (by decide) (by decide) (by decide) (by decide)))))))
  have hm35 := (zq_J_at hJ ((frn23 468 (by omega) (by omega)).trans ((frn15 468 (by omega)).trans ((frn9 468 (by omega) (by omega)).trans ((frn5 468 (by omega) (by omega) (by omega)).trans (fr1 468 (by decide) (by decide) (by decide) (by decide) (by decide) (by decide) (by decide)))))) ((frn23 469 (by omega) (by omega)).trans ((frn15 469 (by omega)).trans ((frn9 469 (by omega) (by omega)).trans ((frn5 469 (by omega) (by omega) (by omega)).trans (fr1 469 (by decide) (by decide) (by decide) (by decide) (by decide) (by decide) (by decide)))))) ((frn23 470 (by omega) (by omega)).trans ((frn15 470 (by omega)).trans ((frn9 470 (by omega) (by omega)).trans ((frn5 470 (by omega) (by omega) (by omega)).trans (fr1 470 (by decide) (by decide) (by decide) (by decide) (by decide) (by decide) (by decide)))))))
  have hm36 := (zFJ_at hFJ (fun j h1 h2 => ((frn23 j (by omega) (by omega)).trans ((frn15 j (by omega)).trans ((frn9 j (by omega) (by omega)).trans ((frn5 j (by omega) (by omega) (by omega)).trans (fr1 j (by omega) (by omega) (by omega) (by omega) (by omega) (by omega) (by omega))))))))
  have hm37 := (zWJ_at hWJ (fun j h1 h2 => ((frn23 j (by omega) (by omega)).trans ((frn15 j (by omega)).trans ((frn9 j (by omega) (by omega)).trans ((frn5 j (by omega) (by omega) (by omega)).trans (fr1 j (by omega) (by omega) (by omega) (by omega) (by omega) (by omega) (by omega))))))))
  have hm38 := (zq_OV_at hOV ((frn23 452 (by omega) (by omega)).trans ((frn15 452 (by omega)).trans ((frn9 452 (by omega) (by omega)).trans ((frn5 452 (by omega) (by omega) (by omega)).trans (fr1 452 (by decide) (by decide) (by decide) (by decide) (by decide) (by decide) (by decide)))))) ((frn23 453 (by omega) (by omega)).trans ((frn15 453 (by omega)).trans ((frn9 453 (by omega) (by omega)).trans ((frn5 453 (by omega) (by omega) (by omega)).trans (fr1 453 (by decide) (by decide) (by decide) (by decide) (by decide) (by decide) (by decide)))))))
  exact q_retv (v := (0, 6, 0)) rfl rfl (⟨rfl, ⟨by omega, by omega⟩, ⟨by omega, by omega⟩, rfl, ⟨⟨_, _, hm25, (x_hw_at hhw (fun j hj hne => by have hj2 := x_some_lt hlt0 hne; exact ((frn23 j (by omega) (by omega)).trans ((frn15 j (by omega)).trans ((frn9 j (by omega) (by omega)).trans ((frn5 j (by omega) (by omega) (by omega)).trans (fr1 j (by omega) (by omega) (by omega) (by omega) (by omega) (by omega) (by omega))))))))⟩, hm26, ⟨_, _, _, _, _, _, _, _, _, _, _, _, _, _, hm27⟩, ⟨_, _, _, _, _, _, _, hm28⟩, hm29, ⟨_, ⟨_, _, _, _, _, _, _, _, _, _, hm30⟩, (fun i hi => by rw [x_s_ne (by omega), x_s_ne (by omega), x_s_ne (by omega), x_s_ne (by omega), x_s_ne (by omega), x_s_ne (by omega), x_s_ne (by omega), x_s_ne (by omega), x_s_ne (by omega), x_s_ne (by omega), x_s_ne (by omega), x_s_ne (by omega), x_s_ne (by omega), x_s_ne (by omega), x_s_ne (by omega), x_s_ne (by omega), x_s_ne (by omega), x_s_ne (by omega), x_s_ne (by omega), x_s_ne (by omega)]; exact hco i hi)⟩, ⟨_, _, _, hPZ23, hLZ23⟩, hm31, hm32, ⟨_, hm33⟩, hm34, hm35, hm36, hm37, ⟨_, _, hm38, hovn, hovh⟩⟩⟩)
set_option maxHeartbeats 1000000 in
theorem zc_set1_yn {d n sl : Nat} {φ : FH} {tp : Nat → Nat} {lf : Nat} {mi : Nat} {made : Nat} {sv : Nat} {svm : Nat} {comb : Nat → Nat} {hm : Nat → MV} {sc : Nat → Nat} {sm : Nat → MV} {mh : MV} {noted : Nat} {verd : Nat} {ins : Nat → Nat} {ver : Nat → Nat} {sz : Nat} {bw : Nat → Nat} {x w1 w2 d1 d2 : Nat} (hG : zG φ 7 tp lf mi made sv svm comb hm sc sm mh noted verd ins ver sz bw) (hn0 : 486 ≤ n) (hpv : ∀ i, x_pv2 (hm i)) (hmi : mi + 100 ≤ 20000) (hx : x < 40) (hisA : x_isA made comb x 0) (ht0 : tp 0 = 91) (ht1 : tp 1 = 35) (ht2 : tp 2 = d1) (ht3 : tp 3 = 44) (ht4 : tp 4 = 35) (ht5 : tp 5 = d2) (ht6 : tp 6 = 93) (hdd1 : 48 ≤ d1 ∧ d1 ≤ 57) (hdd2 : 48 ≤ d2 ∧ d2 ≤ 57) (hw_1 : 0 + d1 - 48 = w1) (hw1 : w1 < 512) (hw_2 : 0 + d2 - 48 = w2) (hw2 : w2 < 512) (h1 : w1 < made ∧ comb w1 ≠ 0) (h2 : ¬ (w2 < made ∧ comb w2 ≠ 0)) : x_f x_P (d + 19) 24 [(6, 0, 0), (0, x, 0), (0, 1, 0), (11, 0, 0), (11, 0, 0), (11, 0, 0)] φ n sl (x_bR n sl 5 52 (fun zw φ2 => zw = (0, 0, 0) ∧ zG φ2 0 tp 0 (mi + 3) made sv svm comb (zhm hm (x * 40 + 1) MV0) sc sm mh noted verd ins ver sz bw)) := by
  refine x_f_of rfl ?_
  have hG0 := hG
  obtain ⟨⟨hand, ie, hH, hhw⟩, hB, hTJ, hEJ, hN, hKJ, ⟨A, B, s9, hPS, hLK0⟩, hSP, hV5, ⟨slq, hSL⟩, hRW, hJ, hFJ, hWJ, ⟨ovn, ovh, hOV, hovn, hovh⟩⟩ := hG
  refine x_n_lt (fun hlt0 => ?_)
  have hmade := x_PS_lt hPS
  obtain ⟨tot, at_, cur, pl, va, fa, fp, sf, sp, no, op, K, P, V, hT⟩ := hTJ
  obtain ⟨bi, top, hid, lc, slo, own, sk, hE⟩ := hEJ
  obtain ⟨co, ⟨top_, fr_, pc_, mm, st, lo, re, rs, fl, se, hKS⟩, hco⟩ := hKJ
  refine q_load (v := (6, 0, 0)) (p2 := 1) rfl rfl rfl rfl ?_
  refine q_getv (v := (6, 7, 0)) (p2 := 2) rfl hH (by decide) rfl rfl ?_
  refine q_load (v := (0, x, 0)) (p2 := 3) rfl rfl rfl rfl ?_
  refine q_load (v := (0, 1, 0)) (p2 := 4) rfl rfl rfl rfl ?_
  refine q_callr (xs := [(0, 1, 0), (0, x, 0), (6, 7, 0)]) (p2 := 5) rfl rfl rfl rfl (x_rcv_s 7 hPS.1.choose_spec.1) rfl (x_r_yes (e_has_1 hPS.1.choose_spec hPS.2.1 hKS.2.2.2.2.2.2.2.2.2 (by omega)) hisA) (Nat.le_refl _) (Nat.le_refl _) rfl ?_
  refine q_if0_s (p2 := 6) rfl (by decide) (by omega) rfl (fun hb => absurd hb (show ¬ (1 = 0) by omega)) (fun _ => ?_)
  refine q_load (v := (6, 0, 0)) (p2 := 7) rfl rfl rfl rfl ?_
  refine q_getv (v := (6, 7, 0)) (p2 := 8) rfl hH (by decide) rfl rfl ?_
  refine q_getv (v := (6, 237, 0)) (p2 := 9) rfl hPS.1.choose_spec.1 (by decide) hPS.1.choose_spec.2.1 rfl ?_
  refine q_getv (v := (6, 271, 0)) (p2 := 10) rfl hKS.2.2.2.2.2.2.2.2.2.1.choose_spec.1 (by decide) hKS.2.2.2.2.2.2.2.2.2.1.choose_spec.2.2.2.2.2.2.2.2.1 rfl ?_
  refine q_load (v := (0, 1, 0)) (p2 := 11) rfl rfl rfl rfl ?_
  refine q_aldv (v := (6, 273, 0)) (p2 := 12) rfl (x_sc_271 hKS.2.2.2.2.2.2.2.2.2) (by omega) (by omega) rfl rfl ?_
  refine q_const (p2 := 13) rfl rfl ?_
  refine q_aldv (v := (0, 0, 0)) (p2 := 14) rfl (x_sc_273 hKS.2.2.2.2.2.2.2.2.2) (by omega) (by omega) rfl rfl ?_
  refine q_if0_s (p2 := 15) rfl (by decide) (by omega) rfl (fun _ => ?_) (fun hb => absurd (show 0 = 0 by omega) hb)
  refine q_load (v := (6, 0, 0)) (p2 := 18) rfl rfl rfl rfl ?_
  refine q_callrE (xs := [(6, 0, 0)]) (p2 := 19) rfl rfl rfl rfl (x_rcv_s 0 hH) rfl (zc_h_rx_list hH hB hT hE hKS hPS hN ht0 ht1 ht2 ht3 ht4 ht5 ht6 (by omega)) (Nat.le_refl _) (Nat.le_refl _) rfl (fun φ1 hR1 => ?_)
  obtain ⟨hs1_0, hs1_1, hs1_2, hs1_3, fr1⟩ := hR1
  refine q_store (loc2 := [(6, 0, 0), (0, x, 0), (0, 1, 0), (0, 60, 0), (11, 0, 0), (11, 0, 0)]) (p2 := 20) rfl rfl rfl rfl rfl ?_
  refine q_load (v := (0, 60, 0)) (p2 := 21) rfl rfl rfl rfl ?_
  refine q_if0_s (p2 := 22) rfl (by decide) (by omega) rfl (fun _ => ?_) (fun hb => absurd (show ¬ (60 < 0) by omega) hb)
  refine q_load (v := (6, 0, 0)) (p2 := 25) rfl rfl rfl rfl ?_
  refine q_getv (v := (6, 7, 0)) (p2 := 26) rfl hs1_0 (by decide) rfl rfl ?_
  refine x_n_lt (fun hlt3 => ?_)
  have hm2 := (x_PS_at hPS (fun j hj hne => by have hj2 := x_some_lt hlt0 hne; exact (fr1 j (by omega) (by omega) (by omega) (by omega) (by omega) (by omega) (by omega))))
  have hm4 := (x_LK_at2 hLK0 (fun j h1 h2 => (fr1 j (by omega) (by omega) (by omega) (by omega) (by omega) (by omega) (by omega))))
  refine q_callvE (xs := [(6, 7, 0)]) (p2 := 27) rfl rfl rfl rfl (x_rcv_s 7 hm2.1.choose_spec.1) rfl (e_prepare hm2 hm4.1 hpv hs1_3.2.2.2.2.2.2.2.2.2) (Nat.le_refl _) (Nat.le_refl _) rfl (fun φ5 hR5 => ?_)
  obtain ⟨A5, B5, hPS5, hLK5, frn5⟩ := hR5
  have hAB5 := x_pop_AB hPS5.1.choose_spec
  obtain ⟨lik5, lb5, hL5, hLb5, hlk5⟩ := id hLK5
  refine x_n_lt (fun hlt6 => ?_)
  have hLKx5 : x_LK φ5 A5 B5 made 0 comb hm ∧ _ := ⟨hLK5, hAB5⟩
  refine q_load (v := (6, 0, 0)) (p2 := 28) rfl rfl rfl rfl ?_
  have hm7 := (zq_H_at hs1_0 (frn5 0 (by omega) (by omega) (by omega)))
  refine q_getv (v := (6, 455, 0)) (p2 := 29) rfl hm7 (by decide) rfl rfl ?_
  refine q_load (v := (0, 60, 0)) (p2 := 30) rfl rfl rfl rfl ?_
  refine q_load (v := (6, 0, 0)) (p2 := 31) rfl rfl rfl rfl ?_
  refine q_getv (v := (6, 7, 0)) (p2 := 32) rfl hm7 (by decide) rfl rfl ?_
  refine q_getv (v := (6, 225, 0)) (p2 := 33) rfl hPS5.1.choose_spec.1 (by decide) hPS5.1.choose_spec.2.2.1 rfl ?_
  have hm8 := (x_KS_at2 hs1_3 (fun j h1 h2 h3 h4 => (frn5 j (by omega) (by omega) (by omega))))
  refine q_callrB (xs := [(6, 225, 0), (0, 60, 0), (6, 455, 0)]) (p2 := 34) rfl rfl rfl rfl (x_rcv_s 455 (x_KS_455 hm8)) rfl (zc_run_list_yn hPS5 hm8 (by omega) (by omega) (((x_s_ne (by decide)).trans ((x_s_ne (by decide)).trans ((x_s_ne (by decide)).trans ((x_s_ne (by decide)).trans ((x_s_ne (by decide)).trans ((x_s_ne (by decide)).trans ((x_s_ne (by decide)).trans ((x_s_ne (by decide)).trans ((x_s_ne (by decide)).trans ((x_s_ne (by decide)).trans ((x_s_ne (by decide)).trans ((x_s_ne (by decide)).trans ((x_s_ne (by decide)).trans ((x_s_ne (by decide)).trans ((x_s_ne (by decide)).trans ((x_s_ne (by decide)).trans ((x_s_ne (by decide)).trans ((x_s_ne (by decide)).trans ((x_s_ne (by decide)).trans (x_s_eq))))))))))))))))))))) (((x_s_ne (by decide)).trans ((x_s_ne (by decide)).trans ((x_s_ne (by decide)).trans ((x_s_ne (by decide)).trans ((x_s_ne (by decide)).trans ((x_s_ne (by decide)).trans ((x_s_ne (by decide)).trans ((x_s_ne (by decide)).trans ((x_s_ne (by decide)).trans ((x_s_ne (by decide)).trans ((x_s_ne (by decide)).trans ((x_s_ne (by decide)).trans ((x_s_ne (by decide)).trans ((x_s_ne (by decide)).trans ((x_s_ne (by decide)).trans ((x_s_ne (by decide)).trans ((x_s_ne (by decide)).trans (x_s_eq))))))))))))))))))) (((x_s_ne (by decide)).trans ((x_s_ne (by decide)).trans ((x_s_ne (by decide)).trans ((x_s_ne (by decide)).trans ((x_s_ne (by decide)).trans ((x_s_ne (by decide)).trans ((x_s_ne (by decide)).trans ((x_s_ne (by decide)).trans ((x_s_ne (by decide)).trans ((x_s_ne (by decide)).trans ((x_s_ne (by decide)).trans ((x_s_ne (by decide)).trans ((x_s_ne (by decide)).trans ((x_s_ne (by decide)).trans ((x_s_ne (by decide)).trans ((x_s_ne (by decide)).trans (x_s_eq)))))))))))))))))) (((x_s_ne (by decide)).trans ((x_s_ne (by decide)).trans ((x_s_ne (by decide)).trans ((x_s_ne (by decide)).trans ((x_s_ne (by decide)).trans ((x_s_ne (by decide)).trans ((x_s_ne (by decide)).trans ((x_s_ne (by decide)).trans ((x_s_ne (by decide)).trans ((x_s_ne (by decide)).trans ((x_s_ne (by decide)).trans ((x_s_ne (by decide)).trans ((x_s_ne (by decide)).trans ((x_s_ne (by decide)).trans (x_s_eq)))))))))))))))) (((x_s_ne (by decide)).trans ((x_s_ne (by decide)).trans ((x_s_ne (by decide)).trans ((x_s_ne (by decide)).trans ((x_s_ne (by decide)).trans ((x_s_ne (by decide)).trans ((x_s_ne (by decide)).trans ((x_s_ne (by decide)).trans ((x_s_ne (by decide)).trans ((x_s_ne (by decide)).trans ((x_s_ne (by decide)).trans ((x_s_ne (by decide)).trans ((x_s_ne (by decide)).trans (x_s_eq))))))))))))))) ((((x_s_ne (by decide)).trans ((x_s_ne (by decide)).trans ((x_s_ne (by decide)).trans ((x_s_ne (by decide)).trans ((x_s_ne (by decide)).trans ((x_s_ne (by decide)).trans ((x_s_ne (by decide)).trans ((x_s_ne (by decide)).trans ((x_s_ne (by decide)).trans ((x_s_ne (by decide)).trans ((x_s_ne (by decide)).trans ((x_s_ne (by decide)).trans (x_s_eq)))))))))))))).trans hw_1) (((x_s_ne (by decide)).trans ((x_s_ne (by decide)).trans ((x_s_ne (by decide)).trans ((x_s_ne (by decide)).trans ((x_s_ne (by decide)).trans ((x_s_ne (by decide)).trans ((x_s_ne (by decide)).trans ((x_s_ne (by decide)).trans ((x_s_ne (by decide)).trans ((x_s_ne (by decide)).trans ((x_s_ne (by decide)).trans (x_s_eq))))))))))))) (((x_s_ne (by decide)).trans ((x_s_ne (by decide)).trans ((x_s_ne (by decide)).trans ((x_s_ne (by decide)).trans ((x_s_ne (by decide)).trans ((x_s_ne (by decide)).trans ((x_s_ne (by decide)).trans ((x_s_ne (by decide)).trans ((x_s_ne (by decide)).trans ((x_s_ne (by decide)).trans (x_s_eq)))))))))))) (((x_s_ne (by decide)).trans ((x_s_ne (by decide)).trans ((x_s_ne (by decide)).trans ((x_s_ne (by decide)).trans ((x_s_ne (by decide)).trans ((x_s_ne (by decide)).trans ((x_s_ne (by decide)).trans ((x_s_ne (by decide)).trans ((x_s_ne (by decide)).trans (x_s_eq))))))))))) (((x_s_ne (by decide)).trans ((x_s_ne (by decide)).trans ((x_s_ne (by decide)).trans ((x_s_ne (by decide)).trans ((x_s_ne (by decide)).trans ((x_s_ne (by decide)).trans ((x_s_ne (by decide)).trans (x_s_eq))))))))) (((x_s_ne (by decide)).trans ((x_s_ne (by decide)).trans ((x_s_ne (by decide)).trans ((x_s_ne (by decide)).trans ((x_s_ne (by decide)).trans ((x_s_ne (by decide)).trans (x_s_eq)))))))) ((((x_s_ne (by decide)).trans ((x_s_ne (by decide)).trans ((x_s_ne (by decide)).trans ((x_s_ne (by decide)).trans ((x_s_ne (by decide)).trans (x_s_eq))))))).trans hw_2) (((x_s_ne (by decide)).trans ((x_s_ne (by decide)).trans ((x_s_ne (by decide)).trans ((x_s_ne (by decide)).trans (x_s_eq)))))) (((x_s_ne (by decide)).trans ((x_s_ne (by decide)).trans ((x_s_ne (by decide)).trans (x_s_eq))))) (((x_s_ne (by decide)).trans ((x_s_ne (by decide)).trans (x_s_eq)))) (((x_s_ne (by decide)).trans (x_s_eq))) ((x_s_eq)) (by omega) (by omega) h1 h2) rfl (fun w9 φ9 n9 sl9 hn9 hN9 hs9 hT9 hR9 => ?_)
  obtain ⟨v9, hwv9, ⟨ka9, kb9, kc9, kd9, ke9, kf9, kg9, kh9, ki9, kj9, hK9⟩, hV9, frn9⟩ := hR9
  subst hwv9
  refine x_n_lt (fun hlt10 => ?_)
  have hz11 := x_mv_lt hV9 hlt10
  have hy11 := hV9.1
  refine q_store (loc2 := [(6, 0, 0), (0, x, 0), (0, 1, 0), (0, 60, 0), (6, v9, 0), (11, 0, 0)]) (p2 := 35) rfl rfl rfl rfl rfl ?_
  refine q_load (v := (6, 0, 0)) (p2 := 36) rfl rfl rfl rfl ?_
  have hm12 := (zq_H_at hm7 (frn9 0 (by omega) (by omega)))
  refine q_getv (v := (6, 455, 0)) (p2 := 37) rfl hm12 (by decide) rfl rfl ?_
  refine q_getv (v := (0, 0, 0)) (p2 := 38) rfl (x_KS_455 hK9) (by decide) hK9.1.choose_spec.2.2.2.2.2.2.2.2.2.2.2.2.2.2.2.2.2.1 rfl ?_
  refine q_if0_s (p2 := 39) rfl (by decide) (by omega) rfl (fun _ => ?_) (fun hb => absurd (show 0 = 0 by omega) hb)
  refine q_load (v := (6, 0, 0)) (p2 := 42) rfl rfl rfl rfl ?_
  refine q_getv (v := (6, 7, 0)) (p2 := 43) rfl hm12 (by decide) rfl rfl ?_
  have hm13 := (x_PS_at hPS5 (fun j hj hne => by have hj2 := x_some_lt hlt6 hne; exact (frn9 j (by omega) (by omega))))
  refine q_getv (v := (6, 237, 0)) (p2 := 44) rfl hm13.1.choose_spec.1 (by decide) hm13.1.choose_spec.2.1 rfl ?_
  refine q_getv (v := (6, 271, 0)) (p2 := 45) rfl hK9.2.2.2.2.2.2.2.2.2.1.choose_spec.1 (by decide) hK9.2.2.2.2.2.2.2.2.2.1.choose_spec.2.2.2.2.2.2.2.2.1 rfl ?_
  refine q_load (v := (0, 1, 0)) (p2 := 46) rfl rfl rfl rfl ?_
  refine q_aldv (v := (6, 273, 0)) (p2 := 47) rfl (x_sc_271 hK9.2.2.2.2.2.2.2.2.2) (by omega) (by omega) rfl rfl ?_
  refine q_const (p2 := 48) rfl rfl ?_
  refine q_aldv (v := (0, 1, 0)) (p2 := 49) rfl (x_sc_273 hK9.2.2.2.2.2.2.2.2.2) (by omega) (by omega) rfl rfl ?_
  refine q_store (loc2 := [(6, 0, 0), (0, x, 0), (0, 1, 0), (0, 60, 0), (6, v9, 0), (0, 1, 0)]) (p2 := 50) rfl rfl rfl rfl rfl ?_
  refine q_load (v := (6, 0, 0)) (p2 := 51) rfl rfl rfl rfl ?_
  refine q_getv (v := (6, 7, 0)) (p2 := 52) rfl hm12 (by decide) rfl rfl ?_
  refine q_load (v := (6, v9, 0)) (p2 := 53) rfl rfl rfl rfl ?_
  refine q_load (v := (0, 1, 0)) (p2 := 54) rfl rfl rfl rfl ?_
  obtain ⟨fV14, hW14, hg14⟩ := x_mv_gS hV9 (by decide)
  have hl14 := hlt10 _ _ hW14
  have h6_14 := hV9.1
  refine q_callr (xs := [(0, 1, 0), (6, v9, 0), (6, 7, 0)]) (p2 := 55) rfl rfl rfl rfl (x_rcv_s 7 hm13.1.choose_spec.1) rfl (e_conv_1s hm13.1.choose_spec hW14 hg14 (by decide) (by omega) hK9.2.2.2.2.2.2.2.2.2 (by decide)) (Nat.le_refl _) (Nat.le_refl _) rfl ?_
  refine q_store (loc2 := [(6, 0, 0), (0, x, 0), (0, 1, 0), (0, 60, 0), (6, v9, 0), (0, 1, 0)]) (p2 := 56) rfl rfl rfl rfl rfl ?_
  refine q_load (v := (6, 0, 0)) (p2 := 57) rfl rfl rfl rfl ?_
  refine q_getv (v := (6, 7, 0)) (p2 := 58) rfl hm12 (by decide) rfl rfl ?_
  refine q_load (v := (6, v9, 0)) (p2 := 59) rfl rfl rfl rfl ?_
  refine q_load (v := (0, 1, 0)) (p2 := 60) rfl rfl rfl rfl ?_
  refine q_callr (xs := [(0, 1, 0), (6, v9, 0), (6, 7, 0)]) (p2 := 61) rfl rfl rfl rfl (x_rcv_s 7 hm13.1.choose_spec.1) rfl (zc_fits_n hW14 hg14) (Nat.le_refl _) (Nat.le_refl _) rfl ?_
  refine q_if0_s (p2 := 62) rfl (by decide) (by omega) rfl (fun _ => ?_) (fun hb => absurd (show ¬ (1 = 0) by omega) hb)
  refine q_load (v := (6, 0, 0)) (p2 := 65) rfl rfl rfl rfl ?_
  refine q_getv (v := (6, 7, 0)) (p2 := 66) rfl hm12 (by decide) rfl rfl ?_
  refine q_load (v := (0, x, 0)) (p2 := 67) rfl rfl rfl rfl ?_
  refine q_load (v := (0, 1, 0)) (p2 := 68) rfl rfl rfl rfl ?_
  refine q_load (v := (6, v9, 0)) (p2 := 69) rfl rfl rfl rfl ?_
  have hm15 := (x_LK_at2 hLKx5 (fun j h1 h2 => (frn9 j (by omega) (by omega))))
  refine q_callvE (xs := [(6, v9, 0), (0, 1, 0), (0, x, 0), (6, 7, 0)]) (p2 := 70) rfl rfl rfl rfl (x_rcv_s 7 hm13.1.choose_spec.1) rfl (e_holdP hm13 hV9 (by omega) (by omega)) (Nat.le_refl _) (Nat.le_refl _) rfl (fun φ16 hR16 => ?_)
  obtain ⟨hPS16, frn16⟩ := hR16
  have hPZ16 : x_PS φ16 A5 B5 made sv svm 1 comb (zhm hm (x * 40 + 1) MV0) := hPS16
  refine x_n_lt (fun hlt17 => ?_)
  have hLZ16 := x_LK_st1 (made2 := made) (comb2 := comb) (hm2 := (zhm hm (x * 40 + 1) MV0)) hm15 (fun j h1 h2 => (frn16 j (by omega) (by omega)))
  refine q_load (v := (6, v9, 0)) (p2 := 71) rfl rfl rfl rfl ?_
  refine q_getv (v := (0, 0, 0)) (p2 := 72) rfl ((frn16 v9 (by omega) (by omega)).trans hW14) (by decide) hg14.1 rfl ?_
  have hm18 := (zq_H_at hm12 (frn16 0 (by omega) (by omega)))
  have hm19 := (zq_tp_at hB ((frn16 1 (by omega) (by omega)).trans ((frn9 1 (by omega) (by omega)).trans ((frn5 1 (by omega) (by omega) (by omega)).trans (fr1 1 (by decide) (by decide) (by decide) (by decide) (by decide) (by decide) (by decide))))))
  have hm20 := (zq_T_at hs1_1 ((frn16 2 (by omega) (by omega)).trans ((frn9 2 (by omega) (by omega)).trans (frn5 2 (by omega) (by omega) (by omega)))) ((frn16 3 (by omega) (by omega)).trans ((frn9 3 (by omega) (by omega)).trans (frn5 3 (by omega) (by omega) (by omega)))) ((frn16 4 (by omega) (by omega)).trans ((frn9 4 (by omega) (by omega)).trans (frn5 4 (by omega) (by omega) (by omega)))) ((frn16 5 (by omega) (by omega)).trans ((frn9 5 (by omega) (by omega)).trans (frn5 5 (by omega) (by omega) (by omega)))) ((frn16 6 (by omega) (by omega)).trans ((frn9 6 (by omega) (by omega)).trans (frn5 6 (by omega) (by omega) (by omega)))))
  have hm21 := (zq_E_at hs1_2 ((frn16 232 (by omega) (by omega)).trans ((frn9 232 (by omega) (by omega)).trans (frn5 232 (by omega) (by omega) (by omega)))))
  have hm22 := (zq_nm_at hN ((frn16 239 (by omega) (by omega)).trans ((frn9 239 (by omega) (by omega)).trans ((frn5 239 (by omega) (by omega) (by omega)).trans (fr1 239 (by decide) (by decide) (by decide) (by decide) (by decide) (by decide) (by decide))))) ((frn16 242 (by omega) (by omega)).trans ((frn9 242 (by omega) (by omega)).trans ((frn5 242 (by omega) (by omega) (by omega)).trans (fr1 242 (by decide) (by decide) (by decide) (by decide) (by decide) (by decide) (by decide))))) ((frn16 244 (by omega) (by omega)).trans ((frn9 244 (by omega) (by omega)).trans ((frn5 244 (by omega) (by omega) (by omega)).trans (fr1 244 (by decide) (by decide) (by decide) (by decide) (by decide) (by decide) (by decide))))))
  have hm23 := (x_KS_at2 hK9 (fun j h1 h2 h3 h4 => (frn16 j (by omega) (by omega))))
  have hm24 := (x_SP_at hSP (fun j hj hne => by have hj2 := x_some_lt hlt0 hne; exact ((frn16 j (by omega) (by omega)).trans ((frn9 j (by omega) (by omega)).trans ((frn5 j (by omega) (by omega) (by omega)).trans (fr1 j (by omega) (by omega) (by omega) (by omega) (by omega) (by omega) (by omega)))))))
  have hm25 := (zq_V5_at hV5 ((frn16 485 (by omega) (by omega)).trans ((frn9 485 (by omega) (by omega)).trans ((frn5 485 (by omega) (by omega) (by omega)).trans (fr1 485 (by decide) (by decide) (by decide) (by decide) (by decide) (by decide) (by decide))))))
  have hm26 := (zq_SL_at hSL ((frn16 482 (by omega) (by omega)).trans ((frn9 482 (by omega) (by omega)).trans ((frn5 482 (by omega) (by omega) (by omega)).trans (fr1 482 (by decide) (by decide) (by decide) (by decide) (by decide) (by decide) (by decide))))))
  have hm27 := (zq_RW_at hRW ((frn16 483 (by omega) (by omega)).trans ((frn9 483 (by omega) (by omega)).trans ((frn5 483 (by omega) (by omega) (by omega)).trans (fr1 483 (by decide) (by decide) (by decide) (by decide) (by decide) (by decide) (by decide))))))
  have hm28 := (zq_J_at hJ ((frn16 468 (by omega) (by omega)).trans ((frn9 468 (by omega) (by omega)).trans ((frn5 468 (by omega) (by omega) (by omega)).trans (fr1 468 (by decide) (by decide) (by decide) (by decide) (by decide) (by decide) (by decide))))) ((frn16 469 (by omega) (by omega)).trans ((frn9 469 (by omega) (by omega)).trans ((frn5 469 (by omega) (by omega) (by omega)).trans (fr1 469 (by decide) (by decide) (by decide) (by decide) (by decide) (by decide) (by decide))))) ((frn16 470 (by omega) (by omega)).trans ((frn9 470 (by omega) (by omega)).trans ((frn5 470 (by omega) (by omega) (by omega)).trans (fr1 470 (by decide) (by decide) (by decide) (by decide) (by decide) (by decide) (by decide))))))
  have hm29 := (zFJ_at hFJ (fun j h1 h2 => ((frn16 j (by omega) (by omega)).trans ((frn9 j (by omega) (by omega)).trans ((frn5 j (by omega) (by omega) (by omega)).trans (fr1 j (by omega) (by omega) (by omega) (by omega) (by omega) (by omega) (by omega)))))))
  have hm30 := (zWJ_at hWJ (fun j h1 h2 => ((frn16 j (by omega) (by omega)).trans ((frn9 j (by omega) (by omega)).trans ((frn5 j (by omega) (by omega) (by omega)).trans (fr1 j (by omega) (by omega) (by omega) (by omega) (by omega) (by omega) (by omega)))))))
  have hm31 := (zq_OV_at hOV ((frn16 452 (by omega) (by omega)).trans ((frn9 452 (by omega) (by omega)).trans ((frn5 452 (by omega) (by omega) (by omega)).trans (fr1 452 (by decide) (by decide) (by decide) (by decide) (by decide) (by decide) (by decide))))) ((frn16 453 (by omega) (by omega)).trans ((frn9 453 (by omega) (by omega)).trans ((frn5 453 (by omega) (by omega) (by omega)).trans (fr1 453 (by decide) (by decide) (by decide) (by decide) (by decide) (by decide) (by decide))))))
  exact q_retv (v := (0, 0, 0)) rfl rfl (⟨rfl, ⟨by omega, by omega⟩, ⟨by omega, by omega⟩, rfl, ⟨⟨_, _, hm18, (x_hw_at hhw (fun j hj hne => by have hj2 := x_some_lt hlt0 hne; exact ((frn16 j (by omega) (by omega)).trans ((frn9 j (by omega) (by omega)).trans ((frn5 j (by omega) (by omega) (by omega)).trans (fr1 j (by omega) (by omega) (by omega) (by omega) (by omega) (by omega) (by omega)))))))⟩, hm19, ⟨_, _, _, _, _, _, _, _, _, _, _, _, _, _, hm20⟩, ⟨_, _, _, _, _, _, _, hm21⟩, hm22, ⟨_, ⟨_, _, _, _, _, _, _, _, _, _, hm23⟩, (fun i hi => by rw [x_s_ne (by omega), x_s_ne (by omega), x_s_ne (by omega), x_s_ne (by omega), x_s_ne (by omega), x_s_ne (by omega), x_s_ne (by omega), x_s_ne (by omega), x_s_ne (by omega), x_s_ne (by omega), x_s_ne (by omega), x_s_ne (by omega), x_s_ne (by omega), x_s_ne (by omega), x_s_ne (by omega), x_s_ne (by omega), x_s_ne (by omega), x_s_ne (by omega), x_s_ne (by omega), x_s_ne (by omega)]; exact hco i hi)⟩, ⟨_, _, _, hPZ16, hLZ16⟩, hm24, hm25, ⟨_, hm26⟩, hm27, hm28, hm29, hm30, ⟨_, _, hm31, hovn, hovh⟩⟩⟩)
set_option maxHeartbeats 1000000 in
theorem zc_set3_n {d n sl : Nat} {φ : FH} {tp : Nat → Nat} {lf : Nat} {mi : Nat} {made : Nat} {sv : Nat} {svm : Nat} {comb : Nat → Nat} {hm : Nat → MV} {sc : Nat → Nat} {sm : Nat → MV} {mh : MV} {noted : Nat} {verd : Nat} {ins : Nat → Nat} {ver : Nat → Nat} {sz : Nat} {bw : Nat → Nat} {x w1 d1 : Nat} (hG : zG φ 2 tp lf mi made sv svm comb hm sc sm mh noted verd ins ver sz bw) (hn0 : 486 ≤ n) (hpv : ∀ i, x_pv2 (hm i)) (hmi : mi + 100 ≤ 20000) (hx : x < 40) (hisA : x_isA made comb x 1) (ht0 : tp 0 = 35) (ht1 : tp 1 = d1) (hdd1 : 48 ≤ d1 ∧ d1 ≤ 57) (hw_1 : 0 + d1 - 48 = w1) (hw1 : w1 < 512) (h1 : ¬ (w1 < made ∧ comb w1 ≠ 0)) : x_f x_P (d + 11) 24 [(6, 0, 0), (0, x, 0), (0, 3, 0), (11, 0, 0), (11, 0, 0), (11, 0, 0)] φ n sl (x_bR n sl 1 7 (fun zw φ2 => zw = (0, 0, 0) ∧ zG φ2 0 tp 0 (mi + 1) made sv svm comb (zhm hm (x * 40 + 3) MV0) sc sm mh noted verd ins ver sz bw)) := by
  refine x_f_of rfl ?_
  have hG0 := hG
  obtain ⟨⟨hand, ie, hH, hhw⟩, hB, hTJ, hEJ, hN, hKJ, ⟨A, B, s9, hPS, hLK0⟩, hSP, hV5, ⟨slq, hSL⟩, hRW, hJ, hFJ, hWJ, ⟨ovn, ovh, hOV, hovn, hovh⟩⟩ := hG
  refine x_n_lt (fun hlt0 => ?_)
  have hmade := x_PS_lt hPS
  obtain ⟨tot, at_, cur, pl, va, fa, fp, sf, sp, no, op, K, P, V, hT⟩ := hTJ
  obtain ⟨bi, top, hid, lc, slo, own, sk, hE⟩ := hEJ
  obtain ⟨co, ⟨top_, fr_, pc_, mm, st, lo, re, rs, fl, se, hKS⟩, hco⟩ := hKJ
  refine q_load (v := (6, 0, 0)) (p2 := 1) rfl rfl rfl rfl ?_
  refine q_getv (v := (6, 7, 0)) (p2 := 2) rfl hH (by decide) rfl rfl ?_
  refine q_load (v := (0, x, 0)) (p2 := 3) rfl rfl rfl rfl ?_
  refine q_load (v := (0, 3, 0)) (p2 := 4) rfl rfl rfl rfl ?_
  refine q_callr (xs := [(0, 3, 0), (0, x, 0), (6, 7, 0)]) (p2 := 5) rfl rfl rfl rfl (x_rcv_s 7 hPS.1.choose_spec.1) rfl (x_r_yes (e_has_3 hPS.1.choose_spec hPS.2.1 hKS.2.2.2.2.2.2.2.2.2 (by omega)) hisA) (Nat.le_refl _) (Nat.le_refl _) rfl ?_
  refine q_if0_s (p2 := 6) rfl (by decide) (by omega) rfl (fun hb => absurd hb (show ¬ (1 = 0) by omega)) (fun _ => ?_)
  refine q_load (v := (6, 0, 0)) (p2 := 7) rfl rfl rfl rfl ?_
  refine q_getv (v := (6, 7, 0)) (p2 := 8) rfl hH (by decide) rfl rfl ?_
  refine q_getv (v := (6, 237, 0)) (p2 := 9) rfl hPS.1.choose_spec.1 (by decide) hPS.1.choose_spec.2.1 rfl ?_
  refine q_getv (v := (6, 271, 0)) (p2 := 10) rfl hKS.2.2.2.2.2.2.2.2.2.1.choose_spec.1 (by decide) hKS.2.2.2.2.2.2.2.2.2.1.choose_spec.2.2.2.2.2.2.2.2.1 rfl ?_
  refine q_load (v := (0, 3, 0)) (p2 := 11) rfl rfl rfl rfl ?_
  refine q_aldv (v := (6, 275, 0)) (p2 := 12) rfl (x_sc_271 hKS.2.2.2.2.2.2.2.2.2) (by omega) (by omega) rfl rfl ?_
  refine q_const (p2 := 13) rfl rfl ?_
  refine q_aldv (v := (0, 0, 0)) (p2 := 14) rfl (x_sc_275 hKS.2.2.2.2.2.2.2.2.2) (by omega) (by omega) rfl rfl ?_
  refine q_if0_s (p2 := 15) rfl (by decide) (by omega) rfl (fun _ => ?_) (fun hb => absurd (show 0 = 0 by omega) hb)
  refine q_load (v := (6, 0, 0)) (p2 := 18) rfl rfl rfl rfl ?_
  refine q_callrE (xs := [(6, 0, 0)]) (p2 := 19) rfl rfl rfl rfl (x_rcv_s 0 hH) rfl (zc_h_rx_hash hH hB hT hE hKS hPS hN ht0 ht1 (by omega)) (Nat.le_refl _) (Nat.le_refl _) rfl (fun φ1 hR1 => ?_)
  obtain ⟨hs1_0, hs1_1, hs1_2, hs1_3, fr1⟩ := hR1
  refine q_store (loc2 := [(6, 0, 0), (0, x, 0), (0, 3, 0), (0, 60, 0), (11, 0, 0), (11, 0, 0)]) (p2 := 20) rfl rfl rfl rfl rfl ?_
  refine q_load (v := (0, 60, 0)) (p2 := 21) rfl rfl rfl rfl ?_
  refine q_if0_s (p2 := 22) rfl (by decide) (by omega) rfl (fun _ => ?_) (fun hb => absurd (show ¬ (60 < 0) by omega) hb)
  refine q_load (v := (6, 0, 0)) (p2 := 25) rfl rfl rfl rfl ?_
  refine q_getv (v := (6, 7, 0)) (p2 := 26) rfl hs1_0 (by decide) rfl rfl ?_
  refine x_n_lt (fun hlt3 => ?_)
  have hm2 := (x_PS_at hPS (fun j hj hne => by have hj2 := x_some_lt hlt0 hne; exact (fr1 j (by omega) (by omega) (by omega) (by omega) (by omega) (by omega) (by omega))))
  have hm4 := (x_LK_at2 hLK0 (fun j h1 h2 => (fr1 j (by omega) (by omega) (by omega) (by omega) (by omega) (by omega) (by omega))))
  refine q_callvE (xs := [(6, 7, 0)]) (p2 := 27) rfl rfl rfl rfl (x_rcv_s 7 hm2.1.choose_spec.1) rfl (e_prepare hm2 hm4.1 hpv hs1_3.2.2.2.2.2.2.2.2.2) (Nat.le_refl _) (Nat.le_refl _) rfl (fun φ5 hR5 => ?_)
  obtain ⟨A5, B5, hPS5, hLK5, frn5⟩ := hR5
  have hAB5 := x_pop_AB hPS5.1.choose_spec
  obtain ⟨lik5, lb5, hL5, hLb5, hlk5⟩ := id hLK5
  refine x_n_lt (fun hlt6 => ?_)
  have hLKx5 : x_LK φ5 A5 B5 made 0 comb hm ∧ _ := ⟨hLK5, hAB5⟩
  refine q_load (v := (6, 0, 0)) (p2 := 28) rfl rfl rfl rfl ?_
  have hm7 := (zq_H_at hs1_0 (frn5 0 (by omega) (by omega) (by omega)))
  refine q_getv (v := (6, 455, 0)) (p2 := 29) rfl hm7 (by decide) rfl rfl ?_
  refine q_load (v := (0, 60, 0)) (p2 := 30) rfl rfl rfl rfl ?_
  refine q_load (v := (6, 0, 0)) (p2 := 31) rfl rfl rfl rfl ?_
  refine q_getv (v := (6, 7, 0)) (p2 := 32) rfl hm7 (by decide) rfl rfl ?_
  refine q_getv (v := (6, 225, 0)) (p2 := 33) rfl hPS5.1.choose_spec.1 (by decide) hPS5.1.choose_spec.2.2.1 rfl ?_
  have hm8 := (x_KS_at2 hs1_3 (fun j h1 h2 h3 h4 => (frn5 j (by omega) (by omega) (by omega))))
  refine q_callrB (xs := [(6, 225, 0), (0, 60, 0), (6, 455, 0)]) (p2 := 34) rfl rfl rfl rfl (x_rcv_s 455 (x_KS_455 hm8)) rfl (zc_run_hash_n hPS5 hm8 (by omega) (by omega) (((x_s_ne (by decide)).trans ((x_s_ne (by decide)).trans ((x_s_ne (by decide)).trans ((x_s_ne (by decide)).trans ((x_s_ne (by decide)).trans (x_s_eq))))))) (((x_s_ne (by decide)).trans ((x_s_ne (by decide)).trans ((x_s_ne (by decide)).trans (x_s_eq))))) (((x_s_ne (by decide)).trans ((x_s_ne (by decide)).trans (x_s_eq)))) ((((x_s_ne (by decide)).trans (x_s_eq))).trans hw_1) ((x_s_eq)) (by omega) h1) rfl (fun w9 φ9 n9 sl9 hn9 hN9 hs9 hT9 hR9 => ?_)
  obtain ⟨v9, hwv9, ⟨ka9, kb9, kc9, kd9, ke9, kf9, kg9, kh9, ki9, kj9, hK9⟩, hV9, frn9⟩ := hR9
  subst hwv9
  refine x_n_lt (fun hlt10 => ?_)
  have hz11 := x_mv_lt hV9 hlt10
  have hy11 := hV9.1
  refine q_store (loc2 := [(6, 0, 0), (0, x, 0), (0, 3, 0), (0, 60, 0), (6, v9, 0), (11, 0, 0)]) (p2 := 35) rfl rfl rfl rfl rfl ?_
  refine q_load (v := (6, 0, 0)) (p2 := 36) rfl rfl rfl rfl ?_
  have hm12 := (zq_H_at hm7 (frn9 0 (by omega) (by omega)))
  refine q_getv (v := (6, 455, 0)) (p2 := 37) rfl hm12 (by decide) rfl rfl ?_
  refine q_getv (v := (0, 0, 0)) (p2 := 38) rfl (x_KS_455 hK9) (by decide) hK9.1.choose_spec.2.2.2.2.2.2.2.2.2.2.2.2.2.2.2.2.2.1 rfl ?_
  refine q_if0_s (p2 := 39) rfl (by decide) (by omega) rfl (fun _ => ?_) (fun hb => absurd (show 0 = 0 by omega) hb)
  refine q_load (v := (6, 0, 0)) (p2 := 42) rfl rfl rfl rfl ?_
  refine q_getv (v := (6, 7, 0)) (p2 := 43) rfl hm12 (by decide) rfl rfl ?_
  have hm13 := (x_PS_at hPS5 (fun j hj hne => by have hj2 := x_some_lt hlt6 hne; exact (frn9 j (by omega) (by omega))))
  refine q_getv (v := (6, 237, 0)) (p2 := 44) rfl hm13.1.choose_spec.1 (by decide) hm13.1.choose_spec.2.1 rfl ?_
  refine q_getv (v := (6, 271, 0)) (p2 := 45) rfl hK9.2.2.2.2.2.2.2.2.2.1.choose_spec.1 (by decide) hK9.2.2.2.2.2.2.2.2.2.1.choose_spec.2.2.2.2.2.2.2.2.1 rfl ?_
  refine q_load (v := (0, 3, 0)) (p2 := 46) rfl rfl rfl rfl ?_
  refine q_aldv (v := (6, 275, 0)) (p2 := 47) rfl (x_sc_271 hK9.2.2.2.2.2.2.2.2.2) (by omega) (by omega) rfl rfl ?_
  refine q_const (p2 := 48) rfl rfl ?_
  refine q_aldv (v := (0, 3, 0)) (p2 := 49) rfl (x_sc_275 hK9.2.2.2.2.2.2.2.2.2) (by omega) (by omega) rfl rfl ?_
  refine q_store (loc2 := [(6, 0, 0), (0, x, 0), (0, 3, 0), (0, 60, 0), (6, v9, 0), (0, 3, 0)]) (p2 := 50) rfl rfl rfl rfl rfl ?_
  refine q_load (v := (6, 0, 0)) (p2 := 51) rfl rfl rfl rfl ?_
  refine q_getv (v := (6, 7, 0)) (p2 := 52) rfl hm12 (by decide) rfl rfl ?_
  refine q_load (v := (6, v9, 0)) (p2 := 53) rfl rfl rfl rfl ?_
  refine q_load (v := (0, 3, 0)) (p2 := 54) rfl rfl rfl rfl ?_
  obtain ⟨fV14, hW14, hg14⟩ := x_mv_gS hV9 (by decide)
  have hl14 := hlt10 _ _ hW14
  have h6_14 := hV9.1
  refine q_callr (xs := [(0, 3, 0), (6, v9, 0), (6, 7, 0)]) (p2 := 55) rfl rfl rfl rfl (x_rcv_s 7 hm13.1.choose_spec.1) rfl (e_conv_3 hm13.1.choose_spec hW14 hg14 (by decide) (by omega) hK9.2.2.2.2.2.2.2.2.2) (Nat.le_refl _) (Nat.le_refl _) rfl ?_
  refine q_store (loc2 := [(6, 0, 0), (0, x, 0), (0, 3, 0), (0, 60, 0), (6, v9, 0), (0, 3, 0)]) (p2 := 56) rfl rfl rfl rfl rfl ?_
  refine q_load (v := (6, 0, 0)) (p2 := 57) rfl rfl rfl rfl ?_
  refine q_getv (v := (6, 7, 0)) (p2 := 58) rfl hm12 (by decide) rfl rfl ?_
  refine q_load (v := (6, v9, 0)) (p2 := 59) rfl rfl rfl rfl ?_
  refine q_load (v := (0, 3, 0)) (p2 := 60) rfl rfl rfl rfl ?_
  refine q_callr (xs := [(0, 3, 0), (6, v9, 0), (6, 7, 0)]) (p2 := 61) rfl rfl rfl rfl (x_rcv_s 7 hm13.1.choose_spec.1) rfl (x_r_yes (e_fits_3 hm13.1.choose_spec hm13.2.1 hW14 hg14 (by decide) (by omega) hK9.2.2.2.2.2.2.2.2.2 (Or.inl rfl) (by omega)) (Or.inl rfl)) (Nat.le_refl _) (Nat.le_refl _) rfl ?_
  refine q_if0_s (p2 := 62) rfl (by decide) (by omega) rfl (fun _ => ?_) (fun hb => absurd (show ¬ (1 = 0) by omega) hb)
  refine q_load (v := (6, 0, 0)) (p2 := 65) rfl rfl rfl rfl ?_
  refine q_getv (v := (6, 7, 0)) (p2 := 66) rfl hm12 (by decide) rfl rfl ?_
  refine q_load (v := (0, x, 0)) (p2 := 67) rfl rfl rfl rfl ?_
  refine q_load (v := (0, 3, 0)) (p2 := 68) rfl rfl rfl rfl ?_
  refine q_load (v := (6, v9, 0)) (p2 := 69) rfl rfl rfl rfl ?_
  have hm15 := (x_LK_at2 hLKx5 (fun j h1 h2 => (frn9 j (by omega) (by omega))))
  refine q_callvE (xs := [(6, v9, 0), (0, 3, 0), (0, x, 0), (6, 7, 0)]) (p2 := 70) rfl rfl rfl rfl (x_rcv_s 7 hm13.1.choose_spec.1) rfl (e_holdP hm13 hV9 (by omega) (by omega)) (Nat.le_refl _) (Nat.le_refl _) rfl (fun φ16 hR16 => ?_)
  obtain ⟨hPS16, frn16⟩ := hR16
  have hPZ16 : x_PS φ16 A5 B5 made sv svm 1 comb (zhm hm (x * 40 + 3) MV0) := hPS16
  refine x_n_lt (fun hlt17 => ?_)
  have hLZ16 := x_LK_st1 (made2 := made) (comb2 := comb) (hm2 := (zhm hm (x * 40 + 3) MV0)) hm15 (fun j h1 h2 => (frn16 j (by omega) (by omega)))
  refine q_load (v := (6, v9, 0)) (p2 := 71) rfl rfl rfl rfl ?_
  refine q_getv (v := (0, 0, 0)) (p2 := 72) rfl ((frn16 v9 (by omega) (by omega)).trans hW14) (by decide) hg14.1 rfl ?_
  have hm18 := (zq_H_at hm12 (frn16 0 (by omega) (by omega)))
  have hm19 := (zq_tp_at hB ((frn16 1 (by omega) (by omega)).trans ((frn9 1 (by omega) (by omega)).trans ((frn5 1 (by omega) (by omega) (by omega)).trans (fr1 1 (by decide) (by decide) (by decide) (by decide) (by decide) (by decide) (by decide))))))
  have hm20 := (zq_T_at hs1_1 ((frn16 2 (by omega) (by omega)).trans ((frn9 2 (by omega) (by omega)).trans (frn5 2 (by omega) (by omega) (by omega)))) ((frn16 3 (by omega) (by omega)).trans ((frn9 3 (by omega) (by omega)).trans (frn5 3 (by omega) (by omega) (by omega)))) ((frn16 4 (by omega) (by omega)).trans ((frn9 4 (by omega) (by omega)).trans (frn5 4 (by omega) (by omega) (by omega)))) ((frn16 5 (by omega) (by omega)).trans ((frn9 5 (by omega) (by omega)).trans (frn5 5 (by omega) (by omega) (by omega)))) ((frn16 6 (by omega) (by omega)).trans ((frn9 6 (by omega) (by omega)).trans (frn5 6 (by omega) (by omega) (by omega)))))
  have hm21 := (zq_E_at hs1_2 ((frn16 232 (by omega) (by omega)).trans ((frn9 232 (by omega) (by omega)).trans (frn5 232 (by omega) (by omega) (by omega)))))
  have hm22 := (zq_nm_at hN ((frn16 239 (by omega) (by omega)).trans ((frn9 239 (by omega) (by omega)).trans ((frn5 239 (by omega) (by omega) (by omega)).trans (fr1 239 (by decide) (by decide) (by decide) (by decide) (by decide) (by decide) (by decide))))) ((frn16 242 (by omega) (by omega)).trans ((frn9 242 (by omega) (by omega)).trans ((frn5 242 (by omega) (by omega) (by omega)).trans (fr1 242 (by decide) (by decide) (by decide) (by decide) (by decide) (by decide) (by decide))))) ((frn16 244 (by omega) (by omega)).trans ((frn9 244 (by omega) (by omega)).trans ((frn5 244 (by omega) (by omega) (by omega)).trans (fr1 244 (by decide) (by decide) (by decide) (by decide) (by decide) (by decide) (by decide))))))
  have hm23 := (x_KS_at2 hK9 (fun j h1 h2 h3 h4 => (frn16 j (by omega) (by omega))))
  have hm24 := (x_SP_at hSP (fun j hj hne => by have hj2 := x_some_lt hlt0 hne; exact ((frn16 j (by omega) (by omega)).trans ((frn9 j (by omega) (by omega)).trans ((frn5 j (by omega) (by omega) (by omega)).trans (fr1 j (by omega) (by omega) (by omega) (by omega) (by omega) (by omega) (by omega)))))))
  have hm25 := (zq_V5_at hV5 ((frn16 485 (by omega) (by omega)).trans ((frn9 485 (by omega) (by omega)).trans ((frn5 485 (by omega) (by omega) (by omega)).trans (fr1 485 (by decide) (by decide) (by decide) (by decide) (by decide) (by decide) (by decide))))))
  have hm26 := (zq_SL_at hSL ((frn16 482 (by omega) (by omega)).trans ((frn9 482 (by omega) (by omega)).trans ((frn5 482 (by omega) (by omega) (by omega)).trans (fr1 482 (by decide) (by decide) (by decide) (by decide) (by decide) (by decide) (by decide))))))
  have hm27 := (zq_RW_at hRW ((frn16 483 (by omega) (by omega)).trans ((frn9 483 (by omega) (by omega)).trans ((frn5 483 (by omega) (by omega) (by omega)).trans (fr1 483 (by decide) (by decide) (by decide) (by decide) (by decide) (by decide) (by decide))))))
  have hm28 := (zq_J_at hJ ((frn16 468 (by omega) (by omega)).trans ((frn9 468 (by omega) (by omega)).trans ((frn5 468 (by omega) (by omega) (by omega)).trans (fr1 468 (by decide) (by decide) (by decide) (by decide) (by decide) (by decide) (by decide))))) ((frn16 469 (by omega) (by omega)).trans ((frn9 469 (by omega) (by omega)).trans ((frn5 469 (by omega) (by omega) (by omega)).trans (fr1 469 (by decide) (by decide) (by decide) (by decide) (by decide) (by decide) (by decide))))) ((frn16 470 (by omega) (by omega)).trans ((frn9 470 (by omega) (by omega)).trans ((frn5 470 (by omega) (by omega) (by omega)).trans (fr1 470 (by decide) (by decide) (by decide) (by decide) (by decide) (by decide) (by decide))))))
  have hm29 := (zFJ_at hFJ (fun j h1 h2 => ((frn16 j (by omega) (by omega)).trans ((frn9 j (by omega) (by omega)).trans ((frn5 j (by omega) (by omega) (by omega)).trans (fr1 j (by omega) (by omega) (by omega) (by omega) (by omega) (by omega) (by omega)))))))
  have hm30 := (zWJ_at hWJ (fun j h1 h2 => ((frn16 j (by omega) (by omega)).trans ((frn9 j (by omega) (by omega)).trans ((frn5 j (by omega) (by omega) (by omega)).trans (fr1 j (by omega) (by omega) (by omega) (by omega) (by omega) (by omega) (by omega)))))))
  have hm31 := (zq_OV_at hOV ((frn16 452 (by omega) (by omega)).trans ((frn9 452 (by omega) (by omega)).trans ((frn5 452 (by omega) (by omega) (by omega)).trans (fr1 452 (by decide) (by decide) (by decide) (by decide) (by decide) (by decide) (by decide))))) ((frn16 453 (by omega) (by omega)).trans ((frn9 453 (by omega) (by omega)).trans ((frn5 453 (by omega) (by omega) (by omega)).trans (fr1 453 (by decide) (by decide) (by decide) (by decide) (by decide) (by decide) (by decide))))))
  exact q_retv (v := (0, 0, 0)) rfl rfl (⟨rfl, ⟨by omega, by omega⟩, ⟨by omega, by omega⟩, rfl, ⟨⟨_, _, hm18, (x_hw_at hhw (fun j hj hne => by have hj2 := x_some_lt hlt0 hne; exact ((frn16 j (by omega) (by omega)).trans ((frn9 j (by omega) (by omega)).trans ((frn5 j (by omega) (by omega) (by omega)).trans (fr1 j (by omega) (by omega) (by omega) (by omega) (by omega) (by omega) (by omega)))))))⟩, hm19, ⟨_, _, _, _, _, _, _, _, _, _, _, _, _, _, hm20⟩, ⟨_, _, _, _, _, _, _, hm21⟩, hm22, ⟨_, ⟨_, _, _, _, _, _, _, _, _, _, hm23⟩, (fun i hi => by rw [x_s_ne (by omega), x_s_ne (by omega), x_s_ne (by omega), x_s_ne (by omega), x_s_ne (by omega), x_s_ne (by omega)]; exact hco i hi)⟩, ⟨_, _, _, hPZ16, hLZ16⟩, hm24, hm25, ⟨_, hm26⟩, hm27, hm28, hm29, hm30, ⟨_, _, hm31, hovn, hovh⟩⟩⟩)
set_option maxHeartbeats 1000000 in
theorem zc_set1_ny {d n sl : Nat} {φ : FH} {tp : Nat → Nat} {lf : Nat} {mi : Nat} {made : Nat} {sv : Nat} {svm : Nat} {comb : Nat → Nat} {hm : Nat → MV} {sc : Nat → Nat} {sm : Nat → MV} {mh : MV} {noted : Nat} {verd : Nat} {ins : Nat → Nat} {ver : Nat → Nat} {sz : Nat} {bw : Nat → Nat} {x w1 w2 d1 d2 : Nat} (hG : zG φ 7 tp lf mi made sv svm comb hm sc sm mh noted verd ins ver sz bw) (hn0 : 486 ≤ n) (hpv : ∀ i, x_pv2 (hm i)) (hmi : mi + 100 ≤ 20000) (hx : x < 40) (hisA : x_isA made comb x 0) (ht0 : tp 0 = 91) (ht1 : tp 1 = 35) (ht2 : tp 2 = d1) (ht3 : tp 3 = 44) (ht4 : tp 4 = 35) (ht5 : tp 5 = d2) (ht6 : tp 6 = 93) (hdd1 : 48 ≤ d1 ∧ d1 ≤ 57) (hdd2 : 48 ≤ d2 ∧ d2 ≤ 57) (hw_1 : 0 + d1 - 48 = w1) (hw1 : w1 < 512) (hw_2 : 0 + d2 - 48 = w2) (hw2 : w2 < 512) (h1 : ¬ (w1 < made ∧ comb w1 ≠ 0)) (h2 : w2 < made ∧ comb w2 ≠ 0) : x_f x_P (d + 19) 24 [(6, 0, 0), (0, x, 0), (0, 1, 0), (11, 0, 0), (11, 0, 0), (11, 0, 0)] φ n sl (x_bR n sl 5 52 (fun zw φ2 => zw = (0, 0, 0) ∧ zG φ2 0 tp 0 (mi + 3) made sv svm comb (zhm hm (x * 40 + 1) MV0) sc sm mh noted verd ins ver sz bw)) := by
  refine x_f_of rfl ?_
  have hG0 := hG
  obtain ⟨⟨hand, ie, hH, hhw⟩, hB, hTJ, hEJ, hN, hKJ, ⟨A, B, s9, hPS, hLK0⟩, hSP, hV5, ⟨slq, hSL⟩, hRW, hJ, hFJ, hWJ, ⟨ovn, ovh, hOV, hovn, hovh⟩⟩ := hG
  refine x_n_lt (fun hlt0 => ?_)
  have hmade := x_PS_lt hPS
  obtain ⟨tot, at_, cur, pl, va, fa, fp, sf, sp, no, op, K, P, V, hT⟩ := hTJ
  obtain ⟨bi, top, hid, lc, slo, own, sk, hE⟩ := hEJ
  obtain ⟨co, ⟨top_, fr_, pc_, mm, st, lo, re, rs, fl, se, hKS⟩, hco⟩ := hKJ
  refine q_load (v := (6, 0, 0)) (p2 := 1) rfl rfl rfl rfl ?_
  refine q_getv (v := (6, 7, 0)) (p2 := 2) rfl hH (by decide) rfl rfl ?_
  refine q_load (v := (0, x, 0)) (p2 := 3) rfl rfl rfl rfl ?_
  refine q_load (v := (0, 1, 0)) (p2 := 4) rfl rfl rfl rfl ?_
  refine q_callr (xs := [(0, 1, 0), (0, x, 0), (6, 7, 0)]) (p2 := 5) rfl rfl rfl rfl (x_rcv_s 7 hPS.1.choose_spec.1) rfl (x_r_yes (e_has_1 hPS.1.choose_spec hPS.2.1 hKS.2.2.2.2.2.2.2.2.2 (by omega)) hisA) (Nat.le_refl _) (Nat.le_refl _) rfl ?_
  refine q_if0_s (p2 := 6) rfl (by decide) (by omega) rfl (fun hb => absurd hb (show ¬ (1 = 0) by omega)) (fun _ => ?_)
  refine q_load (v := (6, 0, 0)) (p2 := 7) rfl rfl rfl rfl ?_
  refine q_getv (v := (6, 7, 0)) (p2 := 8) rfl hH (by decide) rfl rfl ?_
  refine q_getv (v := (6, 237, 0)) (p2 := 9) rfl hPS.1.choose_spec.1 (by decide) hPS.1.choose_spec.2.1 rfl ?_
  refine q_getv (v := (6, 271, 0)) (p2 := 10) rfl hKS.2.2.2.2.2.2.2.2.2.1.choose_spec.1 (by decide) hKS.2.2.2.2.2.2.2.2.2.1.choose_spec.2.2.2.2.2.2.2.2.1 rfl ?_
  refine q_load (v := (0, 1, 0)) (p2 := 11) rfl rfl rfl rfl ?_
  refine q_aldv (v := (6, 273, 0)) (p2 := 12) rfl (x_sc_271 hKS.2.2.2.2.2.2.2.2.2) (by omega) (by omega) rfl rfl ?_
  refine q_const (p2 := 13) rfl rfl ?_
  refine q_aldv (v := (0, 0, 0)) (p2 := 14) rfl (x_sc_273 hKS.2.2.2.2.2.2.2.2.2) (by omega) (by omega) rfl rfl ?_
  refine q_if0_s (p2 := 15) rfl (by decide) (by omega) rfl (fun _ => ?_) (fun hb => absurd (show 0 = 0 by omega) hb)
  refine q_load (v := (6, 0, 0)) (p2 := 18) rfl rfl rfl rfl ?_
  refine q_callrE (xs := [(6, 0, 0)]) (p2 := 19) rfl rfl rfl rfl (x_rcv_s 0 hH) rfl (zc_h_rx_list hH hB hT hE hKS hPS hN ht0 ht1 ht2 ht3 ht4 ht5 ht6 (by omega)) (Nat.le_refl _) (Nat.le_refl _) rfl (fun φ1 hR1 => ?_)
  obtain ⟨hs1_0, hs1_1, hs1_2, hs1_3, fr1⟩ := hR1
  refine q_store (loc2 := [(6, 0, 0), (0, x, 0), (0, 1, 0), (0, 60, 0), (11, 0, 0), (11, 0, 0)]) (p2 := 20) rfl rfl rfl rfl rfl ?_
  refine q_load (v := (0, 60, 0)) (p2 := 21) rfl rfl rfl rfl ?_
  refine q_if0_s (p2 := 22) rfl (by decide) (by omega) rfl (fun _ => ?_) (fun hb => absurd (show ¬ (60 < 0) by omega) hb)
  refine q_load (v := (6, 0, 0)) (p2 := 25) rfl rfl rfl rfl ?_
  refine q_getv (v := (6, 7, 0)) (p2 := 26) rfl hs1_0 (by decide) rfl rfl ?_
  refine x_n_lt (fun hlt3 => ?_)
  have hm2 := (x_PS_at hPS (fun j hj hne => by have hj2 := x_some_lt hlt0 hne; exact (fr1 j (by omega) (by omega) (by omega) (by omega) (by omega) (by omega) (by omega))))
  have hm4 := (x_LK_at2 hLK0 (fun j h1 h2 => (fr1 j (by omega) (by omega) (by omega) (by omega) (by omega) (by omega) (by omega))))
  refine q_callvE (xs := [(6, 7, 0)]) (p2 := 27) rfl rfl rfl rfl (x_rcv_s 7 hm2.1.choose_spec.1) rfl (e_prepare hm2 hm4.1 hpv hs1_3.2.2.2.2.2.2.2.2.2) (Nat.le_refl _) (Nat.le_refl _) rfl (fun φ5 hR5 => ?_)
  obtain ⟨A5, B5, hPS5, hLK5, frn5⟩ := hR5
  have hAB5 := x_pop_AB hPS5.1.choose_spec
  obtain ⟨lik5, lb5, hL5, hLb5, hlk5⟩ := id hLK5
  refine x_n_lt (fun hlt6 => ?_)
  have hLKx5 : x_LK φ5 A5 B5 made 0 comb hm ∧ _ := ⟨hLK5, hAB5⟩
  refine q_load (v := (6, 0, 0)) (p2 := 28) rfl rfl rfl rfl ?_
  have hm7 := (zq_H_at hs1_0 (frn5 0 (by omega) (by omega) (by omega)))
  refine q_getv (v := (6, 455, 0)) (p2 := 29) rfl hm7 (by decide) rfl rfl ?_
  refine q_load (v := (0, 60, 0)) (p2 := 30) rfl rfl rfl rfl ?_
  refine q_load (v := (6, 0, 0)) (p2 := 31) rfl rfl rfl rfl ?_
  refine q_getv (v := (6, 7, 0)) (p2 := 32) rfl hm7 (by decide) rfl rfl ?_
  refine q_getv (v := (6, 225, 0)) (p2 := 33) rfl hPS5.1.choose_spec.1 (by decide) hPS5.1.choose_spec.2.2.1 rfl ?_
  have hm8 := (x_KS_at2 hs1_3 (fun j h1 h2 h3 h4 => (frn5 j (by omega) (by omega) (by omega))))
  refine q_callrB (xs := [(6, 225, 0), (0, 60, 0), (6, 455, 0)]) (p2 := 34) rfl rfl rfl rfl (x_rcv_s 455 (x_KS_455 hm8)) rfl (zc_run_list_ny hPS5 hm8 (by omega) (by omega) (((x_s_ne (by decide)).trans ((x_s_ne (by decide)).trans ((x_s_ne (by decide)).trans ((x_s_ne (by decide)).trans ((x_s_ne (by decide)).trans ((x_s_ne (by decide)).trans ((x_s_ne (by decide)).trans ((x_s_ne (by decide)).trans ((x_s_ne (by decide)).trans ((x_s_ne (by decide)).trans ((x_s_ne (by decide)).trans ((x_s_ne (by decide)).trans ((x_s_ne (by decide)).trans ((x_s_ne (by decide)).trans ((x_s_ne (by decide)).trans ((x_s_ne (by decide)).trans ((x_s_ne (by decide)).trans ((x_s_ne (by decide)).trans ((x_s_ne (by decide)).trans (x_s_eq))))))))))))))))))))) (((x_s_ne (by decide)).trans ((x_s_ne (by decide)).trans ((x_s_ne (by decide)).trans ((x_s_ne (by decide)).trans ((x_s_ne (by decide)).trans ((x_s_ne (by decide)).trans ((x_s_ne (by decide)).trans ((x_s_ne (by decide)).trans ((x_s_ne (by decide)).trans ((x_s_ne (by decide)).trans ((x_s_ne (by decide)).trans ((x_s_ne (by decide)).trans ((x_s_ne (by decide)).trans ((x_s_ne (by decide)).trans ((x_s_ne (by decide)).trans ((x_s_ne (by decide)).trans ((x_s_ne (by decide)).trans (x_s_eq))))))))))))))))))) (((x_s_ne (by decide)).trans ((x_s_ne (by decide)).trans ((x_s_ne (by decide)).trans ((x_s_ne (by decide)).trans ((x_s_ne (by decide)).trans ((x_s_ne (by decide)).trans ((x_s_ne (by decide)).trans ((x_s_ne (by decide)).trans ((x_s_ne (by decide)).trans ((x_s_ne (by decide)).trans ((x_s_ne (by decide)).trans ((x_s_ne (by decide)).trans ((x_s_ne (by decide)).trans ((x_s_ne (by decide)).trans ((x_s_ne (by decide)).trans ((x_s_ne (by decide)).trans (x_s_eq)))))))))))))))))) (((x_s_ne (by decide)).trans ((x_s_ne (by decide)).trans ((x_s_ne (by decide)).trans ((x_s_ne (by decide)).trans ((x_s_ne (by decide)).trans ((x_s_ne (by decide)).trans ((x_s_ne (by decide)).trans ((x_s_ne (by decide)).trans ((x_s_ne (by decide)).trans ((x_s_ne (by decide)).trans ((x_s_ne (by decide)).trans ((x_s_ne (by decide)).trans ((x_s_ne (by decide)).trans ((x_s_ne (by decide)).trans (x_s_eq)))))))))))))))) (((x_s_ne (by decide)).trans ((x_s_ne (by decide)).trans ((x_s_ne (by decide)).trans ((x_s_ne (by decide)).trans ((x_s_ne (by decide)).trans ((x_s_ne (by decide)).trans ((x_s_ne (by decide)).trans ((x_s_ne (by decide)).trans ((x_s_ne (by decide)).trans ((x_s_ne (by decide)).trans ((x_s_ne (by decide)).trans ((x_s_ne (by decide)).trans ((x_s_ne (by decide)).trans (x_s_eq))))))))))))))) ((((x_s_ne (by decide)).trans ((x_s_ne (by decide)).trans ((x_s_ne (by decide)).trans ((x_s_ne (by decide)).trans ((x_s_ne (by decide)).trans ((x_s_ne (by decide)).trans ((x_s_ne (by decide)).trans ((x_s_ne (by decide)).trans ((x_s_ne (by decide)).trans ((x_s_ne (by decide)).trans ((x_s_ne (by decide)).trans ((x_s_ne (by decide)).trans (x_s_eq)))))))))))))).trans hw_1) (((x_s_ne (by decide)).trans ((x_s_ne (by decide)).trans ((x_s_ne (by decide)).trans ((x_s_ne (by decide)).trans ((x_s_ne (by decide)).trans ((x_s_ne (by decide)).trans ((x_s_ne (by decide)).trans ((x_s_ne (by decide)).trans ((x_s_ne (by decide)).trans ((x_s_ne (by decide)).trans ((x_s_ne (by decide)).trans (x_s_eq))))))))))))) (((x_s_ne (by decide)).trans ((x_s_ne (by decide)).trans ((x_s_ne (by decide)).trans ((x_s_ne (by decide)).trans ((x_s_ne (by decide)).trans ((x_s_ne (by decide)).trans ((x_s_ne (by decide)).trans ((x_s_ne (by decide)).trans ((x_s_ne (by decide)).trans ((x_s_ne (by decide)).trans (x_s_eq)))))))))))) (((x_s_ne (by decide)).trans ((x_s_ne (by decide)).trans ((x_s_ne (by decide)).trans ((x_s_ne (by decide)).trans ((x_s_ne (by decide)).trans ((x_s_ne (by decide)).trans ((x_s_ne (by decide)).trans ((x_s_ne (by decide)).trans ((x_s_ne (by decide)).trans (x_s_eq))))))))))) (((x_s_ne (by decide)).trans ((x_s_ne (by decide)).trans ((x_s_ne (by decide)).trans ((x_s_ne (by decide)).trans ((x_s_ne (by decide)).trans ((x_s_ne (by decide)).trans ((x_s_ne (by decide)).trans (x_s_eq))))))))) (((x_s_ne (by decide)).trans ((x_s_ne (by decide)).trans ((x_s_ne (by decide)).trans ((x_s_ne (by decide)).trans ((x_s_ne (by decide)).trans ((x_s_ne (by decide)).trans (x_s_eq)))))))) ((((x_s_ne (by decide)).trans ((x_s_ne (by decide)).trans ((x_s_ne (by decide)).trans ((x_s_ne (by decide)).trans ((x_s_ne (by decide)).trans (x_s_eq))))))).trans hw_2) (((x_s_ne (by decide)).trans ((x_s_ne (by decide)).trans ((x_s_ne (by decide)).trans ((x_s_ne (by decide)).trans (x_s_eq)))))) (((x_s_ne (by decide)).trans ((x_s_ne (by decide)).trans ((x_s_ne (by decide)).trans (x_s_eq))))) (((x_s_ne (by decide)).trans ((x_s_ne (by decide)).trans (x_s_eq)))) (((x_s_ne (by decide)).trans (x_s_eq))) ((x_s_eq)) (by omega) (by omega) h1 h2) rfl (fun w9 φ9 n9 sl9 hn9 hN9 hs9 hT9 hR9 => ?_)
  obtain ⟨v9, hwv9, ⟨ka9, kb9, kc9, kd9, ke9, kf9, kg9, kh9, ki9, kj9, hK9⟩, hV9, frn9⟩ := hR9
  subst hwv9
  refine x_n_lt (fun hlt10 => ?_)
  have hz11 := x_mv_lt hV9 hlt10
  have hy11 := hV9.1
  refine q_store (loc2 := [(6, 0, 0), (0, x, 0), (0, 1, 0), (0, 60, 0), (6, v9, 0), (11, 0, 0)]) (p2 := 35) rfl rfl rfl rfl rfl ?_
  refine q_load (v := (6, 0, 0)) (p2 := 36) rfl rfl rfl rfl ?_
  have hm12 := (zq_H_at hm7 (frn9 0 (by omega) (by omega)))
  refine q_getv (v := (6, 455, 0)) (p2 := 37) rfl hm12 (by decide) rfl rfl ?_
  refine q_getv (v := (0, 0, 0)) (p2 := 38) rfl (x_KS_455 hK9) (by decide) hK9.1.choose_spec.2.2.2.2.2.2.2.2.2.2.2.2.2.2.2.2.2.1 rfl ?_
  refine q_if0_s (p2 := 39) rfl (by decide) (by omega) rfl (fun _ => ?_) (fun hb => absurd (show 0 = 0 by omega) hb)
  refine q_load (v := (6, 0, 0)) (p2 := 42) rfl rfl rfl rfl ?_
  refine q_getv (v := (6, 7, 0)) (p2 := 43) rfl hm12 (by decide) rfl rfl ?_
  have hm13 := (x_PS_at hPS5 (fun j hj hne => by have hj2 := x_some_lt hlt6 hne; exact (frn9 j (by omega) (by omega))))
  refine q_getv (v := (6, 237, 0)) (p2 := 44) rfl hm13.1.choose_spec.1 (by decide) hm13.1.choose_spec.2.1 rfl ?_
  refine q_getv (v := (6, 271, 0)) (p2 := 45) rfl hK9.2.2.2.2.2.2.2.2.2.1.choose_spec.1 (by decide) hK9.2.2.2.2.2.2.2.2.2.1.choose_spec.2.2.2.2.2.2.2.2.1 rfl ?_
  refine q_load (v := (0, 1, 0)) (p2 := 46) rfl rfl rfl rfl ?_
  refine q_aldv (v := (6, 273, 0)) (p2 := 47) rfl (x_sc_271 hK9.2.2.2.2.2.2.2.2.2) (by omega) (by omega) rfl rfl ?_
  refine q_const (p2 := 48) rfl rfl ?_
  refine q_aldv (v := (0, 1, 0)) (p2 := 49) rfl (x_sc_273 hK9.2.2.2.2.2.2.2.2.2) (by omega) (by omega) rfl rfl ?_
  refine q_store (loc2 := [(6, 0, 0), (0, x, 0), (0, 1, 0), (0, 60, 0), (6, v9, 0), (0, 1, 0)]) (p2 := 50) rfl rfl rfl rfl rfl ?_
  refine q_load (v := (6, 0, 0)) (p2 := 51) rfl rfl rfl rfl ?_
  refine q_getv (v := (6, 7, 0)) (p2 := 52) rfl hm12 (by decide) rfl rfl ?_
  refine q_load (v := (6, v9, 0)) (p2 := 53) rfl rfl rfl rfl ?_
  refine q_load (v := (0, 1, 0)) (p2 := 54) rfl rfl rfl rfl ?_
  obtain ⟨fV14, hW14, hg14⟩ := x_mv_gS hV9 (by decide)
  have hl14 := hlt10 _ _ hW14
  have h6_14 := hV9.1
  refine q_callr (xs := [(0, 1, 0), (6, v9, 0), (6, 7, 0)]) (p2 := 55) rfl rfl rfl rfl (x_rcv_s 7 hm13.1.choose_spec.1) rfl (e_conv_1s hm13.1.choose_spec hW14 hg14 (by decide) (by omega) hK9.2.2.2.2.2.2.2.2.2 (by decide)) (Nat.le_refl _) (Nat.le_refl _) rfl ?_
  refine q_store (loc2 := [(6, 0, 0), (0, x, 0), (0, 1, 0), (0, 60, 0), (6, v9, 0), (0, 1, 0)]) (p2 := 56) rfl rfl rfl rfl rfl ?_
  refine q_load (v := (6, 0, 0)) (p2 := 57) rfl rfl rfl rfl ?_
  refine q_getv (v := (6, 7, 0)) (p2 := 58) rfl hm12 (by decide) rfl rfl ?_
  refine q_load (v := (6, v9, 0)) (p2 := 59) rfl rfl rfl rfl ?_
  refine q_load (v := (0, 1, 0)) (p2 := 60) rfl rfl rfl rfl ?_
  refine q_callr (xs := [(0, 1, 0), (6, v9, 0), (6, 7, 0)]) (p2 := 61) rfl rfl rfl rfl (x_rcv_s 7 hm13.1.choose_spec.1) rfl (zc_fits_n hW14 hg14) (Nat.le_refl _) (Nat.le_refl _) rfl ?_
  refine q_if0_s (p2 := 62) rfl (by decide) (by omega) rfl (fun _ => ?_) (fun hb => absurd (show ¬ (1 = 0) by omega) hb)
  refine q_load (v := (6, 0, 0)) (p2 := 65) rfl rfl rfl rfl ?_
  refine q_getv (v := (6, 7, 0)) (p2 := 66) rfl hm12 (by decide) rfl rfl ?_
  refine q_load (v := (0, x, 0)) (p2 := 67) rfl rfl rfl rfl ?_
  refine q_load (v := (0, 1, 0)) (p2 := 68) rfl rfl rfl rfl ?_
  refine q_load (v := (6, v9, 0)) (p2 := 69) rfl rfl rfl rfl ?_
  have hm15 := (x_LK_at2 hLKx5 (fun j h1 h2 => (frn9 j (by omega) (by omega))))
  refine q_callvE (xs := [(6, v9, 0), (0, 1, 0), (0, x, 0), (6, 7, 0)]) (p2 := 70) rfl rfl rfl rfl (x_rcv_s 7 hm13.1.choose_spec.1) rfl (e_holdP hm13 hV9 (by omega) (by omega)) (Nat.le_refl _) (Nat.le_refl _) rfl (fun φ16 hR16 => ?_)
  obtain ⟨hPS16, frn16⟩ := hR16
  have hPZ16 : x_PS φ16 A5 B5 made sv svm 1 comb (zhm hm (x * 40 + 1) MV0) := hPS16
  refine x_n_lt (fun hlt17 => ?_)
  have hLZ16 := x_LK_st1 (made2 := made) (comb2 := comb) (hm2 := (zhm hm (x * 40 + 1) MV0)) hm15 (fun j h1 h2 => (frn16 j (by omega) (by omega)))
  refine q_load (v := (6, v9, 0)) (p2 := 71) rfl rfl rfl rfl ?_
  refine q_getv (v := (0, 0, 0)) (p2 := 72) rfl ((frn16 v9 (by omega) (by omega)).trans hW14) (by decide) hg14.1 rfl ?_
  have hm18 := (zq_H_at hm12 (frn16 0 (by omega) (by omega)))
  have hm19 := (zq_tp_at hB ((frn16 1 (by omega) (by omega)).trans ((frn9 1 (by omega) (by omega)).trans ((frn5 1 (by omega) (by omega) (by omega)).trans (fr1 1 (by decide) (by decide) (by decide) (by decide) (by decide) (by decide) (by decide))))))
  have hm20 := (zq_T_at hs1_1 ((frn16 2 (by omega) (by omega)).trans ((frn9 2 (by omega) (by omega)).trans (frn5 2 (by omega) (by omega) (by omega)))) ((frn16 3 (by omega) (by omega)).trans ((frn9 3 (by omega) (by omega)).trans (frn5 3 (by omega) (by omega) (by omega)))) ((frn16 4 (by omega) (by omega)).trans ((frn9 4 (by omega) (by omega)).trans (frn5 4 (by omega) (by omega) (by omega)))) ((frn16 5 (by omega) (by omega)).trans ((frn9 5 (by omega) (by omega)).trans (frn5 5 (by omega) (by omega) (by omega)))) ((frn16 6 (by omega) (by omega)).trans ((frn9 6 (by omega) (by omega)).trans (frn5 6 (by omega) (by omega) (by omega)))))
  have hm21 := (zq_E_at hs1_2 ((frn16 232 (by omega) (by omega)).trans ((frn9 232 (by omega) (by omega)).trans (frn5 232 (by omega) (by omega) (by omega)))))
  have hm22 := (zq_nm_at hN ((frn16 239 (by omega) (by omega)).trans ((frn9 239 (by omega) (by omega)).trans ((frn5 239 (by omega) (by omega) (by omega)).trans (fr1 239 (by decide) (by decide) (by decide) (by decide) (by decide) (by decide) (by decide))))) ((frn16 242 (by omega) (by omega)).trans ((frn9 242 (by omega) (by omega)).trans ((frn5 242 (by omega) (by omega) (by omega)).trans (fr1 242 (by decide) (by decide) (by decide) (by decide) (by decide) (by decide) (by decide))))) ((frn16 244 (by omega) (by omega)).trans ((frn9 244 (by omega) (by omega)).trans ((frn5 244 (by omega) (by omega) (by omega)).trans (fr1 244 (by decide) (by decide) (by decide) (by decide) (by decide) (by decide) (by decide))))))
  have hm23 := (x_KS_at2 hK9 (fun j h1 h2 h3 h4 => (frn16 j (by omega) (by omega))))
  have hm24 := (x_SP_at hSP (fun j hj hne => by have hj2 := x_some_lt hlt0 hne; exact ((frn16 j (by omega) (by omega)).trans ((frn9 j (by omega) (by omega)).trans ((frn5 j (by omega) (by omega) (by omega)).trans (fr1 j (by omega) (by omega) (by omega) (by omega) (by omega) (by omega) (by omega)))))))
  have hm25 := (zq_V5_at hV5 ((frn16 485 (by omega) (by omega)).trans ((frn9 485 (by omega) (by omega)).trans ((frn5 485 (by omega) (by omega) (by omega)).trans (fr1 485 (by decide) (by decide) (by decide) (by decide) (by decide) (by decide) (by decide))))))
  have hm26 := (zq_SL_at hSL ((frn16 482 (by omega) (by omega)).trans ((frn9 482 (by omega) (by omega)).trans ((frn5 482 (by omega) (by omega) (by omega)).trans (fr1 482 (by decide) (by decide) (by decide) (by decide) (by decide) (by decide) (by decide))))))
  have hm27 := (zq_RW_at hRW ((frn16 483 (by omega) (by omega)).trans ((frn9 483 (by omega) (by omega)).trans ((frn5 483 (by omega) (by omega) (by omega)).trans (fr1 483 (by decide) (by decide) (by decide) (by decide) (by decide) (by decide) (by decide))))))
  have hm28 := (zq_J_at hJ ((frn16 468 (by omega) (by omega)).trans ((frn9 468 (by omega) (by omega)).trans ((frn5 468 (by omega) (by omega) (by omega)).trans (fr1 468 (by decide) (by decide) (by decide) (by decide) (by decide) (by decide) (by decide))))) ((frn16 469 (by omega) (by omega)).trans ((frn9 469 (by omega) (by omega)).trans ((frn5 469 (by omega) (by omega) (by omega)).trans (fr1 469 (by decide) (by decide) (by decide) (by decide) (by decide) (by decide) (by decide))))) ((frn16 470 (by omega) (by omega)).trans ((frn9 470 (by omega) (by omega)).trans ((frn5 470 (by omega) (by omega) (by omega)).trans (fr1 470 (by decide) (by decide) (by decide) (by decide) (by decide) (by decide) (by decide))))))
  have hm29 := (zFJ_at hFJ (fun j h1 h2 => ((frn16 j (by omega) (by omega)).trans ((frn9 j (by omega) (by omega)).trans ((frn5 j (by omega) (by omega) (by omega)).trans (fr1 j (by omega) (by omega) (by omega) (by omega) (by omega) (by omega) (by omega)))))))
  have hm30 := (zWJ_at hWJ (fun j h1 h2 => ((frn16 j (by omega) (by omega)).trans ((frn9 j (by omega) (by omega)).trans ((frn5 j (by omega) (by omega) (by omega)).trans (fr1 j (by omega) (by omega) (by omega) (by omega) (by omega) (by omega) (by omega)))))))
  have hm31 := (zq_OV_at hOV ((frn16 452 (by omega) (by omega)).trans ((frn9 452 (by omega) (by omega)).trans ((frn5 452 (by omega) (by omega) (by omega)).trans (fr1 452 (by decide) (by decide) (by decide) (by decide) (by decide) (by decide) (by decide))))) ((frn16 453 (by omega) (by omega)).trans ((frn9 453 (by omega) (by omega)).trans ((frn5 453 (by omega) (by omega) (by omega)).trans (fr1 453 (by decide) (by decide) (by decide) (by decide) (by decide) (by decide) (by decide))))))
  exact q_retv (v := (0, 0, 0)) rfl rfl (⟨rfl, ⟨by omega, by omega⟩, ⟨by omega, by omega⟩, rfl, ⟨⟨_, _, hm18, (x_hw_at hhw (fun j hj hne => by have hj2 := x_some_lt hlt0 hne; exact ((frn16 j (by omega) (by omega)).trans ((frn9 j (by omega) (by omega)).trans ((frn5 j (by omega) (by omega) (by omega)).trans (fr1 j (by omega) (by omega) (by omega) (by omega) (by omega) (by omega) (by omega)))))))⟩, hm19, ⟨_, _, _, _, _, _, _, _, _, _, _, _, _, _, hm20⟩, ⟨_, _, _, _, _, _, _, hm21⟩, hm22, ⟨_, ⟨_, _, _, _, _, _, _, _, _, _, hm23⟩, (fun i hi => by rw [x_s_ne (by omega), x_s_ne (by omega), x_s_ne (by omega), x_s_ne (by omega), x_s_ne (by omega), x_s_ne (by omega), x_s_ne (by omega), x_s_ne (by omega), x_s_ne (by omega), x_s_ne (by omega), x_s_ne (by omega), x_s_ne (by omega), x_s_ne (by omega), x_s_ne (by omega), x_s_ne (by omega), x_s_ne (by omega), x_s_ne (by omega), x_s_ne (by omega), x_s_ne (by omega), x_s_ne (by omega)]; exact hco i hi)⟩, ⟨_, _, _, hPZ16, hLZ16⟩, hm24, hm25, ⟨_, hm26⟩, hm27, hm28, hm29, hm30, ⟨_, _, hm31, hovn, hovh⟩⟩⟩)
set_option maxHeartbeats 1000000 in
theorem zc_set1_nn {d n sl : Nat} {φ : FH} {tp : Nat → Nat} {lf : Nat} {mi : Nat} {made : Nat} {sv : Nat} {svm : Nat} {comb : Nat → Nat} {hm : Nat → MV} {sc : Nat → Nat} {sm : Nat → MV} {mh : MV} {noted : Nat} {verd : Nat} {ins : Nat → Nat} {ver : Nat → Nat} {sz : Nat} {bw : Nat → Nat} {x w1 w2 d1 d2 : Nat} (hG : zG φ 7 tp lf mi made sv svm comb hm sc sm mh noted verd ins ver sz bw) (hn0 : 486 ≤ n) (hpv : ∀ i, x_pv2 (hm i)) (hmi : mi + 100 ≤ 20000) (hx : x < 40) (hisA : x_isA made comb x 0) (ht0 : tp 0 = 91) (ht1 : tp 1 = 35) (ht2 : tp 2 = d1) (ht3 : tp 3 = 44) (ht4 : tp 4 = 35) (ht5 : tp 5 = d2) (ht6 : tp 6 = 93) (hdd1 : 48 ≤ d1 ∧ d1 ≤ 57) (hdd2 : 48 ≤ d2 ∧ d2 ≤ 57) (hw_1 : 0 + d1 - 48 = w1) (hw1 : w1 < 512) (hw_2 : 0 + d2 - 48 = w2) (hw2 : w2 < 512) (h1 : ¬ (w1 < made ∧ comb w1 ≠ 0)) (h2 : ¬ (w2 < made ∧ comb w2 ≠ 0)) : x_f x_P (d + 19) 24 [(6, 0, 0), (0, x, 0), (0, 1, 0), (11, 0, 0), (11, 0, 0), (11, 0, 0)] φ n sl (x_bR n sl 5 52 (fun zw φ2 => zw = (0, 0, 0) ∧ zG φ2 0 tp 0 (mi + 3) made sv svm comb (zhm hm (x * 40 + 1) MV0) sc sm mh noted verd ins ver sz bw)) := by
  refine x_f_of rfl ?_
  have hG0 := hG
  obtain ⟨⟨hand, ie, hH, hhw⟩, hB, hTJ, hEJ, hN, hKJ, ⟨A, B, s9, hPS, hLK0⟩, hSP, hV5, ⟨slq, hSL⟩, hRW, hJ, hFJ, hWJ, ⟨ovn, ovh, hOV, hovn, hovh⟩⟩ := hG
  refine x_n_lt (fun hlt0 => ?_)
  have hmade := x_PS_lt hPS
  obtain ⟨tot, at_, cur, pl, va, fa, fp, sf, sp, no, op, K, P, V, hT⟩ := hTJ
  obtain ⟨bi, top, hid, lc, slo, own, sk, hE⟩ := hEJ
  obtain ⟨co, ⟨top_, fr_, pc_, mm, st, lo, re, rs, fl, se, hKS⟩, hco⟩ := hKJ
  refine q_load (v := (6, 0, 0)) (p2 := 1) rfl rfl rfl rfl ?_
  refine q_getv (v := (6, 7, 0)) (p2 := 2) rfl hH (by decide) rfl rfl ?_
  refine q_load (v := (0, x, 0)) (p2 := 3) rfl rfl rfl rfl ?_
  refine q_load (v := (0, 1, 0)) (p2 := 4) rfl rfl rfl rfl ?_
  refine q_callr (xs := [(0, 1, 0), (0, x, 0), (6, 7, 0)]) (p2 := 5) rfl rfl rfl rfl (x_rcv_s 7 hPS.1.choose_spec.1) rfl (x_r_yes (e_has_1 hPS.1.choose_spec hPS.2.1 hKS.2.2.2.2.2.2.2.2.2 (by omega)) hisA) (Nat.le_refl _) (Nat.le_refl _) rfl ?_
  refine q_if0_s (p2 := 6) rfl (by decide) (by omega) rfl (fun hb => absurd hb (show ¬ (1 = 0) by omega)) (fun _ => ?_)
  refine q_load (v := (6, 0, 0)) (p2 := 7) rfl rfl rfl rfl ?_
  refine q_getv (v := (6, 7, 0)) (p2 := 8) rfl hH (by decide) rfl rfl ?_
  refine q_getv (v := (6, 237, 0)) (p2 := 9) rfl hPS.1.choose_spec.1 (by decide) hPS.1.choose_spec.2.1 rfl ?_
  refine q_getv (v := (6, 271, 0)) (p2 := 10) rfl hKS.2.2.2.2.2.2.2.2.2.1.choose_spec.1 (by decide) hKS.2.2.2.2.2.2.2.2.2.1.choose_spec.2.2.2.2.2.2.2.2.1 rfl ?_
  refine q_load (v := (0, 1, 0)) (p2 := 11) rfl rfl rfl rfl ?_
  refine q_aldv (v := (6, 273, 0)) (p2 := 12) rfl (x_sc_271 hKS.2.2.2.2.2.2.2.2.2) (by omega) (by omega) rfl rfl ?_
  refine q_const (p2 := 13) rfl rfl ?_
  refine q_aldv (v := (0, 0, 0)) (p2 := 14) rfl (x_sc_273 hKS.2.2.2.2.2.2.2.2.2) (by omega) (by omega) rfl rfl ?_
  refine q_if0_s (p2 := 15) rfl (by decide) (by omega) rfl (fun _ => ?_) (fun hb => absurd (show 0 = 0 by omega) hb)
  refine q_load (v := (6, 0, 0)) (p2 := 18) rfl rfl rfl rfl ?_
  refine q_callrE (xs := [(6, 0, 0)]) (p2 := 19) rfl rfl rfl rfl (x_rcv_s 0 hH) rfl (zc_h_rx_list hH hB hT hE hKS hPS hN ht0 ht1 ht2 ht3 ht4 ht5 ht6 (by omega)) (Nat.le_refl _) (Nat.le_refl _) rfl (fun φ1 hR1 => ?_)
  obtain ⟨hs1_0, hs1_1, hs1_2, hs1_3, fr1⟩ := hR1
  refine q_store (loc2 := [(6, 0, 0), (0, x, 0), (0, 1, 0), (0, 60, 0), (11, 0, 0), (11, 0, 0)]) (p2 := 20) rfl rfl rfl rfl rfl ?_
  refine q_load (v := (0, 60, 0)) (p2 := 21) rfl rfl rfl rfl ?_
  refine q_if0_s (p2 := 22) rfl (by decide) (by omega) rfl (fun _ => ?_) (fun hb => absurd (show ¬ (60 < 0) by omega) hb)
  refine q_load (v := (6, 0, 0)) (p2 := 25) rfl rfl rfl rfl ?_
  refine q_getv (v := (6, 7, 0)) (p2 := 26) rfl hs1_0 (by decide) rfl rfl ?_
  refine x_n_lt (fun hlt3 => ?_)
  have hm2 := (x_PS_at hPS (fun j hj hne => by have hj2 := x_some_lt hlt0 hne; exact (fr1 j (by omega) (by omega) (by omega) (by omega) (by omega) (by omega) (by omega))))
  have hm4 := (x_LK_at2 hLK0 (fun j h1 h2 => (fr1 j (by omega) (by omega) (by omega) (by omega) (by omega) (by omega) (by omega))))
  refine q_callvE (xs := [(6, 7, 0)]) (p2 := 27) rfl rfl rfl rfl (x_rcv_s 7 hm2.1.choose_spec.1) rfl (e_prepare hm2 hm4.1 hpv hs1_3.2.2.2.2.2.2.2.2.2) (Nat.le_refl _) (Nat.le_refl _) rfl (fun φ5 hR5 => ?_)
  obtain ⟨A5, B5, hPS5, hLK5, frn5⟩ := hR5
  have hAB5 := x_pop_AB hPS5.1.choose_spec
  obtain ⟨lik5, lb5, hL5, hLb5, hlk5⟩ := id hLK5
  refine x_n_lt (fun hlt6 => ?_)
  have hLKx5 : x_LK φ5 A5 B5 made 0 comb hm ∧ _ := ⟨hLK5, hAB5⟩
  refine q_load (v := (6, 0, 0)) (p2 := 28) rfl rfl rfl rfl ?_
  have hm7 := (zq_H_at hs1_0 (frn5 0 (by omega) (by omega) (by omega)))
  refine q_getv (v := (6, 455, 0)) (p2 := 29) rfl hm7 (by decide) rfl rfl ?_
  refine q_load (v := (0, 60, 0)) (p2 := 30) rfl rfl rfl rfl ?_
  refine q_load (v := (6, 0, 0)) (p2 := 31) rfl rfl rfl rfl ?_
  refine q_getv (v := (6, 7, 0)) (p2 := 32) rfl hm7 (by decide) rfl rfl ?_
  refine q_getv (v := (6, 225, 0)) (p2 := 33) rfl hPS5.1.choose_spec.1 (by decide) hPS5.1.choose_spec.2.2.1 rfl ?_
  have hm8 := (x_KS_at2 hs1_3 (fun j h1 h2 h3 h4 => (frn5 j (by omega) (by omega) (by omega))))
  refine q_callrB (xs := [(6, 225, 0), (0, 60, 0), (6, 455, 0)]) (p2 := 34) rfl rfl rfl rfl (x_rcv_s 455 (x_KS_455 hm8)) rfl (zc_run_list_nn hPS5 hm8 (by omega) (by omega) (((x_s_ne (by decide)).trans ((x_s_ne (by decide)).trans ((x_s_ne (by decide)).trans ((x_s_ne (by decide)).trans ((x_s_ne (by decide)).trans ((x_s_ne (by decide)).trans ((x_s_ne (by decide)).trans ((x_s_ne (by decide)).trans ((x_s_ne (by decide)).trans ((x_s_ne (by decide)).trans ((x_s_ne (by decide)).trans ((x_s_ne (by decide)).trans ((x_s_ne (by decide)).trans ((x_s_ne (by decide)).trans ((x_s_ne (by decide)).trans ((x_s_ne (by decide)).trans ((x_s_ne (by decide)).trans ((x_s_ne (by decide)).trans ((x_s_ne (by decide)).trans (x_s_eq))))))))))))))))))))) (((x_s_ne (by decide)).trans ((x_s_ne (by decide)).trans ((x_s_ne (by decide)).trans ((x_s_ne (by decide)).trans ((x_s_ne (by decide)).trans ((x_s_ne (by decide)).trans ((x_s_ne (by decide)).trans ((x_s_ne (by decide)).trans ((x_s_ne (by decide)).trans ((x_s_ne (by decide)).trans ((x_s_ne (by decide)).trans ((x_s_ne (by decide)).trans ((x_s_ne (by decide)).trans ((x_s_ne (by decide)).trans ((x_s_ne (by decide)).trans ((x_s_ne (by decide)).trans ((x_s_ne (by decide)).trans (x_s_eq))))))))))))))))))) (((x_s_ne (by decide)).trans ((x_s_ne (by decide)).trans ((x_s_ne (by decide)).trans ((x_s_ne (by decide)).trans ((x_s_ne (by decide)).trans ((x_s_ne (by decide)).trans ((x_s_ne (by decide)).trans ((x_s_ne (by decide)).trans ((x_s_ne (by decide)).trans ((x_s_ne (by decide)).trans ((x_s_ne (by decide)).trans ((x_s_ne (by decide)).trans ((x_s_ne (by decide)).trans ((x_s_ne (by decide)).trans ((x_s_ne (by decide)).trans ((x_s_ne (by decide)).trans (x_s_eq)))))))))))))))))) (((x_s_ne (by decide)).trans ((x_s_ne (by decide)).trans ((x_s_ne (by decide)).trans ((x_s_ne (by decide)).trans ((x_s_ne (by decide)).trans ((x_s_ne (by decide)).trans ((x_s_ne (by decide)).trans ((x_s_ne (by decide)).trans ((x_s_ne (by decide)).trans ((x_s_ne (by decide)).trans ((x_s_ne (by decide)).trans ((x_s_ne (by decide)).trans ((x_s_ne (by decide)).trans ((x_s_ne (by decide)).trans (x_s_eq)))))))))))))))) (((x_s_ne (by decide)).trans ((x_s_ne (by decide)).trans ((x_s_ne (by decide)).trans ((x_s_ne (by decide)).trans ((x_s_ne (by decide)).trans ((x_s_ne (by decide)).trans ((x_s_ne (by decide)).trans ((x_s_ne (by decide)).trans ((x_s_ne (by decide)).trans ((x_s_ne (by decide)).trans ((x_s_ne (by decide)).trans ((x_s_ne (by decide)).trans ((x_s_ne (by decide)).trans (x_s_eq))))))))))))))) ((((x_s_ne (by decide)).trans ((x_s_ne (by decide)).trans ((x_s_ne (by decide)).trans ((x_s_ne (by decide)).trans ((x_s_ne (by decide)).trans ((x_s_ne (by decide)).trans ((x_s_ne (by decide)).trans ((x_s_ne (by decide)).trans ((x_s_ne (by decide)).trans ((x_s_ne (by decide)).trans ((x_s_ne (by decide)).trans ((x_s_ne (by decide)).trans (x_s_eq)))))))))))))).trans hw_1) (((x_s_ne (by decide)).trans ((x_s_ne (by decide)).trans ((x_s_ne (by decide)).trans ((x_s_ne (by decide)).trans ((x_s_ne (by decide)).trans ((x_s_ne (by decide)).trans ((x_s_ne (by decide)).trans ((x_s_ne (by decide)).trans ((x_s_ne (by decide)).trans ((x_s_ne (by decide)).trans ((x_s_ne (by decide)).trans (x_s_eq))))))))))))) (((x_s_ne (by decide)).trans ((x_s_ne (by decide)).trans ((x_s_ne (by decide)).trans ((x_s_ne (by decide)).trans ((x_s_ne (by decide)).trans ((x_s_ne (by decide)).trans ((x_s_ne (by decide)).trans ((x_s_ne (by decide)).trans ((x_s_ne (by decide)).trans ((x_s_ne (by decide)).trans (x_s_eq)))))))))))) (((x_s_ne (by decide)).trans ((x_s_ne (by decide)).trans ((x_s_ne (by decide)).trans ((x_s_ne (by decide)).trans ((x_s_ne (by decide)).trans ((x_s_ne (by decide)).trans ((x_s_ne (by decide)).trans ((x_s_ne (by decide)).trans ((x_s_ne (by decide)).trans (x_s_eq))))))))))) (((x_s_ne (by decide)).trans ((x_s_ne (by decide)).trans ((x_s_ne (by decide)).trans ((x_s_ne (by decide)).trans ((x_s_ne (by decide)).trans ((x_s_ne (by decide)).trans ((x_s_ne (by decide)).trans (x_s_eq))))))))) (((x_s_ne (by decide)).trans ((x_s_ne (by decide)).trans ((x_s_ne (by decide)).trans ((x_s_ne (by decide)).trans ((x_s_ne (by decide)).trans ((x_s_ne (by decide)).trans (x_s_eq)))))))) ((((x_s_ne (by decide)).trans ((x_s_ne (by decide)).trans ((x_s_ne (by decide)).trans ((x_s_ne (by decide)).trans ((x_s_ne (by decide)).trans (x_s_eq))))))).trans hw_2) (((x_s_ne (by decide)).trans ((x_s_ne (by decide)).trans ((x_s_ne (by decide)).trans ((x_s_ne (by decide)).trans (x_s_eq)))))) (((x_s_ne (by decide)).trans ((x_s_ne (by decide)).trans ((x_s_ne (by decide)).trans (x_s_eq))))) (((x_s_ne (by decide)).trans ((x_s_ne (by decide)).trans (x_s_eq)))) (((x_s_ne (by decide)).trans (x_s_eq))) ((x_s_eq)) (by omega) (by omega) h1 h2) rfl (fun w9 φ9 n9 sl9 hn9 hN9 hs9 hT9 hR9 => ?_)
  obtain ⟨v9, hwv9, ⟨ka9, kb9, kc9, kd9, ke9, kf9, kg9, kh9, ki9, kj9, hK9⟩, hV9, frn9⟩ := hR9
  subst hwv9
  refine x_n_lt (fun hlt10 => ?_)
  have hz11 := x_mv_lt hV9 hlt10
  have hy11 := hV9.1
  refine q_store (loc2 := [(6, 0, 0), (0, x, 0), (0, 1, 0), (0, 60, 0), (6, v9, 0), (11, 0, 0)]) (p2 := 35) rfl rfl rfl rfl rfl ?_
  refine q_load (v := (6, 0, 0)) (p2 := 36) rfl rfl rfl rfl ?_
  have hm12 := (zq_H_at hm7 (frn9 0 (by omega) (by omega)))
  refine q_getv (v := (6, 455, 0)) (p2 := 37) rfl hm12 (by decide) rfl rfl ?_
  refine q_getv (v := (0, 0, 0)) (p2 := 38) rfl (x_KS_455 hK9) (by decide) hK9.1.choose_spec.2.2.2.2.2.2.2.2.2.2.2.2.2.2.2.2.2.1 rfl ?_
  refine q_if0_s (p2 := 39) rfl (by decide) (by omega) rfl (fun _ => ?_) (fun hb => absurd (show 0 = 0 by omega) hb)
  refine q_load (v := (6, 0, 0)) (p2 := 42) rfl rfl rfl rfl ?_
  refine q_getv (v := (6, 7, 0)) (p2 := 43) rfl hm12 (by decide) rfl rfl ?_
  have hm13 := (x_PS_at hPS5 (fun j hj hne => by have hj2 := x_some_lt hlt6 hne; exact (frn9 j (by omega) (by omega))))
  refine q_getv (v := (6, 237, 0)) (p2 := 44) rfl hm13.1.choose_spec.1 (by decide) hm13.1.choose_spec.2.1 rfl ?_
  refine q_getv (v := (6, 271, 0)) (p2 := 45) rfl hK9.2.2.2.2.2.2.2.2.2.1.choose_spec.1 (by decide) hK9.2.2.2.2.2.2.2.2.2.1.choose_spec.2.2.2.2.2.2.2.2.1 rfl ?_
  refine q_load (v := (0, 1, 0)) (p2 := 46) rfl rfl rfl rfl ?_
  refine q_aldv (v := (6, 273, 0)) (p2 := 47) rfl (x_sc_271 hK9.2.2.2.2.2.2.2.2.2) (by omega) (by omega) rfl rfl ?_
  refine q_const (p2 := 48) rfl rfl ?_
  refine q_aldv (v := (0, 1, 0)) (p2 := 49) rfl (x_sc_273 hK9.2.2.2.2.2.2.2.2.2) (by omega) (by omega) rfl rfl ?_
  refine q_store (loc2 := [(6, 0, 0), (0, x, 0), (0, 1, 0), (0, 60, 0), (6, v9, 0), (0, 1, 0)]) (p2 := 50) rfl rfl rfl rfl rfl ?_
  refine q_load (v := (6, 0, 0)) (p2 := 51) rfl rfl rfl rfl ?_
  refine q_getv (v := (6, 7, 0)) (p2 := 52) rfl hm12 (by decide) rfl rfl ?_
  refine q_load (v := (6, v9, 0)) (p2 := 53) rfl rfl rfl rfl ?_
  refine q_load (v := (0, 1, 0)) (p2 := 54) rfl rfl rfl rfl ?_
  obtain ⟨fV14, hW14, hg14⟩ := x_mv_gS hV9 (by decide)
  have hl14 := hlt10 _ _ hW14
  have h6_14 := hV9.1
  refine q_callr (xs := [(0, 1, 0), (6, v9, 0), (6, 7, 0)]) (p2 := 55) rfl rfl rfl rfl (x_rcv_s 7 hm13.1.choose_spec.1) rfl (e_conv_1s hm13.1.choose_spec hW14 hg14 (by decide) (by omega) hK9.2.2.2.2.2.2.2.2.2 (by decide)) (Nat.le_refl _) (Nat.le_refl _) rfl ?_
  refine q_store (loc2 := [(6, 0, 0), (0, x, 0), (0, 1, 0), (0, 60, 0), (6, v9, 0), (0, 1, 0)]) (p2 := 56) rfl rfl rfl rfl rfl ?_
  refine q_load (v := (6, 0, 0)) (p2 := 57) rfl rfl rfl rfl ?_
  refine q_getv (v := (6, 7, 0)) (p2 := 58) rfl hm12 (by decide) rfl rfl ?_
  refine q_load (v := (6, v9, 0)) (p2 := 59) rfl rfl rfl rfl ?_
  refine q_load (v := (0, 1, 0)) (p2 := 60) rfl rfl rfl rfl ?_
  refine q_callr (xs := [(0, 1, 0), (6, v9, 0), (6, 7, 0)]) (p2 := 61) rfl rfl rfl rfl (x_rcv_s 7 hm13.1.choose_spec.1) rfl (zc_fits_n hW14 hg14) (Nat.le_refl _) (Nat.le_refl _) rfl ?_
  refine q_if0_s (p2 := 62) rfl (by decide) (by omega) rfl (fun _ => ?_) (fun hb => absurd (show ¬ (1 = 0) by omega) hb)
  refine q_load (v := (6, 0, 0)) (p2 := 65) rfl rfl rfl rfl ?_
  refine q_getv (v := (6, 7, 0)) (p2 := 66) rfl hm12 (by decide) rfl rfl ?_
  refine q_load (v := (0, x, 0)) (p2 := 67) rfl rfl rfl rfl ?_
  refine q_load (v := (0, 1, 0)) (p2 := 68) rfl rfl rfl rfl ?_
  refine q_load (v := (6, v9, 0)) (p2 := 69) rfl rfl rfl rfl ?_
  have hm15 := (x_LK_at2 hLKx5 (fun j h1 h2 => (frn9 j (by omega) (by omega))))
  refine q_callvE (xs := [(6, v9, 0), (0, 1, 0), (0, x, 0), (6, 7, 0)]) (p2 := 70) rfl rfl rfl rfl (x_rcv_s 7 hm13.1.choose_spec.1) rfl (e_holdP hm13 hV9 (by omega) (by omega)) (Nat.le_refl _) (Nat.le_refl _) rfl (fun φ16 hR16 => ?_)
  obtain ⟨hPS16, frn16⟩ := hR16
  have hPZ16 : x_PS φ16 A5 B5 made sv svm 1 comb (zhm hm (x * 40 + 1) MV0) := hPS16
  refine x_n_lt (fun hlt17 => ?_)
  have hLZ16 := x_LK_st1 (made2 := made) (comb2 := comb) (hm2 := (zhm hm (x * 40 + 1) MV0)) hm15 (fun j h1 h2 => (frn16 j (by omega) (by omega)))
  refine q_load (v := (6, v9, 0)) (p2 := 71) rfl rfl rfl rfl ?_
  refine q_getv (v := (0, 0, 0)) (p2 := 72) rfl ((frn16 v9 (by omega) (by omega)).trans hW14) (by decide) hg14.1 rfl ?_
  have hm18 := (zq_H_at hm12 (frn16 0 (by omega) (by omega)))
  have hm19 := (zq_tp_at hB ((frn16 1 (by omega) (by omega)).trans ((frn9 1 (by omega) (by omega)).trans ((frn5 1 (by omega) (by omega) (by omega)).trans (fr1 1 (by decide) (by decide) (by decide) (by decide) (by decide) (by decide) (by decide))))))
  have hm20 := (zq_T_at hs1_1 ((frn16 2 (by omega) (by omega)).trans ((frn9 2 (by omega) (by omega)).trans (frn5 2 (by omega) (by omega) (by omega)))) ((frn16 3 (by omega) (by omega)).trans ((frn9 3 (by omega) (by omega)).trans (frn5 3 (by omega) (by omega) (by omega)))) ((frn16 4 (by omega) (by omega)).trans ((frn9 4 (by omega) (by omega)).trans (frn5 4 (by omega) (by omega) (by omega)))) ((frn16 5 (by omega) (by omega)).trans ((frn9 5 (by omega) (by omega)).trans (frn5 5 (by omega) (by omega) (by omega)))) ((frn16 6 (by omega) (by omega)).trans ((frn9 6 (by omega) (by omega)).trans (frn5 6 (by omega) (by omega) (by omega)))))
  have hm21 := (zq_E_at hs1_2 ((frn16 232 (by omega) (by omega)).trans ((frn9 232 (by omega) (by omega)).trans (frn5 232 (by omega) (by omega) (by omega)))))
  have hm22 := (zq_nm_at hN ((frn16 239 (by omega) (by omega)).trans ((frn9 239 (by omega) (by omega)).trans ((frn5 239 (by omega) (by omega) (by omega)).trans (fr1 239 (by decide) (by decide) (by decide) (by decide) (by decide) (by decide) (by decide))))) ((frn16 242 (by omega) (by omega)).trans ((frn9 242 (by omega) (by omega)).trans ((frn5 242 (by omega) (by omega) (by omega)).trans (fr1 242 (by decide) (by decide) (by decide) (by decide) (by decide) (by decide) (by decide))))) ((frn16 244 (by omega) (by omega)).trans ((frn9 244 (by omega) (by omega)).trans ((frn5 244 (by omega) (by omega) (by omega)).trans (fr1 244 (by decide) (by decide) (by decide) (by decide) (by decide) (by decide) (by decide))))))
  have hm23 := (x_KS_at2 hK9 (fun j h1 h2 h3 h4 => (frn16 j (by omega) (by omega))))
  have hm24 := (x_SP_at hSP (fun j hj hne => by have hj2 := x_some_lt hlt0 hne; exact ((frn16 j (by omega) (by omega)).trans ((frn9 j (by omega) (by omega)).trans ((frn5 j (by omega) (by omega) (by omega)).trans (fr1 j (by omega) (by omega) (by omega) (by omega) (by omega) (by omega) (by omega)))))))
  have hm25 := (zq_V5_at hV5 ((frn16 485 (by omega) (by omega)).trans ((frn9 485 (by omega) (by omega)).trans ((frn5 485 (by omega) (by omega) (by omega)).trans (fr1 485 (by decide) (by decide) (by decide) (by decide) (by decide) (by decide) (by decide))))))
  have hm26 := (zq_SL_at hSL ((frn16 482 (by omega) (by omega)).trans ((frn9 482 (by omega) (by omega)).trans ((frn5 482 (by omega) (by omega) (by omega)).trans (fr1 482 (by decide) (by decide) (by decide) (by decide) (by decide) (by decide) (by decide))))))
  have hm27 := (zq_RW_at hRW ((frn16 483 (by omega) (by omega)).trans ((frn9 483 (by omega) (by omega)).trans ((frn5 483 (by omega) (by omega) (by omega)).trans (fr1 483 (by decide) (by decide) (by decide) (by decide) (by decide) (by decide) (by decide))))))
  have hm28 := (zq_J_at hJ ((frn16 468 (by omega) (by omega)).trans ((frn9 468 (by omega) (by omega)).trans ((frn5 468 (by omega) (by omega) (by omega)).trans (fr1 468 (by decide) (by decide) (by decide) (by decide) (by decide) (by decide) (by decide))))) ((frn16 469 (by omega) (by omega)).trans ((frn9 469 (by omega) (by omega)).trans ((frn5 469 (by omega) (by omega) (by omega)).trans (fr1 469 (by decide) (by decide) (by decide) (by decide) (by decide) (by decide) (by decide))))) ((frn16 470 (by omega) (by omega)).trans ((frn9 470 (by omega) (by omega)).trans ((frn5 470 (by omega) (by omega) (by omega)).trans (fr1 470 (by decide) (by decide) (by decide) (by decide) (by decide) (by decide) (by decide))))))
  have hm29 := (zFJ_at hFJ (fun j h1 h2 => ((frn16 j (by omega) (by omega)).trans ((frn9 j (by omega) (by omega)).trans ((frn5 j (by omega) (by omega) (by omega)).trans (fr1 j (by omega) (by omega) (by omega) (by omega) (by omega) (by omega) (by omega)))))))
  have hm30 := (zWJ_at hWJ (fun j h1 h2 => ((frn16 j (by omega) (by omega)).trans ((frn9 j (by omega) (by omega)).trans ((frn5 j (by omega) (by omega) (by omega)).trans (fr1 j (by omega) (by omega) (by omega) (by omega) (by omega) (by omega) (by omega)))))))
  have hm31 := (zq_OV_at hOV ((frn16 452 (by omega) (by omega)).trans ((frn9 452 (by omega) (by omega)).trans ((frn5 452 (by omega) (by omega) (by omega)).trans (fr1 452 (by decide) (by decide) (by decide) (by decide) (by decide) (by decide) (by decide))))) ((frn16 453 (by omega) (by omega)).trans ((frn9 453 (by omega) (by omega)).trans ((frn5 453 (by omega) (by omega) (by omega)).trans (fr1 453 (by decide) (by decide) (by decide) (by decide) (by decide) (by decide) (by decide))))))
  exact q_retv (v := (0, 0, 0)) rfl rfl (⟨rfl, ⟨by omega, by omega⟩, ⟨by omega, by omega⟩, rfl, ⟨⟨_, _, hm18, (x_hw_at hhw (fun j hj hne => by have hj2 := x_some_lt hlt0 hne; exact ((frn16 j (by omega) (by omega)).trans ((frn9 j (by omega) (by omega)).trans ((frn5 j (by omega) (by omega) (by omega)).trans (fr1 j (by omega) (by omega) (by omega) (by omega) (by omega) (by omega) (by omega)))))))⟩, hm19, ⟨_, _, _, _, _, _, _, _, _, _, _, _, _, _, hm20⟩, ⟨_, _, _, _, _, _, _, hm21⟩, hm22, ⟨_, ⟨_, _, _, _, _, _, _, _, _, _, hm23⟩, (fun i hi => by rw [x_s_ne (by omega), x_s_ne (by omega), x_s_ne (by omega), x_s_ne (by omega), x_s_ne (by omega), x_s_ne (by omega), x_s_ne (by omega), x_s_ne (by omega), x_s_ne (by omega), x_s_ne (by omega), x_s_ne (by omega), x_s_ne (by omega), x_s_ne (by omega), x_s_ne (by omega), x_s_ne (by omega), x_s_ne (by omega), x_s_ne (by omega), x_s_ne (by omega), x_s_ne (by omega), x_s_ne (by omega)]; exact hco i hi)⟩, ⟨_, _, _, hPZ16, hLZ16⟩, hm24, hm25, ⟨_, hm26⟩, hm27, hm28, hm29, hm30, ⟨_, _, hm31, hovn, hovh⟩⟩⟩)
end FPOP63
