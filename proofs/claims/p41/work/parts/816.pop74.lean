section FPOP74
theorem q_iandz {P : List (List XI)} {d pc p2 n sl : Nat} {code : List XI} {t loc : List XV} {φ : FH} {Post : FP} {b x y z : Nat} {tb : List (Nat × Nat)} (hc : x_nth code pc = some (15, 3, b, tb)) (hz : x &&& y = z) (hb : z < 4294967296) (hp : pc + 1 = p2) (kk : x_n P d code p2 ((0, z, 0) :: t) loc φ n sl Post) : x_n P d code pc ((0, y, 0) :: (0, x, 0) :: t) loc φ n sl Post :=
  q_iop (w := x &&& y) hc (xo_and x y) (by rw [hz]; omega) hp kk
theorem q_iushrz {P : List (List XI)} {d pc p2 n sl : Nat} {code : List XI} {t loc : List XV} {φ : FH} {Post : FP} {a b x y z : Nat} {tb : List (Nat × Nat)} (hc : x_nth code pc = some (26, a, b, tb)) (hx : x < 4294967296 ∧ y < 32) (hz : x >>> y = z) (hp : pc + 1 = p2) (kk : x_n P d code p2 ((0, z, 0) :: t) loc φ n sl Post) : x_n P d code pc ((0, y, 0) :: (0, x, 0) :: t) loc φ n sl Post := by
  subst hp
  refine x_n_go (fun K f h _ => (x_run_op hc rfl).trans ?_) kk
  show x_if (Nat.beq 0 0) (x_if (Nat.beq 0 0) (x_I (Nat.shiftRight (Nat.mod x 4294967296) (Nat.mod y 32)) (fun w => x_force (Nat.succ pc) (fun p => x_run K f code p (w :: t) loc h n sl))) none) none = _
  rw [Nat.beq_refl, x_if_true, x_if_true, xe_I, x_force_eq]
  have e1 : Nat.mod x 4294967296 = x := Nat.mod_eq_of_lt hx.1
  have e2 : Nat.mod y 32 = y := Nat.mod_eq_of_lt hx.2
  have e3 : Nat.shiftRight x y = z := hz
  have e4 : z < 4294967296 := by
    rw [← hz, Nat.shiftRight_eq_div_pow]
    exact Nat.lt_of_le_of_lt (Nat.div_le_self _ _) hx.1
  rw [e1, e2, e3, Nat.mod_eq_of_lt e4]
set_option maxHeartbeats 1000000 in
theorem zc_call_0a {d n sl : Nat} {φ : FH} {tp : Nat → Nat} {lf : Nat} {mi : Nat} {made : Nat} {sv : Nat} {svm : Nat} {comb : Nat → Nat} {hm : Nat → MV} {sc : Nat → Nat} {sm : Nat → MV} {mh : MV} {noted : Nat} {verd : Nat} {ins : Nat → Nat} {ver : Nat → Nat} {sz : Nat} {bw : Nat → Nat} {x : Nat} {s4 s7 i j : Nat}  (hG : zG φ 0 tp lf mi made sv svm comb hm sc sm mh noted verd ins ver sz bw) (hn0 : 486 ≤ n) (hpv : ∀ i, x_pv2 (hm i)) (hmi : mi + 300 ≤ 20000) (hx32 : x < 4294967296) (hf0 : x >>> 4 = s4) (hf1 : s4 &&& 7 = i) (hf2 : x >>> 7 = s7) (hf3 : s7 &&& 7 = j) (hf4 : x &&& 15 = 0) (hf5 : i &&& 1 = 0) (hi : i < 8) (hj : j < 8)  : x_f x_P (d + 5) 4 [(6, 0, 0), (0, x, 0), (11, 0, 0), (11, 0, 0), (11, 0, 0)] φ n sl (x_bR n sl 0 0 (fun zw φ2 => ∃ tpZ : Nat → Nat, zw = (0, 4294967282, 0) ∧ zG φ2 0 tpZ lf mi made sv svm comb hm sc sm mh noted verd ins ver sz bw)) := by
  refine x_f_of rfl ?_
  have hG0 := hG
  obtain ⟨⟨hand, ie, hH, hhw⟩, hB, hTJ, hEJ, hN, hKJ, ⟨A, B, s9, hPS, hLK0⟩, hSP, hV5, ⟨slq, hSL⟩, hRW, hJ, hFJ, hWJ, ⟨ovn, ovh, hOV, hovn, hovh⟩⟩ := hG
  refine x_n_lt (fun hlt0 => ?_)
  have hmade := x_PS_lt hPS
  obtain ⟨co, ⟨top_, fr_, pc_, mm, st, lo, re, rs, fl, se, hKS⟩, hco⟩ := hKJ
  refine q_load (v := (0, x, 0)) (p2 := 1) rfl rfl rfl rfl ?_
  refine q_const (p2 := 2) rfl rfl ?_
  refine q_iushrz (z := s4) (p2 := 3) rfl (by omega) hf0 rfl ?_
  refine q_const (p2 := 4) rfl rfl ?_
  refine q_iandz (z := i) (p2 := 5) rfl hf1 (by omega) rfl ?_
  refine q_store (loc2 := [(6, 0, 0), (0, x, 0), (0, i, 0), (11, 0, 0), (11, 0, 0)]) (p2 := 6) rfl rfl rfl rfl rfl ?_
  refine q_load (v := (0, x, 0)) (p2 := 7) rfl rfl rfl rfl ?_
  refine q_const (p2 := 8) rfl rfl ?_
  refine q_iushrz (z := s7) (p2 := 9) rfl (by omega) hf2 rfl ?_
  refine q_const (p2 := 10) rfl rfl ?_
  refine q_iandz (z := j) (p2 := 11) rfl hf3 (by omega) rfl ?_
  refine q_store (loc2 := [(6, 0, 0), (0, x, 0), (0, i, 0), (0, j, 0), (11, 0, 0)]) (p2 := 12) rfl rfl rfl rfl rfl ?_
  refine q_const (p2 := 13) rfl rfl ?_
  refine q_store (loc2 := [(6, 0, 0), (0, x, 0), (0, i, 0), (0, j, 0), (0, 1, 0)]) (p2 := 14) rfl rfl rfl rfl rfl ?_
  refine q_load (v := (0, x, 0)) (p2 := 15) rfl rfl rfl rfl ?_
  refine q_const (p2 := 16) rfl rfl ?_
  refine q_iandz (z := 0) (p2 := 17) rfl hf4 (by omega) rfl ?_
  refine q_switch (tgt := 18) rfl (by decide) rfl ?_
  refine q_load (v := (6, 0, 0)) (p2 := 19) rfl rfl rfl rfl ?_
  refine q_const (p2 := 20) rfl rfl ?_
  refine q_load (v := (0, i, 0)) (p2 := 21) rfl rfl rfl rfl ?_
  refine q_const (p2 := 22) rfl rfl ?_
  refine q_iandz (z := 0) (p2 := 23) rfl hf5 (by omega) rfl ?_
  refine q_const (p2 := 24) rfl rfl ?_
  refine q_iop (w := 0 * 2) (z := 0) (p2 := 25) rfl (xo_mul 0 2) (by decide) rfl ?_
  refine q_iop (w := 1 + 0) (z := 1) (p2 := 26) rfl (xo_add 1 0) (by decide) rfl ?_
  have hGz1 : zG φ 0 tp lf mi made sv svm comb hm sc sm mh noted verd ins ver sz bw := ⟨⟨_, _, hH, hhw⟩, hB, hTJ, hEJ, hN, ⟨_, ⟨_, _, _, _, _, _, _, _, _, _, hKS⟩, hco⟩, ⟨_, _, _, hPS, hLK0⟩, hSP, hV5, ⟨_, hSL⟩, hRW, hJ, hFJ, hWJ, ⟨_, _, hOV, hovn, hovh⟩⟩
  refine q_callrB (xs := [(0, 1, 0), (6, 0, 0)]) (p2 := 27) rfl rfl rfl rfl (x_rcv_s 0 hH) rfl (zc_make_1  hGz1 (by omega) hpv (by omega) ) rfl (fun w1 φ1 n1 sl1 hn1 hN1 hs1 hT1 hR1 => ?_)
  obtain ⟨hwz1, hGr1⟩ := hR1
  subst hwz1
  have hG := hGr1
  skip
  obtain ⟨⟨hand, ie, hH, hhw⟩, hB, hTJ, hEJ, hN, hKJ, ⟨A, B, s9, hPS, hLK0⟩, hSP, hV5, ⟨slq, hSL⟩, hRW, hJ, hFJ, hWJ, ⟨ovn, ovh, hOV, hovn, hovh⟩⟩ := hG
  refine x_n_lt (fun hlt0 => ?_)
  have hmade := x_PS_lt hPS
  obtain ⟨co, ⟨top_, fr_, pc_, mm, st, lo, re, rs, fl, se, hKS⟩, hco⟩ := hKJ
  exact q_retv (v := (0, 4294967282, 0)) rfl rfl (⟨rfl, ⟨by omega, by omega⟩, ⟨by omega, by omega⟩, _, rfl, ⟨⟨_, _, hH, hhw⟩, hB, hTJ, hEJ, hN, ⟨_, ⟨_, _, _, _, _, _, _, _, _, _, hKS⟩, hco⟩, ⟨_, _, _, hPS, hLK0⟩, hSP, hV5, ⟨_, hSL⟩, hRW, hJ, hFJ, hWJ, ⟨_, _, hOV, hovn, hovh⟩⟩⟩)
set_option maxHeartbeats 1000000 in
theorem zc_call_0br {d n sl : Nat} {φ : FH} {tp : Nat → Nat} {lf : Nat} {mi : Nat} {made : Nat} {sv : Nat} {svm : Nat} {comb : Nat → Nat} {hm : Nat → MV} {sc : Nat → Nat} {sm : Nat → MV} {mh : MV} {noted : Nat} {verd : Nat} {ins : Nat → Nat} {ver : Nat → Nat} {sz : Nat} {bw : Nat → Nat} {x : Nat} {s4 s7 i j : Nat}  (hG : zG φ 0 tp lf mi made sv svm comb hm sc sm mh noted verd ins ver sz bw) (hn0 : 486 ≤ n) (hpv : ∀ i, x_pv2 (hm i)) (hmi : mi + 300 ≤ 20000) (hx32 : x < 4294967296) (hf0 : x >>> 4 = s4) (hf1 : s4 &&& 7 = i) (hf2 : x >>> 7 = s7) (hf3 : s7 &&& 7 = j) (hf4 : x &&& 15 = 0) (hf5 : i &&& 1 = 1) (hi : i < 8) (hj : j < 8) (hroom : made < 40) : x_f x_P (d + 6) 4 [(6, 0, 0), (0, x, 0), (11, 0, 0), (11, 0, 0), (11, 0, 0)] φ n sl (x_bR n sl 0 0 (fun zw φ2 => ∃ tpZ : Nat → Nat, zw = (0, made, 0) ∧ zG φ2 0 tpZ lf mi (made + 1) sv svm (x_s comb made 3) (x_em made hm) sc sm mh noted verd ins ver sz bw)) := by
  refine x_f_of rfl ?_
  have hG0 := hG
  obtain ⟨⟨hand, ie, hH, hhw⟩, hB, hTJ, hEJ, hN, hKJ, ⟨A, B, s9, hPS, hLK0⟩, hSP, hV5, ⟨slq, hSL⟩, hRW, hJ, hFJ, hWJ, ⟨ovn, ovh, hOV, hovn, hovh⟩⟩ := hG
  refine x_n_lt (fun hlt0 => ?_)
  have hmade := x_PS_lt hPS
  obtain ⟨co, ⟨top_, fr_, pc_, mm, st, lo, re, rs, fl, se, hKS⟩, hco⟩ := hKJ
  refine q_load (v := (0, x, 0)) (p2 := 1) rfl rfl rfl rfl ?_
  refine q_const (p2 := 2) rfl rfl ?_
  refine q_iushrz (z := s4) (p2 := 3) rfl (by omega) hf0 rfl ?_
  refine q_const (p2 := 4) rfl rfl ?_
  refine q_iandz (z := i) (p2 := 5) rfl hf1 (by omega) rfl ?_
  refine q_store (loc2 := [(6, 0, 0), (0, x, 0), (0, i, 0), (11, 0, 0), (11, 0, 0)]) (p2 := 6) rfl rfl rfl rfl rfl ?_
  refine q_load (v := (0, x, 0)) (p2 := 7) rfl rfl rfl rfl ?_
  refine q_const (p2 := 8) rfl rfl ?_
  refine q_iushrz (z := s7) (p2 := 9) rfl (by omega) hf2 rfl ?_
  refine q_const (p2 := 10) rfl rfl ?_
  refine q_iandz (z := j) (p2 := 11) rfl hf3 (by omega) rfl ?_
  refine q_store (loc2 := [(6, 0, 0), (0, x, 0), (0, i, 0), (0, j, 0), (11, 0, 0)]) (p2 := 12) rfl rfl rfl rfl rfl ?_
  refine q_const (p2 := 13) rfl rfl ?_
  refine q_store (loc2 := [(6, 0, 0), (0, x, 0), (0, i, 0), (0, j, 0), (0, 1, 0)]) (p2 := 14) rfl rfl rfl rfl rfl ?_
  refine q_load (v := (0, x, 0)) (p2 := 15) rfl rfl rfl rfl ?_
  refine q_const (p2 := 16) rfl rfl ?_
  refine q_iandz (z := 0) (p2 := 17) rfl hf4 (by omega) rfl ?_
  refine q_switch (tgt := 18) rfl (by decide) rfl ?_
  refine q_load (v := (6, 0, 0)) (p2 := 19) rfl rfl rfl rfl ?_
  refine q_const (p2 := 20) rfl rfl ?_
  refine q_load (v := (0, i, 0)) (p2 := 21) rfl rfl rfl rfl ?_
  refine q_const (p2 := 22) rfl rfl ?_
  refine q_iandz (z := 1) (p2 := 23) rfl hf5 (by omega) rfl ?_
  refine q_const (p2 := 24) rfl rfl ?_
  refine q_iop (w := 1 * 2) (z := 2) (p2 := 25) rfl (xo_mul 1 2) (by decide) rfl ?_
  refine q_iop (w := 1 + 2) (z := 3) (p2 := 26) rfl (xo_add 1 2) (by decide) rfl ?_
  have hGz1 : zG φ 0 tp lf mi made sv svm comb hm sc sm mh noted verd ins ver sz bw := ⟨⟨_, _, hH, hhw⟩, hB, hTJ, hEJ, hN, ⟨_, ⟨_, _, _, _, _, _, _, _, _, _, hKS⟩, hco⟩, ⟨_, _, _, hPS, hLK0⟩, hSP, hV5, ⟨_, hSL⟩, hRW, hJ, hFJ, hWJ, ⟨_, _, hOV, hovn, hovh⟩⟩
  refine q_callrB (xs := [(0, 3, 0), (6, 0, 0)]) (p2 := 27) rfl rfl rfl rfl (x_rcv_s 0 hH) rfl (zc_make_3  hGz1 (by omega) hpv (by omega) hroom) rfl (fun w1 φ1 n1 sl1 hn1 hN1 hs1 hT1 hR1 => ?_)
  obtain ⟨hwz1, hGr1⟩ := hR1
  subst hwz1
  have hG := hGr1
  skip
  obtain ⟨⟨hand, ie, hH, hhw⟩, hB, hTJ, hEJ, hN, hKJ, ⟨A, B, s9, hPS, hLK0⟩, hSP, hV5, ⟨slq, hSL⟩, hRW, hJ, hFJ, hWJ, ⟨ovn, ovh, hOV, hovn, hovh⟩⟩ := hG
  refine x_n_lt (fun hlt0 => ?_)
  have hmade := x_PS_lt hPS
  obtain ⟨co, ⟨top_, fr_, pc_, mm, st, lo, re, rs, fl, se, hKS⟩, hco⟩ := hKJ
  exact q_retv (v := (0, made, 0)) rfl rfl (⟨rfl, ⟨by omega, by omega⟩, ⟨by omega, by omega⟩, _, rfl, ⟨⟨_, _, hH, hhw⟩, hB, hTJ, hEJ, hN, ⟨_, ⟨_, _, _, _, _, _, _, _, _, _, hKS⟩, hco⟩, ⟨_, _, _, hPS, hLK0⟩, hSP, hV5, ⟨_, hSL⟩, hRW, hJ, hFJ, hWJ, ⟨_, _, hOV, hovn, hovh⟩⟩⟩)
set_option maxHeartbeats 1000000 in
theorem zc_call_1ar {d n sl : Nat} {φ : FH} {tp : Nat → Nat} {lf : Nat} {mi : Nat} {made : Nat} {sv : Nat} {svm : Nat} {comb : Nat → Nat} {hm : Nat → MV} {sc : Nat → Nat} {sm : Nat → MV} {mh : MV} {noted : Nat} {verd : Nat} {ins : Nat → Nat} {ver : Nat → Nat} {sz : Nat} {bw : Nat → Nat} {x : Nat} {s4 s7 i j : Nat}  (hG : zG φ 0 tp lf mi made sv svm comb hm sc sm mh noted verd ins ver sz bw) (hn0 : 486 ≤ n) (hpv : ∀ i, x_pv2 (hm i)) (hmi : mi + 300 ≤ 20000) (hx32 : x < 4294967296) (hf0 : x >>> 4 = s4) (hf1 : s4 &&& 7 = i) (hf2 : x >>> 7 = s7) (hf3 : s7 &&& 7 = j) (hf4 : x &&& 15 = 1) (hf5 : i &&& 1 = 0) (hi : i < 8) (hj : j < 8) (hroom : made < 40) : x_f x_P (d + 6) 4 [(6, 0, 0), (0, x, 0), (11, 0, 0), (11, 0, 0), (11, 0, 0)] φ n sl (x_bR n sl 0 0 (fun zw φ2 => ∃ tpZ : Nat → Nat, zw = (0, made, 0) ∧ zG φ2 0 tpZ lf mi (made + 1) sv svm (x_s comb made 3) (x_em made hm) sc sm mh noted verd ins ver sz bw)) := by
  refine x_f_of rfl ?_
  have hG0 := hG
  obtain ⟨⟨hand, ie, hH, hhw⟩, hB, hTJ, hEJ, hN, hKJ, ⟨A, B, s9, hPS, hLK0⟩, hSP, hV5, ⟨slq, hSL⟩, hRW, hJ, hFJ, hWJ, ⟨ovn, ovh, hOV, hovn, hovh⟩⟩ := hG
  refine x_n_lt (fun hlt0 => ?_)
  have hmade := x_PS_lt hPS
  obtain ⟨co, ⟨top_, fr_, pc_, mm, st, lo, re, rs, fl, se, hKS⟩, hco⟩ := hKJ
  refine q_load (v := (0, x, 0)) (p2 := 1) rfl rfl rfl rfl ?_
  refine q_const (p2 := 2) rfl rfl ?_
  refine q_iushrz (z := s4) (p2 := 3) rfl (by omega) hf0 rfl ?_
  refine q_const (p2 := 4) rfl rfl ?_
  refine q_iandz (z := i) (p2 := 5) rfl hf1 (by omega) rfl ?_
  refine q_store (loc2 := [(6, 0, 0), (0, x, 0), (0, i, 0), (11, 0, 0), (11, 0, 0)]) (p2 := 6) rfl rfl rfl rfl rfl ?_
  refine q_load (v := (0, x, 0)) (p2 := 7) rfl rfl rfl rfl ?_
  refine q_const (p2 := 8) rfl rfl ?_
  refine q_iushrz (z := s7) (p2 := 9) rfl (by omega) hf2 rfl ?_
  refine q_const (p2 := 10) rfl rfl ?_
  refine q_iandz (z := j) (p2 := 11) rfl hf3 (by omega) rfl ?_
  refine q_store (loc2 := [(6, 0, 0), (0, x, 0), (0, i, 0), (0, j, 0), (11, 0, 0)]) (p2 := 12) rfl rfl rfl rfl rfl ?_
  refine q_const (p2 := 13) rfl rfl ?_
  refine q_store (loc2 := [(6, 0, 0), (0, x, 0), (0, i, 0), (0, j, 0), (0, 1, 0)]) (p2 := 14) rfl rfl rfl rfl rfl ?_
  refine q_load (v := (0, x, 0)) (p2 := 15) rfl rfl rfl rfl ?_
  refine q_const (p2 := 16) rfl rfl ?_
  refine q_iandz (z := 1) (p2 := 17) rfl hf4 (by omega) rfl ?_
  refine q_switch (tgt := 28) rfl (by decide) rfl ?_
  refine q_load (v := (6, 0, 0)) (p2 := 29) rfl rfl rfl rfl ?_
  refine q_load (v := (0, i, 0)) (p2 := 30) rfl rfl rfl rfl ?_
  refine q_const (p2 := 31) rfl rfl ?_
  refine q_iandz (z := 0) (p2 := 32) rfl hf5 (by omega) rfl ?_
  refine q_if0_s (p2 := 33) rfl (by decide) (by omega) rfl (fun hb => absurd hb (show ¬ (¬ (0 = 0)) by omega)) (fun _ => ?_)
  refine q_const (p2 := 34) rfl rfl ?_
  refine q_goto rfl ?_
  have hGz1 : zG φ 0 tp lf mi made sv svm comb hm sc sm mh noted verd ins ver sz bw := ⟨⟨_, _, hH, hhw⟩, hB, hTJ, hEJ, hN, ⟨_, ⟨_, _, _, _, _, _, _, _, _, _, hKS⟩, hco⟩, ⟨_, _, _, hPS, hLK0⟩, hSP, hV5, ⟨_, hSL⟩, hRW, hJ, hFJ, hWJ, ⟨_, _, hOV, hovn, hovh⟩⟩
  refine q_callrB (xs := [(0, 3, 0), (6, 0, 0)]) (p2 := 37) rfl rfl rfl rfl (x_rcv_s 0 hH) rfl (zc_make_3  hGz1 (by omega) hpv (by omega) hroom) rfl (fun w1 φ1 n1 sl1 hn1 hN1 hs1 hT1 hR1 => ?_)
  obtain ⟨hwz1, hGr1⟩ := hR1
  subst hwz1
  have hG := hGr1
  skip
  obtain ⟨⟨hand, ie, hH, hhw⟩, hB, hTJ, hEJ, hN, hKJ, ⟨A, B, s9, hPS, hLK0⟩, hSP, hV5, ⟨slq, hSL⟩, hRW, hJ, hFJ, hWJ, ⟨ovn, ovh, hOV, hovn, hovh⟩⟩ := hG
  refine x_n_lt (fun hlt0 => ?_)
  have hmade := x_PS_lt hPS
  obtain ⟨co, ⟨top_, fr_, pc_, mm, st, lo, re, rs, fl, se, hKS⟩, hco⟩ := hKJ
  exact q_retv (v := (0, made, 0)) rfl rfl (⟨rfl, ⟨by omega, by omega⟩, ⟨by omega, by omega⟩, _, rfl, ⟨⟨_, _, hH, hhw⟩, hB, hTJ, hEJ, hN, ⟨_, ⟨_, _, _, _, _, _, _, _, _, _, hKS⟩, hco⟩, ⟨_, _, _, hPS, hLK0⟩, hSP, hV5, ⟨_, hSL⟩, hRW, hJ, hFJ, hWJ, ⟨_, _, hOV, hovn, hovh⟩⟩⟩)
set_option maxHeartbeats 1000000 in
theorem zc_call_1br {d n sl : Nat} {φ : FH} {tp : Nat → Nat} {lf : Nat} {mi : Nat} {made : Nat} {sv : Nat} {svm : Nat} {comb : Nat → Nat} {hm : Nat → MV} {sc : Nat → Nat} {sm : Nat → MV} {mh : MV} {noted : Nat} {verd : Nat} {ins : Nat → Nat} {ver : Nat → Nat} {sz : Nat} {bw : Nat → Nat} {x : Nat} {s4 s7 i j : Nat}  (hG : zG φ 0 tp lf mi made sv svm comb hm sc sm mh noted verd ins ver sz bw) (hn0 : 486 ≤ n) (hpv : ∀ i, x_pv2 (hm i)) (hmi : mi + 300 ≤ 20000) (hx32 : x < 4294967296) (hf0 : x >>> 4 = s4) (hf1 : s4 &&& 7 = i) (hf2 : x >>> 7 = s7) (hf3 : s7 &&& 7 = j) (hf4 : x &&& 15 = 1) (hf5 : i &&& 1 = 1) (hi : i < 8) (hj : j < 8) (hroom : made < 40) : x_f x_P (d + 6) 4 [(6, 0, 0), (0, x, 0), (11, 0, 0), (11, 0, 0), (11, 0, 0)] φ n sl (x_bR n sl 0 0 (fun zw φ2 => ∃ tpZ : Nat → Nat, zw = (0, made, 0) ∧ zG φ2 0 tpZ lf mi (made + 1) sv svm (x_s comb made 5) (x_em made hm) sc sm mh noted verd ins ver sz bw)) := by
  refine x_f_of rfl ?_
  have hG0 := hG
  obtain ⟨⟨hand, ie, hH, hhw⟩, hB, hTJ, hEJ, hN, hKJ, ⟨A, B, s9, hPS, hLK0⟩, hSP, hV5, ⟨slq, hSL⟩, hRW, hJ, hFJ, hWJ, ⟨ovn, ovh, hOV, hovn, hovh⟩⟩ := hG
  refine x_n_lt (fun hlt0 => ?_)
  have hmade := x_PS_lt hPS
  obtain ⟨co, ⟨top_, fr_, pc_, mm, st, lo, re, rs, fl, se, hKS⟩, hco⟩ := hKJ
  refine q_load (v := (0, x, 0)) (p2 := 1) rfl rfl rfl rfl ?_
  refine q_const (p2 := 2) rfl rfl ?_
  refine q_iushrz (z := s4) (p2 := 3) rfl (by omega) hf0 rfl ?_
  refine q_const (p2 := 4) rfl rfl ?_
  refine q_iandz (z := i) (p2 := 5) rfl hf1 (by omega) rfl ?_
  refine q_store (loc2 := [(6, 0, 0), (0, x, 0), (0, i, 0), (11, 0, 0), (11, 0, 0)]) (p2 := 6) rfl rfl rfl rfl rfl ?_
  refine q_load (v := (0, x, 0)) (p2 := 7) rfl rfl rfl rfl ?_
  refine q_const (p2 := 8) rfl rfl ?_
  refine q_iushrz (z := s7) (p2 := 9) rfl (by omega) hf2 rfl ?_
  refine q_const (p2 := 10) rfl rfl ?_
  refine q_iandz (z := j) (p2 := 11) rfl hf3 (by omega) rfl ?_
  refine q_store (loc2 := [(6, 0, 0), (0, x, 0), (0, i, 0), (0, j, 0), (11, 0, 0)]) (p2 := 12) rfl rfl rfl rfl rfl ?_
  refine q_const (p2 := 13) rfl rfl ?_
  refine q_store (loc2 := [(6, 0, 0), (0, x, 0), (0, i, 0), (0, j, 0), (0, 1, 0)]) (p2 := 14) rfl rfl rfl rfl rfl ?_
  refine q_load (v := (0, x, 0)) (p2 := 15) rfl rfl rfl rfl ?_
  refine q_const (p2 := 16) rfl rfl ?_
  refine q_iandz (z := 1) (p2 := 17) rfl hf4 (by omega) rfl ?_
  refine q_switch (tgt := 28) rfl (by decide) rfl ?_
  refine q_load (v := (6, 0, 0)) (p2 := 29) rfl rfl rfl rfl ?_
  refine q_load (v := (0, i, 0)) (p2 := 30) rfl rfl rfl rfl ?_
  refine q_const (p2 := 31) rfl rfl ?_
  refine q_iandz (z := 1) (p2 := 32) rfl hf5 (by omega) rfl ?_
  refine q_if0_s (p2 := 33) rfl (by decide) (by omega) rfl (fun _ => ?_) (fun hb => absurd (show ¬ (1 = 0) by omega) hb)
  refine q_const (p2 := 36) rfl rfl ?_
  have hGz1 : zG φ 0 tp lf mi made sv svm comb hm sc sm mh noted verd ins ver sz bw := ⟨⟨_, _, hH, hhw⟩, hB, hTJ, hEJ, hN, ⟨_, ⟨_, _, _, _, _, _, _, _, _, _, hKS⟩, hco⟩, ⟨_, _, _, hPS, hLK0⟩, hSP, hV5, ⟨_, hSL⟩, hRW, hJ, hFJ, hWJ, ⟨_, _, hOV, hovn, hovh⟩⟩
  refine q_callrB (xs := [(0, 5, 0), (6, 0, 0)]) (p2 := 37) rfl rfl rfl rfl (x_rcv_s 0 hH) rfl (zc_make_5  hGz1 (by omega) hpv (by omega) hroom) rfl (fun w1 φ1 n1 sl1 hn1 hN1 hs1 hT1 hR1 => ?_)
  obtain ⟨hwz1, hGr1⟩ := hR1
  subst hwz1
  have hG := hGr1
  skip
  obtain ⟨⟨hand, ie, hH, hhw⟩, hB, hTJ, hEJ, hN, hKJ, ⟨A, B, s9, hPS, hLK0⟩, hSP, hV5, ⟨slq, hSL⟩, hRW, hJ, hFJ, hWJ, ⟨ovn, ovh, hOV, hovn, hovh⟩⟩ := hG
  refine x_n_lt (fun hlt0 => ?_)
  have hmade := x_PS_lt hPS
  obtain ⟨co, ⟨top_, fr_, pc_, mm, st, lo, re, rs, fl, se, hKS⟩, hco⟩ := hKJ
  exact q_retv (v := (0, made, 0)) rfl rfl (⟨rfl, ⟨by omega, by omega⟩, ⟨by omega, by omega⟩, _, rfl, ⟨⟨_, _, hH, hhw⟩, hB, hTJ, hEJ, hN, ⟨_, ⟨_, _, _, _, _, _, _, _, _, _, hKS⟩, hco⟩, ⟨_, _, _, hPS, hLK0⟩, hSP, hV5, ⟨_, hSL⟩, hRW, hJ, hFJ, hWJ, ⟨_, _, hOV, hovn, hovh⟩⟩⟩)
set_option maxHeartbeats 1000000 in
theorem zc_call_0bf {d n sl : Nat} {φ : FH} {tp : Nat → Nat} {lf : Nat} {mi : Nat} {made : Nat} {sv : Nat} {svm : Nat} {comb : Nat → Nat} {hm : Nat → MV} {sc : Nat → Nat} {sm : Nat → MV} {mh : MV} {noted : Nat} {verd : Nat} {ins : Nat → Nat} {ver : Nat → Nat} {sz : Nat} {bw : Nat → Nat} {x : Nat} {s4 s7 i j : Nat}  (hG : zG φ 0 tp lf mi made sv svm comb hm sc sm mh noted verd ins ver sz bw) (hn0 : 486 ≤ n) (hpv : ∀ i, x_pv2 (hm i)) (hmi : mi + 300 ≤ 20000) (hx32 : x < 4294967296) (hf0 : x >>> 4 = s4) (hf1 : s4 &&& 7 = i) (hf2 : x >>> 7 = s7) (hf3 : s7 &&& 7 = j) (hf4 : x &&& 15 = 0) (hf5 : i &&& 1 = 1) (hi : i < 8) (hj : j < 8) (hroom : made = 40) : x_f x_P (d + 6) 4 [(6, 0, 0), (0, x, 0), (11, 0, 0), (11, 0, 0), (11, 0, 0)] φ n sl (x_bR n sl 0 0 (fun zw φ2 => ∃ tpZ : Nat → Nat, zw = (0, 4294967294, 0) ∧ zG φ2 0 tpZ lf mi made sv svm comb hm sc sm mh noted verd ins ver sz bw)) := by
  refine x_f_of rfl ?_
  have hG0 := hG
  obtain ⟨⟨hand, ie, hH, hhw⟩, hB, hTJ, hEJ, hN, hKJ, ⟨A, B, s9, hPS, hLK0⟩, hSP, hV5, ⟨slq, hSL⟩, hRW, hJ, hFJ, hWJ, ⟨ovn, ovh, hOV, hovn, hovh⟩⟩ := hG
  refine x_n_lt (fun hlt0 => ?_)
  have hmade := x_PS_lt hPS
  obtain ⟨co, ⟨top_, fr_, pc_, mm, st, lo, re, rs, fl, se, hKS⟩, hco⟩ := hKJ
  refine q_load (v := (0, x, 0)) (p2 := 1) rfl rfl rfl rfl ?_
  refine q_const (p2 := 2) rfl rfl ?_
  refine q_iushrz (z := s4) (p2 := 3) rfl (by omega) hf0 rfl ?_
  refine q_const (p2 := 4) rfl rfl ?_
  refine q_iandz (z := i) (p2 := 5) rfl hf1 (by omega) rfl ?_
  refine q_store (loc2 := [(6, 0, 0), (0, x, 0), (0, i, 0), (11, 0, 0), (11, 0, 0)]) (p2 := 6) rfl rfl rfl rfl rfl ?_
  refine q_load (v := (0, x, 0)) (p2 := 7) rfl rfl rfl rfl ?_
  refine q_const (p2 := 8) rfl rfl ?_
  refine q_iushrz (z := s7) (p2 := 9) rfl (by omega) hf2 rfl ?_
  refine q_const (p2 := 10) rfl rfl ?_
  refine q_iandz (z := j) (p2 := 11) rfl hf3 (by omega) rfl ?_
  refine q_store (loc2 := [(6, 0, 0), (0, x, 0), (0, i, 0), (0, j, 0), (11, 0, 0)]) (p2 := 12) rfl rfl rfl rfl rfl ?_
  refine q_const (p2 := 13) rfl rfl ?_
  refine q_store (loc2 := [(6, 0, 0), (0, x, 0), (0, i, 0), (0, j, 0), (0, 1, 0)]) (p2 := 14) rfl rfl rfl rfl rfl ?_
  refine q_load (v := (0, x, 0)) (p2 := 15) rfl rfl rfl rfl ?_
  refine q_const (p2 := 16) rfl rfl ?_
  refine q_iandz (z := 0) (p2 := 17) rfl hf4 (by omega) rfl ?_
  refine q_switch (tgt := 18) rfl (by decide) rfl ?_
  refine q_load (v := (6, 0, 0)) (p2 := 19) rfl rfl rfl rfl ?_
  refine q_const (p2 := 20) rfl rfl ?_
  refine q_load (v := (0, i, 0)) (p2 := 21) rfl rfl rfl rfl ?_
  refine q_const (p2 := 22) rfl rfl ?_
  refine q_iandz (z := 1) (p2 := 23) rfl hf5 (by omega) rfl ?_
  refine q_const (p2 := 24) rfl rfl ?_
  refine q_iop (w := 1 * 2) (z := 2) (p2 := 25) rfl (xo_mul 1 2) (by decide) rfl ?_
  refine q_iop (w := 1 + 2) (z := 3) (p2 := 26) rfl (xo_add 1 2) (by decide) rfl ?_
  have hGz1 : zG φ 0 tp lf mi made sv svm comb hm sc sm mh noted verd ins ver sz bw := ⟨⟨_, _, hH, hhw⟩, hB, hTJ, hEJ, hN, ⟨_, ⟨_, _, _, _, _, _, _, _, _, _, hKS⟩, hco⟩, ⟨_, _, _, hPS, hLK0⟩, hSP, hV5, ⟨_, hSL⟩, hRW, hJ, hFJ, hWJ, ⟨_, _, hOV, hovn, hovh⟩⟩
  refine q_callrB (xs := [(0, 3, 0), (6, 0, 0)]) (p2 := 27) rfl rfl rfl rfl (x_rcv_s 0 hH) rfl (zc_make_3_full  hGz1 (by omega) hpv (by omega) hroom) rfl (fun w1 φ1 n1 sl1 hn1 hN1 hs1 hT1 hR1 => ?_)
  obtain ⟨hwz1, hGr1⟩ := hR1
  subst hwz1
  have hG := hGr1
  skip
  obtain ⟨⟨hand, ie, hH, hhw⟩, hB, hTJ, hEJ, hN, hKJ, ⟨A, B, s9, hPS, hLK0⟩, hSP, hV5, ⟨slq, hSL⟩, hRW, hJ, hFJ, hWJ, ⟨ovn, ovh, hOV, hovn, hovh⟩⟩ := hG
  refine x_n_lt (fun hlt0 => ?_)
  have hmade := x_PS_lt hPS
  obtain ⟨co, ⟨top_, fr_, pc_, mm, st, lo, re, rs, fl, se, hKS⟩, hco⟩ := hKJ
  exact q_retv (v := (0, 4294967294, 0)) rfl rfl (⟨rfl, ⟨by omega, by omega⟩, ⟨by omega, by omega⟩, _, rfl, ⟨⟨_, _, hH, hhw⟩, hB, hTJ, hEJ, hN, ⟨_, ⟨_, _, _, _, _, _, _, _, _, _, hKS⟩, hco⟩, ⟨_, _, _, hPS, hLK0⟩, hSP, hV5, ⟨_, hSL⟩, hRW, hJ, hFJ, hWJ, ⟨_, _, hOV, hovn, hovh⟩⟩⟩)
set_option maxHeartbeats 1000000 in
theorem zc_call_1af {d n sl : Nat} {φ : FH} {tp : Nat → Nat} {lf : Nat} {mi : Nat} {made : Nat} {sv : Nat} {svm : Nat} {comb : Nat → Nat} {hm : Nat → MV} {sc : Nat → Nat} {sm : Nat → MV} {mh : MV} {noted : Nat} {verd : Nat} {ins : Nat → Nat} {ver : Nat → Nat} {sz : Nat} {bw : Nat → Nat} {x : Nat} {s4 s7 i j : Nat}  (hG : zG φ 0 tp lf mi made sv svm comb hm sc sm mh noted verd ins ver sz bw) (hn0 : 486 ≤ n) (hpv : ∀ i, x_pv2 (hm i)) (hmi : mi + 300 ≤ 20000) (hx32 : x < 4294967296) (hf0 : x >>> 4 = s4) (hf1 : s4 &&& 7 = i) (hf2 : x >>> 7 = s7) (hf3 : s7 &&& 7 = j) (hf4 : x &&& 15 = 1) (hf5 : i &&& 1 = 0) (hi : i < 8) (hj : j < 8) (hroom : made = 40) : x_f x_P (d + 6) 4 [(6, 0, 0), (0, x, 0), (11, 0, 0), (11, 0, 0), (11, 0, 0)] φ n sl (x_bR n sl 0 0 (fun zw φ2 => ∃ tpZ : Nat → Nat, zw = (0, 4294967294, 0) ∧ zG φ2 0 tpZ lf mi made sv svm comb hm sc sm mh noted verd ins ver sz bw)) := by
  refine x_f_of rfl ?_
  have hG0 := hG
  obtain ⟨⟨hand, ie, hH, hhw⟩, hB, hTJ, hEJ, hN, hKJ, ⟨A, B, s9, hPS, hLK0⟩, hSP, hV5, ⟨slq, hSL⟩, hRW, hJ, hFJ, hWJ, ⟨ovn, ovh, hOV, hovn, hovh⟩⟩ := hG
  refine x_n_lt (fun hlt0 => ?_)
  have hmade := x_PS_lt hPS
  obtain ⟨co, ⟨top_, fr_, pc_, mm, st, lo, re, rs, fl, se, hKS⟩, hco⟩ := hKJ
  refine q_load (v := (0, x, 0)) (p2 := 1) rfl rfl rfl rfl ?_
  refine q_const (p2 := 2) rfl rfl ?_
  refine q_iushrz (z := s4) (p2 := 3) rfl (by omega) hf0 rfl ?_
  refine q_const (p2 := 4) rfl rfl ?_
  refine q_iandz (z := i) (p2 := 5) rfl hf1 (by omega) rfl ?_
  refine q_store (loc2 := [(6, 0, 0), (0, x, 0), (0, i, 0), (11, 0, 0), (11, 0, 0)]) (p2 := 6) rfl rfl rfl rfl rfl ?_
  refine q_load (v := (0, x, 0)) (p2 := 7) rfl rfl rfl rfl ?_
  refine q_const (p2 := 8) rfl rfl ?_
  refine q_iushrz (z := s7) (p2 := 9) rfl (by omega) hf2 rfl ?_
  refine q_const (p2 := 10) rfl rfl ?_
  refine q_iandz (z := j) (p2 := 11) rfl hf3 (by omega) rfl ?_
  refine q_store (loc2 := [(6, 0, 0), (0, x, 0), (0, i, 0), (0, j, 0), (11, 0, 0)]) (p2 := 12) rfl rfl rfl rfl rfl ?_
  refine q_const (p2 := 13) rfl rfl ?_
  refine q_store (loc2 := [(6, 0, 0), (0, x, 0), (0, i, 0), (0, j, 0), (0, 1, 0)]) (p2 := 14) rfl rfl rfl rfl rfl ?_
  refine q_load (v := (0, x, 0)) (p2 := 15) rfl rfl rfl rfl ?_
  refine q_const (p2 := 16) rfl rfl ?_
  refine q_iandz (z := 1) (p2 := 17) rfl hf4 (by omega) rfl ?_
  refine q_switch (tgt := 28) rfl (by decide) rfl ?_
  refine q_load (v := (6, 0, 0)) (p2 := 29) rfl rfl rfl rfl ?_
  refine q_load (v := (0, i, 0)) (p2 := 30) rfl rfl rfl rfl ?_
  refine q_const (p2 := 31) rfl rfl ?_
  refine q_iandz (z := 0) (p2 := 32) rfl hf5 (by omega) rfl ?_
  refine q_if0_s (p2 := 33) rfl (by decide) (by omega) rfl (fun hb => absurd hb (show ¬ (¬ (0 = 0)) by omega)) (fun _ => ?_)
  refine q_const (p2 := 34) rfl rfl ?_
  refine q_goto rfl ?_
  have hGz1 : zG φ 0 tp lf mi made sv svm comb hm sc sm mh noted verd ins ver sz bw := ⟨⟨_, _, hH, hhw⟩, hB, hTJ, hEJ, hN, ⟨_, ⟨_, _, _, _, _, _, _, _, _, _, hKS⟩, hco⟩, ⟨_, _, _, hPS, hLK0⟩, hSP, hV5, ⟨_, hSL⟩, hRW, hJ, hFJ, hWJ, ⟨_, _, hOV, hovn, hovh⟩⟩
  refine q_callrB (xs := [(0, 3, 0), (6, 0, 0)]) (p2 := 37) rfl rfl rfl rfl (x_rcv_s 0 hH) rfl (zc_make_3_full  hGz1 (by omega) hpv (by omega) hroom) rfl (fun w1 φ1 n1 sl1 hn1 hN1 hs1 hT1 hR1 => ?_)
  obtain ⟨hwz1, hGr1⟩ := hR1
  subst hwz1
  have hG := hGr1
  skip
  obtain ⟨⟨hand, ie, hH, hhw⟩, hB, hTJ, hEJ, hN, hKJ, ⟨A, B, s9, hPS, hLK0⟩, hSP, hV5, ⟨slq, hSL⟩, hRW, hJ, hFJ, hWJ, ⟨ovn, ovh, hOV, hovn, hovh⟩⟩ := hG
  refine x_n_lt (fun hlt0 => ?_)
  have hmade := x_PS_lt hPS
  obtain ⟨co, ⟨top_, fr_, pc_, mm, st, lo, re, rs, fl, se, hKS⟩, hco⟩ := hKJ
  exact q_retv (v := (0, 4294967294, 0)) rfl rfl (⟨rfl, ⟨by omega, by omega⟩, ⟨by omega, by omega⟩, _, rfl, ⟨⟨_, _, hH, hhw⟩, hB, hTJ, hEJ, hN, ⟨_, ⟨_, _, _, _, _, _, _, _, _, _, hKS⟩, hco⟩, ⟨_, _, _, hPS, hLK0⟩, hSP, hV5, ⟨_, hSL⟩, hRW, hJ, hFJ, hWJ, ⟨_, _, hOV, hovn, hovh⟩⟩⟩)
set_option maxHeartbeats 1000000 in
theorem zc_call_1bf {d n sl : Nat} {φ : FH} {tp : Nat → Nat} {lf : Nat} {mi : Nat} {made : Nat} {sv : Nat} {svm : Nat} {comb : Nat → Nat} {hm : Nat → MV} {sc : Nat → Nat} {sm : Nat → MV} {mh : MV} {noted : Nat} {verd : Nat} {ins : Nat → Nat} {ver : Nat → Nat} {sz : Nat} {bw : Nat → Nat} {x : Nat} {s4 s7 i j : Nat}  (hG : zG φ 0 tp lf mi made sv svm comb hm sc sm mh noted verd ins ver sz bw) (hn0 : 486 ≤ n) (hpv : ∀ i, x_pv2 (hm i)) (hmi : mi + 300 ≤ 20000) (hx32 : x < 4294967296) (hf0 : x >>> 4 = s4) (hf1 : s4 &&& 7 = i) (hf2 : x >>> 7 = s7) (hf3 : s7 &&& 7 = j) (hf4 : x &&& 15 = 1) (hf5 : i &&& 1 = 1) (hi : i < 8) (hj : j < 8) (hroom : made = 40) : x_f x_P (d + 6) 4 [(6, 0, 0), (0, x, 0), (11, 0, 0), (11, 0, 0), (11, 0, 0)] φ n sl (x_bR n sl 0 0 (fun zw φ2 => ∃ tpZ : Nat → Nat, zw = (0, 4294967294, 0) ∧ zG φ2 0 tpZ lf mi made sv svm comb hm sc sm mh noted verd ins ver sz bw)) := by
  refine x_f_of rfl ?_
  have hG0 := hG
  obtain ⟨⟨hand, ie, hH, hhw⟩, hB, hTJ, hEJ, hN, hKJ, ⟨A, B, s9, hPS, hLK0⟩, hSP, hV5, ⟨slq, hSL⟩, hRW, hJ, hFJ, hWJ, ⟨ovn, ovh, hOV, hovn, hovh⟩⟩ := hG
  refine x_n_lt (fun hlt0 => ?_)
  have hmade := x_PS_lt hPS
  obtain ⟨co, ⟨top_, fr_, pc_, mm, st, lo, re, rs, fl, se, hKS⟩, hco⟩ := hKJ
  refine q_load (v := (0, x, 0)) (p2 := 1) rfl rfl rfl rfl ?_
  refine q_const (p2 := 2) rfl rfl ?_
  refine q_iushrz (z := s4) (p2 := 3) rfl (by omega) hf0 rfl ?_
  refine q_const (p2 := 4) rfl rfl ?_
  refine q_iandz (z := i) (p2 := 5) rfl hf1 (by omega) rfl ?_
  refine q_store (loc2 := [(6, 0, 0), (0, x, 0), (0, i, 0), (11, 0, 0), (11, 0, 0)]) (p2 := 6) rfl rfl rfl rfl rfl ?_
  refine q_load (v := (0, x, 0)) (p2 := 7) rfl rfl rfl rfl ?_
  refine q_const (p2 := 8) rfl rfl ?_
  refine q_iushrz (z := s7) (p2 := 9) rfl (by omega) hf2 rfl ?_
  refine q_const (p2 := 10) rfl rfl ?_
  refine q_iandz (z := j) (p2 := 11) rfl hf3 (by omega) rfl ?_
  refine q_store (loc2 := [(6, 0, 0), (0, x, 0), (0, i, 0), (0, j, 0), (11, 0, 0)]) (p2 := 12) rfl rfl rfl rfl rfl ?_
  refine q_const (p2 := 13) rfl rfl ?_
  refine q_store (loc2 := [(6, 0, 0), (0, x, 0), (0, i, 0), (0, j, 0), (0, 1, 0)]) (p2 := 14) rfl rfl rfl rfl rfl ?_
  refine q_load (v := (0, x, 0)) (p2 := 15) rfl rfl rfl rfl ?_
  refine q_const (p2 := 16) rfl rfl ?_
  refine q_iandz (z := 1) (p2 := 17) rfl hf4 (by omega) rfl ?_
  refine q_switch (tgt := 28) rfl (by decide) rfl ?_
  refine q_load (v := (6, 0, 0)) (p2 := 29) rfl rfl rfl rfl ?_
  refine q_load (v := (0, i, 0)) (p2 := 30) rfl rfl rfl rfl ?_
  refine q_const (p2 := 31) rfl rfl ?_
  refine q_iandz (z := 1) (p2 := 32) rfl hf5 (by omega) rfl ?_
  refine q_if0_s (p2 := 33) rfl (by decide) (by omega) rfl (fun _ => ?_) (fun hb => absurd (show ¬ (1 = 0) by omega) hb)
  refine q_const (p2 := 36) rfl rfl ?_
  have hGz1 : zG φ 0 tp lf mi made sv svm comb hm sc sm mh noted verd ins ver sz bw := ⟨⟨_, _, hH, hhw⟩, hB, hTJ, hEJ, hN, ⟨_, ⟨_, _, _, _, _, _, _, _, _, _, hKS⟩, hco⟩, ⟨_, _, _, hPS, hLK0⟩, hSP, hV5, ⟨_, hSL⟩, hRW, hJ, hFJ, hWJ, ⟨_, _, hOV, hovn, hovh⟩⟩
  refine q_callrB (xs := [(0, 5, 0), (6, 0, 0)]) (p2 := 37) rfl rfl rfl rfl (x_rcv_s 0 hH) rfl (zc_make_5_full  hGz1 (by omega) hpv (by omega) hroom) rfl (fun w1 φ1 n1 sl1 hn1 hN1 hs1 hT1 hR1 => ?_)
  obtain ⟨hwz1, hGr1⟩ := hR1
  subst hwz1
  have hG := hGr1
  skip
  obtain ⟨⟨hand, ie, hH, hhw⟩, hB, hTJ, hEJ, hN, hKJ, ⟨A, B, s9, hPS, hLK0⟩, hSP, hV5, ⟨slq, hSL⟩, hRW, hJ, hFJ, hWJ, ⟨ovn, ovh, hOV, hovn, hovh⟩⟩ := hG
  refine x_n_lt (fun hlt0 => ?_)
  have hmade := x_PS_lt hPS
  obtain ⟨co, ⟨top_, fr_, pc_, mm, st, lo, re, rs, fl, se, hKS⟩, hco⟩ := hKJ
  exact q_retv (v := (0, 4294967294, 0)) rfl rfl (⟨rfl, ⟨by omega, by omega⟩, ⟨by omega, by omega⟩, _, rfl, ⟨⟨_, _, hH, hhw⟩, hB, hTJ, hEJ, hN, ⟨_, ⟨_, _, _, _, _, _, _, _, _, _, hKS⟩, hco⟩, ⟨_, _, _, hPS, hLK0⟩, hSP, hV5, ⟨_, hSL⟩, hRW, hJ, hFJ, hWJ, ⟨_, _, hOV, hovn, hovh⟩⟩⟩)
set_option maxHeartbeats 1000000 in
theorem zc_call_2_bad1 {d n sl : Nat} {φ : FH} {tp : Nat → Nat} {lf : Nat} {mi : Nat} {made : Nat} {sv : Nat} {svm : Nat} {comb : Nat → Nat} {hm : Nat → MV} {sc : Nat → Nat} {sm : Nat → MV} {mh : MV} {noted : Nat} {verd : Nat} {ins : Nat → Nat} {ver : Nat → Nat} {sz : Nat} {bw : Nat → Nat} {x : Nat} {s4 s7 i j : Nat} {s10 v : Nat} (hG : zG φ 0 tp lf mi made sv svm comb hm sc sm mh noted verd ins ver sz bw) (hn0 : 486 ≤ n) (hpv : ∀ i, x_pv2 (hm i)) (hmi : mi + 300 ≤ 20000) (hx32 : x < 4294967296) (hf0 : x >>> 4 = s4) (hf1 : s4 &&& 7 = i) (hf2 : x >>> 7 = s7) (hf3 : s7 &&& 7 = j) (hf4 : x &&& 15 = 2) (hf5 : x >>> 10 = s10) (hf6 : s10 &&& 1023 = v) (hi : i < 8) (hj : j < 8) (hv : 0 ≤ v ∧ v ≤ 9) (hna : ¬ x_isA made comb i 0) : x_f x_P (d + 5) 4 [(6, 0, 0), (0, x, 0), (11, 0, 0), (11, 0, 0), (11, 0, 0)] φ n sl (x_bR n sl 0 0 (fun zw φ2 => ∃ tpZ : Nat → Nat, zw = (0, 4294967295, 0) ∧ zG φ2 0 tpZ lf mi made sv svm comb hm sc sm mh noted verd ins ver sz bw)) := by
  refine x_f_of rfl ?_
  have hG0 := hG
  obtain ⟨⟨hand, ie, hH, hhw⟩, hB, hTJ, hEJ, hN, hKJ, ⟨A, B, s9, hPS, hLK0⟩, hSP, hV5, ⟨slq, hSL⟩, hRW, hJ, hFJ, hWJ, ⟨ovn, ovh, hOV, hovn, hovh⟩⟩ := hG
  refine x_n_lt (fun hlt0 => ?_)
  have hmade := x_PS_lt hPS
  obtain ⟨co, ⟨top_, fr_, pc_, mm, st, lo, re, rs, fl, se, hKS⟩, hco⟩ := hKJ
  refine q_load (v := (0, x, 0)) (p2 := 1) rfl rfl rfl rfl ?_
  refine q_const (p2 := 2) rfl rfl ?_
  refine q_iushrz (z := s4) (p2 := 3) rfl (by omega) hf0 rfl ?_
  refine q_const (p2 := 4) rfl rfl ?_
  refine q_iandz (z := i) (p2 := 5) rfl hf1 (by omega) rfl ?_
  refine q_store (loc2 := [(6, 0, 0), (0, x, 0), (0, i, 0), (11, 0, 0), (11, 0, 0)]) (p2 := 6) rfl rfl rfl rfl rfl ?_
  refine q_load (v := (0, x, 0)) (p2 := 7) rfl rfl rfl rfl ?_
  refine q_const (p2 := 8) rfl rfl ?_
  refine q_iushrz (z := s7) (p2 := 9) rfl (by omega) hf2 rfl ?_
  refine q_const (p2 := 10) rfl rfl ?_
  refine q_iandz (z := j) (p2 := 11) rfl hf3 (by omega) rfl ?_
  refine q_store (loc2 := [(6, 0, 0), (0, x, 0), (0, i, 0), (0, j, 0), (11, 0, 0)]) (p2 := 12) rfl rfl rfl rfl rfl ?_
  refine q_const (p2 := 13) rfl rfl ?_
  refine q_store (loc2 := [(6, 0, 0), (0, x, 0), (0, i, 0), (0, j, 0), (0, 1, 0)]) (p2 := 14) rfl rfl rfl rfl rfl ?_
  refine q_load (v := (0, x, 0)) (p2 := 15) rfl rfl rfl rfl ?_
  refine q_const (p2 := 16) rfl rfl ?_
  refine q_iandz (z := 2) (p2 := 17) rfl hf4 (by omega) rfl ?_
  refine q_switch (tgt := 38) rfl (by decide) rfl ?_
  refine q_load (v := (6, 0, 0)) (p2 := 39) rfl rfl rfl rfl ?_
  refine q_load (v := (0, x, 0)) (p2 := 40) rfl rfl rfl rfl ?_
  refine q_const (p2 := 41) rfl rfl ?_
  refine q_iushrz (z := s10) (p2 := 42) rfl (by omega) hf5 rfl ?_
  refine q_const (p2 := 43) rfl rfl ?_
  refine q_iandz (z := v) (p2 := 44) rfl hf6 (by omega) rfl ?_
  refine q_callrE (xs := [(0, v, 0), (6, 0, 0)]) (p2 := 45) rfl rfl rfl rfl (fun _ _ => rfl) rfl (zc_pn_1_0 hH hB (by omega) ) (Nat.le_refl _) (Nat.le_refl _) rfl (fun φ1 hR1 => ?_)
  obtain ⟨tpq1, hH1, hB1, hq1_0, fr1⟩ := hR1
  refine q_store (loc2 := [(6, 0, 0), (0, x, 0), (0, i, 0), (0, j, 0), (0, 1, 0)]) (p2 := 46) rfl rfl rfl rfl rfl ?_
  refine q_load (v := (6, 0, 0)) (p2 := 47) rfl rfl rfl rfl ?_
  refine q_load (v := (0, 1, 0)) (p2 := 48) rfl rfl rfl rfl ?_
  refine q_if0_s (p2 := 49) rfl (by decide) (by omega) rfl (fun hb => absurd hb (show ¬ (1 = 0) by omega)) (fun _ => ?_)
  refine q_load (v := (6, 0, 0)) (p2 := 50) rfl rfl rfl rfl ?_
  refine q_load (v := (0, i, 0)) (p2 := 51) rfl rfl rfl rfl ?_
  refine q_const (p2 := 52) rfl rfl ?_
  have hm2 := (zTJ_at hTJ (fun j h1 h2 => (fr1 j (by omega) (by omega))))
  have hm3 := (zEJ_at hEJ (fun j h1 h2 => (fr1 j (by omega) (by omega))))
  have hm4 := (zq_nm_at hN (fr1 239 (by decide) (by decide)) (fr1 242 (by decide) (by decide)) (fr1 244 (by decide) (by decide)))
  have hm5 := (x_KS_at2 hKS (fun j h1 h2 h3 h4 => (fr1 j (by omega) (by omega))))
  refine x_n_lt (fun hlt7 => ?_)
  have hm6 := (x_PS_at hPS (fun j hj hne => by have hj2 := x_some_lt hlt0 hne; exact (fr1 j (by omega) (by omega))))
  have hm8 := (x_LK_at2 hLK0 (fun j h1 h2 => (fr1 j (by omega) (by omega))))
  have hm9 := (x_SP_at hSP (fun j hj hne => by have hj2 := x_some_lt hlt0 hne; exact (fr1 j (by omega) (by omega))))
  have hm10 := (zq_V5_at hV5 (fr1 485 (by decide) (by decide)))
  have hm11 := (zq_SL_at hSL (fr1 482 (by decide) (by decide)))
  have hm12 := (zq_RW_at hRW (fr1 483 (by decide) (by decide)))
  have hm13 := (zq_J_at hJ (fr1 468 (by decide) (by decide)) (fr1 469 (by decide) (by decide)) (fr1 470 (by decide) (by decide)))
  have hm14 := (zFJ_at hFJ (fun j h1 h2 => (fr1 j (by omega) (by omega))))
  have hm15 := (zWJ_at hWJ (fun j h1 h2 => (fr1 j (by omega) (by omega))))
  have hm16 := (zq_OV_at hOV (fr1 452 (by decide) (by decide)) (fr1 453 (by decide) (by decide)))
  have hGz17 : zG φ1 1 tpq1 lf mi made sv svm comb hm sc sm mh noted verd ins ver sz bw := ⟨⟨_, _, hH1, (x_hw_at hhw (fun j hj hne => by have hj2 := x_some_lt hlt0 hne; exact (fr1 j (by omega) (by omega))))⟩, hB1, hm2, hm3, hm4, ⟨_, ⟨_, _, _, _, _, _, _, _, _, _, hm5⟩, hco⟩, ⟨_, _, _, hm6, hm8⟩, hm9, hm10, ⟨_, hm11⟩, hm12, hm13, hm14, hm15, ⟨_, _, hm16, hovn, hovh⟩⟩
  refine q_callrB (xs := [(0, 0, 0), (0, i, 0), (6, 0, 0)]) (p2 := 53) rfl rfl rfl rfl (x_rcv_s 0 hH1) rfl (zc_set0_bad (x := i) hGz17 (by omega) hpv (by omega) (by omega) hna) rfl (fun w17 φ17 n17 sl17 hn17 hN17 hs17 hT17 hR17 => ?_)
  obtain ⟨hwz17, hGr17⟩ := hR17
  subst hwz17
  have hG := hGr17
  skip
  obtain ⟨⟨hand, ie, hH, hhw⟩, hB, hTJ, hEJ, hN, hKJ, ⟨A, B, s9, hPS, hLK0⟩, hSP, hV5, ⟨slq, hSL⟩, hRW, hJ, hFJ, hWJ, ⟨ovn, ovh, hOV, hovn, hovh⟩⟩ := hG
  refine x_n_lt (fun hlt0 => ?_)
  have hmade := x_PS_lt hPS
  obtain ⟨co, ⟨top_, fr_, pc_, mm, st, lo, re, rs, fl, se, hKS⟩, hco⟩ := hKJ
  refine q_goto rfl ?_
  refine q_callrE (xs := [(0, 4294967295, 0), (6, 0, 0)]) (p2 := 56) rfl rfl rfl rfl (fun _ _ => rfl) rfl (zc_done hH hPS (by omega)) (Nat.le_refl _) (Nat.le_refl _) rfl (fun φ19 hR19 => ?_)
  obtain ⟨hs19_0, fr19⟩ := hR19
  have hm20 := (zq_tp_at hB (fr19 1 (by decide)))
  have hm21 := (zTJ_at hTJ (fun j h1 h2 => (fr19 j (by omega))))
  have hm22 := (zEJ_at hEJ (fun j h1 h2 => (fr19 j (by omega))))
  have hm23 := (zq_nm_at hN (fr19 239 (by decide)) (fr19 242 (by decide)) (fr19 244 (by decide)))
  have hm24 := (x_KS_at2 hKS (fun j h1 h2 h3 h4 => (fr19 j (by omega))))
  refine x_n_lt (fun hlt26 => ?_)
  have hm25 := (x_PS_at hPS (fun j hj hne => by have hj2 := x_some_lt hlt0 hne; exact (fr19 j (by omega))))
  have hm27 := (x_LK_at2 hLK0 (fun j h1 h2 => (fr19 j (by omega))))
  have hm28 := (x_SP_at hSP (fun j hj hne => by have hj2 := x_some_lt hlt0 hne; exact (fr19 j (by omega))))
  have hm29 := (zq_V5_at hV5 (fr19 485 (by decide)))
  have hm30 := (zq_SL_at hSL (fr19 482 (by decide)))
  have hm31 := (zq_RW_at hRW (fr19 483 (by decide)))
  have hm32 := (zq_J_at hJ (fr19 468 (by decide)) (fr19 469 (by decide)) (fr19 470 (by decide)))
  have hm33 := (zFJ_at hFJ (fun j h1 h2 => (fr19 j (by omega))))
  have hm34 := (zWJ_at hWJ (fun j h1 h2 => (fr19 j (by omega))))
  have hm35 := (zq_OV_at hOV (fr19 452 (by decide)) (fr19 453 (by decide)))
  exact q_retv (v := (0, 4294967295, 0)) rfl rfl (⟨rfl, ⟨by omega, by omega⟩, ⟨by omega, by omega⟩, _, rfl, ⟨⟨_, _, hs19_0, (x_hw_at hhw (fun j hj hne => by have hj2 := x_some_lt hlt0 hne; exact (fr19 j (by omega))))⟩, hm20, hm21, hm22, hm23, ⟨_, ⟨_, _, _, _, _, _, _, _, _, _, hm24⟩, hco⟩, ⟨_, _, _, hm25, hm27⟩, hm28, hm29, ⟨_, hm30⟩, hm31, hm32, hm33, hm34, ⟨_, _, hm35, hovn, hovh⟩⟩⟩)
set_option maxHeartbeats 1000000 in
theorem zc_call_2_1 {d n sl : Nat} {φ : FH} {tp : Nat → Nat} {lf : Nat} {mi : Nat} {made : Nat} {sv : Nat} {svm : Nat} {comb : Nat → Nat} {hm : Nat → MV} {sc : Nat → Nat} {sm : Nat → MV} {mh : MV} {noted : Nat} {verd : Nat} {ins : Nat → Nat} {ver : Nat → Nat} {sz : Nat} {bw : Nat → Nat} {x : Nat} {s4 s7 i j : Nat} {s10 v : Nat} (hG : zG φ 0 tp lf mi made sv svm comb hm sc sm mh noted verd ins ver sz bw) (hn0 : 486 ≤ n) (hpv : ∀ i, x_pv2 (hm i)) (hmi : mi + 300 ≤ 20000) (hx32 : x < 4294967296) (hf0 : x >>> 4 = s4) (hf1 : s4 &&& 7 = i) (hf2 : x >>> 7 = s7) (hf3 : s7 &&& 7 = j) (hf4 : x &&& 15 = 2) (hf5 : x >>> 10 = s10) (hf6 : s10 &&& 1023 = v) (hi : i < 8) (hj : j < 8) (hv : 0 ≤ v ∧ v ≤ 9) (hisA : x_isA made comb i 0) : x_f x_P (d + 12) 4 [(6, 0, 0), (0, x, 0), (11, 0, 0), (11, 0, 0), (11, 0, 0)] φ n sl (x_bR n sl 1 7 (fun zw φ2 => ∃ tpZ : Nat → Nat, zw = (0, 1, 0) ∧ zG φ2 0 tpZ 0 (mi + 1) made sv svm comb (zhm hm (i * 40 + 0) (1, v, 0, 0, [])) sc sm mh noted verd ins ver sz bw)) := by
  refine x_f_of rfl ?_
  have hG0 := hG
  obtain ⟨⟨hand, ie, hH, hhw⟩, hB, hTJ, hEJ, hN, hKJ, ⟨A, B, s9, hPS, hLK0⟩, hSP, hV5, ⟨slq, hSL⟩, hRW, hJ, hFJ, hWJ, ⟨ovn, ovh, hOV, hovn, hovh⟩⟩ := hG
  refine x_n_lt (fun hlt0 => ?_)
  have hmade := x_PS_lt hPS
  obtain ⟨co, ⟨top_, fr_, pc_, mm, st, lo, re, rs, fl, se, hKS⟩, hco⟩ := hKJ
  refine q_load (v := (0, x, 0)) (p2 := 1) rfl rfl rfl rfl ?_
  refine q_const (p2 := 2) rfl rfl ?_
  refine q_iushrz (z := s4) (p2 := 3) rfl (by omega) hf0 rfl ?_
  refine q_const (p2 := 4) rfl rfl ?_
  refine q_iandz (z := i) (p2 := 5) rfl hf1 (by omega) rfl ?_
  refine q_store (loc2 := [(6, 0, 0), (0, x, 0), (0, i, 0), (11, 0, 0), (11, 0, 0)]) (p2 := 6) rfl rfl rfl rfl rfl ?_
  refine q_load (v := (0, x, 0)) (p2 := 7) rfl rfl rfl rfl ?_
  refine q_const (p2 := 8) rfl rfl ?_
  refine q_iushrz (z := s7) (p2 := 9) rfl (by omega) hf2 rfl ?_
  refine q_const (p2 := 10) rfl rfl ?_
  refine q_iandz (z := j) (p2 := 11) rfl hf3 (by omega) rfl ?_
  refine q_store (loc2 := [(6, 0, 0), (0, x, 0), (0, i, 0), (0, j, 0), (11, 0, 0)]) (p2 := 12) rfl rfl rfl rfl rfl ?_
  refine q_const (p2 := 13) rfl rfl ?_
  refine q_store (loc2 := [(6, 0, 0), (0, x, 0), (0, i, 0), (0, j, 0), (0, 1, 0)]) (p2 := 14) rfl rfl rfl rfl rfl ?_
  refine q_load (v := (0, x, 0)) (p2 := 15) rfl rfl rfl rfl ?_
  refine q_const (p2 := 16) rfl rfl ?_
  refine q_iandz (z := 2) (p2 := 17) rfl hf4 (by omega) rfl ?_
  refine q_switch (tgt := 38) rfl (by decide) rfl ?_
  refine q_load (v := (6, 0, 0)) (p2 := 39) rfl rfl rfl rfl ?_
  refine q_load (v := (0, x, 0)) (p2 := 40) rfl rfl rfl rfl ?_
  refine q_const (p2 := 41) rfl rfl ?_
  refine q_iushrz (z := s10) (p2 := 42) rfl (by omega) hf5 rfl ?_
  refine q_const (p2 := 43) rfl rfl ?_
  refine q_iandz (z := v) (p2 := 44) rfl hf6 (by omega) rfl ?_
  refine q_callrE (xs := [(0, v, 0), (6, 0, 0)]) (p2 := 45) rfl rfl rfl rfl (fun _ _ => rfl) rfl (zc_pn_1_0 hH hB (by omega) ) (Nat.le_refl _) (Nat.le_refl _) rfl (fun φ1 hR1 => ?_)
  obtain ⟨tpq1, hH1, hB1, hq1_0, fr1⟩ := hR1
  refine q_store (loc2 := [(6, 0, 0), (0, x, 0), (0, i, 0), (0, j, 0), (0, 1, 0)]) (p2 := 46) rfl rfl rfl rfl rfl ?_
  refine q_load (v := (6, 0, 0)) (p2 := 47) rfl rfl rfl rfl ?_
  refine q_load (v := (0, 1, 0)) (p2 := 48) rfl rfl rfl rfl ?_
  refine q_if0_s (p2 := 49) rfl (by decide) (by omega) rfl (fun hb => absurd hb (show ¬ (1 = 0) by omega)) (fun _ => ?_)
  refine q_load (v := (6, 0, 0)) (p2 := 50) rfl rfl rfl rfl ?_
  refine q_load (v := (0, i, 0)) (p2 := 51) rfl rfl rfl rfl ?_
  refine q_const (p2 := 52) rfl rfl ?_
  have hm2 := (zTJ_at hTJ (fun j h1 h2 => (fr1 j (by omega) (by omega))))
  have hm3 := (zEJ_at hEJ (fun j h1 h2 => (fr1 j (by omega) (by omega))))
  have hm4 := (zq_nm_at hN (fr1 239 (by decide) (by decide)) (fr1 242 (by decide) (by decide)) (fr1 244 (by decide) (by decide)))
  have hm5 := (x_KS_at2 hKS (fun j h1 h2 h3 h4 => (fr1 j (by omega) (by omega))))
  refine x_n_lt (fun hlt7 => ?_)
  have hm6 := (x_PS_at hPS (fun j hj hne => by have hj2 := x_some_lt hlt0 hne; exact (fr1 j (by omega) (by omega))))
  have hm8 := (x_LK_at2 hLK0 (fun j h1 h2 => (fr1 j (by omega) (by omega))))
  have hm9 := (x_SP_at hSP (fun j hj hne => by have hj2 := x_some_lt hlt0 hne; exact (fr1 j (by omega) (by omega))))
  have hm10 := (zq_V5_at hV5 (fr1 485 (by decide) (by decide)))
  have hm11 := (zq_SL_at hSL (fr1 482 (by decide) (by decide)))
  have hm12 := (zq_RW_at hRW (fr1 483 (by decide) (by decide)))
  have hm13 := (zq_J_at hJ (fr1 468 (by decide) (by decide)) (fr1 469 (by decide) (by decide)) (fr1 470 (by decide) (by decide)))
  have hm14 := (zFJ_at hFJ (fun j h1 h2 => (fr1 j (by omega) (by omega))))
  have hm15 := (zWJ_at hWJ (fun j h1 h2 => (fr1 j (by omega) (by omega))))
  have hm16 := (zq_OV_at hOV (fr1 452 (by decide) (by decide)) (fr1 453 (by decide) (by decide)))
  have hGz17 : zG φ1 1 tpq1 lf mi made sv svm comb hm sc sm mh noted verd ins ver sz bw := ⟨⟨_, _, hH1, (x_hw_at hhw (fun j hj hne => by have hj2 := x_some_lt hlt0 hne; exact (fr1 j (by omega) (by omega))))⟩, hB1, hm2, hm3, hm4, ⟨_, ⟨_, _, _, _, _, _, _, _, _, _, hm5⟩, hco⟩, ⟨_, _, _, hm6, hm8⟩, hm9, hm10, ⟨_, hm11⟩, hm12, hm13, hm14, hm15, ⟨_, _, hm16, hovn, hovh⟩⟩
  refine q_callrB (xs := [(0, 0, 0), (0, i, 0), (6, 0, 0)]) (p2 := 53) rfl rfl rfl rfl (x_rcv_s 0 hH1) rfl (zc_set0_1 (x := i) (w1 := v) hGz17 (by omega) hpv (by omega) (by omega) hisA (hq1_0) (by omega) (by omega) (by omega)) rfl (fun w17 φ17 n17 sl17 hn17 hN17 hs17 hT17 hR17 => ?_)
  obtain ⟨hwz17, hGr17⟩ := hR17
  subst hwz17
  have hG := hGr17
  skip
  obtain ⟨⟨hand, ie, hH, hhw⟩, hB, hTJ, hEJ, hN, hKJ, ⟨A, B, s9, hPS, hLK0⟩, hSP, hV5, ⟨slq, hSL⟩, hRW, hJ, hFJ, hWJ, ⟨ovn, ovh, hOV, hovn, hovh⟩⟩ := hG
  refine x_n_lt (fun hlt0 => ?_)
  have hmade := x_PS_lt hPS
  obtain ⟨co, ⟨top_, fr_, pc_, mm, st, lo, re, rs, fl, se, hKS⟩, hco⟩ := hKJ
  refine q_goto rfl ?_
  refine q_callrE (xs := [(0, 1, 0), (6, 0, 0)]) (p2 := 56) rfl rfl rfl rfl (fun _ _ => rfl) rfl (zc_done hH hPS (by omega)) (Nat.le_refl _) (Nat.le_refl _) rfl (fun φ19 hR19 => ?_)
  obtain ⟨hs19_0, fr19⟩ := hR19
  have hm20 := (zq_tp_at hB (fr19 1 (by decide)))
  have hm21 := (zTJ_at hTJ (fun j h1 h2 => (fr19 j (by omega))))
  have hm22 := (zEJ_at hEJ (fun j h1 h2 => (fr19 j (by omega))))
  have hm23 := (zq_nm_at hN (fr19 239 (by decide)) (fr19 242 (by decide)) (fr19 244 (by decide)))
  have hm24 := (x_KS_at2 hKS (fun j h1 h2 h3 h4 => (fr19 j (by omega))))
  refine x_n_lt (fun hlt26 => ?_)
  have hm25 := (x_PS_at hPS (fun j hj hne => by have hj2 := x_some_lt hlt0 hne; exact (fr19 j (by omega))))
  have hm27 := (x_LK_at2 hLK0 (fun j h1 h2 => (fr19 j (by omega))))
  have hm28 := (x_SP_at hSP (fun j hj hne => by have hj2 := x_some_lt hlt0 hne; exact (fr19 j (by omega))))
  have hm29 := (zq_V5_at hV5 (fr19 485 (by decide)))
  have hm30 := (zq_SL_at hSL (fr19 482 (by decide)))
  have hm31 := (zq_RW_at hRW (fr19 483 (by decide)))
  have hm32 := (zq_J_at hJ (fr19 468 (by decide)) (fr19 469 (by decide)) (fr19 470 (by decide)))
  have hm33 := (zFJ_at hFJ (fun j h1 h2 => (fr19 j (by omega))))
  have hm34 := (zWJ_at hWJ (fun j h1 h2 => (fr19 j (by omega))))
  have hm35 := (zq_OV_at hOV (fr19 452 (by decide)) (fr19 453 (by decide)))
  exact q_retv (v := (0, 1, 0)) rfl rfl (⟨rfl, ⟨by omega, by omega⟩, ⟨by omega, by omega⟩, _, rfl, ⟨⟨_, _, hs19_0, (x_hw_at hhw (fun j hj hne => by have hj2 := x_some_lt hlt0 hne; exact (fr19 j (by omega))))⟩, hm20, hm21, hm22, hm23, ⟨_, ⟨_, _, _, _, _, _, _, _, _, _, hm24⟩, hco⟩, ⟨_, _, _, hm25, hm27⟩, hm28, hm29, ⟨_, hm30⟩, hm31, hm32, hm33, hm34, ⟨_, _, hm35, hovn, hovh⟩⟩⟩)
set_option maxHeartbeats 1000000 in
theorem zc_call_2_bad2 {d n sl : Nat} {φ : FH} {tp : Nat → Nat} {lf : Nat} {mi : Nat} {made : Nat} {sv : Nat} {svm : Nat} {comb : Nat → Nat} {hm : Nat → MV} {sc : Nat → Nat} {sm : Nat → MV} {mh : MV} {noted : Nat} {verd : Nat} {ins : Nat → Nat} {ver : Nat → Nat} {sz : Nat} {bw : Nat → Nat} {x : Nat} {s4 s7 i j : Nat} {s10 v : Nat} (hG : zG φ 0 tp lf mi made sv svm comb hm sc sm mh noted verd ins ver sz bw) (hn0 : 486 ≤ n) (hpv : ∀ i, x_pv2 (hm i)) (hmi : mi + 300 ≤ 20000) (hx32 : x < 4294967296) (hf0 : x >>> 4 = s4) (hf1 : s4 &&& 7 = i) (hf2 : x >>> 7 = s7) (hf3 : s7 &&& 7 = j) (hf4 : x &&& 15 = 2) (hf5 : x >>> 10 = s10) (hf6 : s10 &&& 1023 = v) (hi : i < 8) (hj : j < 8) (hv : 10 ≤ v ∧ v ≤ 99) (hna : ¬ x_isA made comb i 0) : x_f x_P (d + 5) 4 [(6, 0, 0), (0, x, 0), (11, 0, 0), (11, 0, 0), (11, 0, 0)] φ n sl (x_bR n sl 0 0 (fun zw φ2 => ∃ tpZ : Nat → Nat, zw = (0, 4294967295, 0) ∧ zG φ2 0 tpZ lf mi made sv svm comb hm sc sm mh noted verd ins ver sz bw)) := by
  refine x_f_of rfl ?_
  have hG0 := hG
  obtain ⟨⟨hand, ie, hH, hhw⟩, hB, hTJ, hEJ, hN, hKJ, ⟨A, B, s9, hPS, hLK0⟩, hSP, hV5, ⟨slq, hSL⟩, hRW, hJ, hFJ, hWJ, ⟨ovn, ovh, hOV, hovn, hovh⟩⟩ := hG
  refine x_n_lt (fun hlt0 => ?_)
  have hmade := x_PS_lt hPS
  obtain ⟨co, ⟨top_, fr_, pc_, mm, st, lo, re, rs, fl, se, hKS⟩, hco⟩ := hKJ
  refine q_load (v := (0, x, 0)) (p2 := 1) rfl rfl rfl rfl ?_
  refine q_const (p2 := 2) rfl rfl ?_
  refine q_iushrz (z := s4) (p2 := 3) rfl (by omega) hf0 rfl ?_
  refine q_const (p2 := 4) rfl rfl ?_
  refine q_iandz (z := i) (p2 := 5) rfl hf1 (by omega) rfl ?_
  refine q_store (loc2 := [(6, 0, 0), (0, x, 0), (0, i, 0), (11, 0, 0), (11, 0, 0)]) (p2 := 6) rfl rfl rfl rfl rfl ?_
  refine q_load (v := (0, x, 0)) (p2 := 7) rfl rfl rfl rfl ?_
  refine q_const (p2 := 8) rfl rfl ?_
  refine q_iushrz (z := s7) (p2 := 9) rfl (by omega) hf2 rfl ?_
  refine q_const (p2 := 10) rfl rfl ?_
  refine q_iandz (z := j) (p2 := 11) rfl hf3 (by omega) rfl ?_
  refine q_store (loc2 := [(6, 0, 0), (0, x, 0), (0, i, 0), (0, j, 0), (11, 0, 0)]) (p2 := 12) rfl rfl rfl rfl rfl ?_
  refine q_const (p2 := 13) rfl rfl ?_
  refine q_store (loc2 := [(6, 0, 0), (0, x, 0), (0, i, 0), (0, j, 0), (0, 1, 0)]) (p2 := 14) rfl rfl rfl rfl rfl ?_
  refine q_load (v := (0, x, 0)) (p2 := 15) rfl rfl rfl rfl ?_
  refine q_const (p2 := 16) rfl rfl ?_
  refine q_iandz (z := 2) (p2 := 17) rfl hf4 (by omega) rfl ?_
  refine q_switch (tgt := 38) rfl (by decide) rfl ?_
  refine q_load (v := (6, 0, 0)) (p2 := 39) rfl rfl rfl rfl ?_
  refine q_load (v := (0, x, 0)) (p2 := 40) rfl rfl rfl rfl ?_
  refine q_const (p2 := 41) rfl rfl ?_
  refine q_iushrz (z := s10) (p2 := 42) rfl (by omega) hf5 rfl ?_
  refine q_const (p2 := 43) rfl rfl ?_
  refine q_iandz (z := v) (p2 := 44) rfl hf6 (by omega) rfl ?_
  refine q_callrE (xs := [(0, v, 0), (6, 0, 0)]) (p2 := 45) rfl rfl rfl rfl (fun _ _ => rfl) rfl (zc_pn_2_0 hH hB (by omega) ) (Nat.le_refl _) (Nat.le_refl _) rfl (fun φ1 hR1 => ?_)
  obtain ⟨tpq1, hH1, hB1, hq1_0, hq1_1, fr1⟩ := hR1
  refine q_store (loc2 := [(6, 0, 0), (0, x, 0), (0, i, 0), (0, j, 0), (0, 1, 0)]) (p2 := 46) rfl rfl rfl rfl rfl ?_
  refine q_load (v := (6, 0, 0)) (p2 := 47) rfl rfl rfl rfl ?_
  refine q_load (v := (0, 1, 0)) (p2 := 48) rfl rfl rfl rfl ?_
  refine q_if0_s (p2 := 49) rfl (by decide) (by omega) rfl (fun hb => absurd hb (show ¬ (1 = 0) by omega)) (fun _ => ?_)
  refine q_load (v := (6, 0, 0)) (p2 := 50) rfl rfl rfl rfl ?_
  refine q_load (v := (0, i, 0)) (p2 := 51) rfl rfl rfl rfl ?_
  refine q_const (p2 := 52) rfl rfl ?_
  have hm2 := (zTJ_at hTJ (fun j h1 h2 => (fr1 j (by omega) (by omega))))
  have hm3 := (zEJ_at hEJ (fun j h1 h2 => (fr1 j (by omega) (by omega))))
  have hm4 := (zq_nm_at hN (fr1 239 (by decide) (by decide)) (fr1 242 (by decide) (by decide)) (fr1 244 (by decide) (by decide)))
  have hm5 := (x_KS_at2 hKS (fun j h1 h2 h3 h4 => (fr1 j (by omega) (by omega))))
  refine x_n_lt (fun hlt7 => ?_)
  have hm6 := (x_PS_at hPS (fun j hj hne => by have hj2 := x_some_lt hlt0 hne; exact (fr1 j (by omega) (by omega))))
  have hm8 := (x_LK_at2 hLK0 (fun j h1 h2 => (fr1 j (by omega) (by omega))))
  have hm9 := (x_SP_at hSP (fun j hj hne => by have hj2 := x_some_lt hlt0 hne; exact (fr1 j (by omega) (by omega))))
  have hm10 := (zq_V5_at hV5 (fr1 485 (by decide) (by decide)))
  have hm11 := (zq_SL_at hSL (fr1 482 (by decide) (by decide)))
  have hm12 := (zq_RW_at hRW (fr1 483 (by decide) (by decide)))
  have hm13 := (zq_J_at hJ (fr1 468 (by decide) (by decide)) (fr1 469 (by decide) (by decide)) (fr1 470 (by decide) (by decide)))
  have hm14 := (zFJ_at hFJ (fun j h1 h2 => (fr1 j (by omega) (by omega))))
  have hm15 := (zWJ_at hWJ (fun j h1 h2 => (fr1 j (by omega) (by omega))))
  have hm16 := (zq_OV_at hOV (fr1 452 (by decide) (by decide)) (fr1 453 (by decide) (by decide)))
  have hGz17 : zG φ1 2 tpq1 lf mi made sv svm comb hm sc sm mh noted verd ins ver sz bw := ⟨⟨_, _, hH1, (x_hw_at hhw (fun j hj hne => by have hj2 := x_some_lt hlt0 hne; exact (fr1 j (by omega) (by omega))))⟩, hB1, hm2, hm3, hm4, ⟨_, ⟨_, _, _, _, _, _, _, _, _, _, hm5⟩, hco⟩, ⟨_, _, _, hm6, hm8⟩, hm9, hm10, ⟨_, hm11⟩, hm12, hm13, hm14, hm15, ⟨_, _, hm16, hovn, hovh⟩⟩
  refine q_callrB (xs := [(0, 0, 0), (0, i, 0), (6, 0, 0)]) (p2 := 53) rfl rfl rfl rfl (x_rcv_s 0 hH1) rfl (zc_set0_bad (x := i) hGz17 (by omega) hpv (by omega) (by omega) hna) rfl (fun w17 φ17 n17 sl17 hn17 hN17 hs17 hT17 hR17 => ?_)
  obtain ⟨hwz17, hGr17⟩ := hR17
  subst hwz17
  have hG := hGr17
  skip
  obtain ⟨⟨hand, ie, hH, hhw⟩, hB, hTJ, hEJ, hN, hKJ, ⟨A, B, s9, hPS, hLK0⟩, hSP, hV5, ⟨slq, hSL⟩, hRW, hJ, hFJ, hWJ, ⟨ovn, ovh, hOV, hovn, hovh⟩⟩ := hG
  refine x_n_lt (fun hlt0 => ?_)
  have hmade := x_PS_lt hPS
  obtain ⟨co, ⟨top_, fr_, pc_, mm, st, lo, re, rs, fl, se, hKS⟩, hco⟩ := hKJ
  refine q_goto rfl ?_
  refine q_callrE (xs := [(0, 4294967295, 0), (6, 0, 0)]) (p2 := 56) rfl rfl rfl rfl (fun _ _ => rfl) rfl (zc_done hH hPS (by omega)) (Nat.le_refl _) (Nat.le_refl _) rfl (fun φ19 hR19 => ?_)
  obtain ⟨hs19_0, fr19⟩ := hR19
  have hm20 := (zq_tp_at hB (fr19 1 (by decide)))
  have hm21 := (zTJ_at hTJ (fun j h1 h2 => (fr19 j (by omega))))
  have hm22 := (zEJ_at hEJ (fun j h1 h2 => (fr19 j (by omega))))
  have hm23 := (zq_nm_at hN (fr19 239 (by decide)) (fr19 242 (by decide)) (fr19 244 (by decide)))
  have hm24 := (x_KS_at2 hKS (fun j h1 h2 h3 h4 => (fr19 j (by omega))))
  refine x_n_lt (fun hlt26 => ?_)
  have hm25 := (x_PS_at hPS (fun j hj hne => by have hj2 := x_some_lt hlt0 hne; exact (fr19 j (by omega))))
  have hm27 := (x_LK_at2 hLK0 (fun j h1 h2 => (fr19 j (by omega))))
  have hm28 := (x_SP_at hSP (fun j hj hne => by have hj2 := x_some_lt hlt0 hne; exact (fr19 j (by omega))))
  have hm29 := (zq_V5_at hV5 (fr19 485 (by decide)))
  have hm30 := (zq_SL_at hSL (fr19 482 (by decide)))
  have hm31 := (zq_RW_at hRW (fr19 483 (by decide)))
  have hm32 := (zq_J_at hJ (fr19 468 (by decide)) (fr19 469 (by decide)) (fr19 470 (by decide)))
  have hm33 := (zFJ_at hFJ (fun j h1 h2 => (fr19 j (by omega))))
  have hm34 := (zWJ_at hWJ (fun j h1 h2 => (fr19 j (by omega))))
  have hm35 := (zq_OV_at hOV (fr19 452 (by decide)) (fr19 453 (by decide)))
  exact q_retv (v := (0, 4294967295, 0)) rfl rfl (⟨rfl, ⟨by omega, by omega⟩, ⟨by omega, by omega⟩, _, rfl, ⟨⟨_, _, hs19_0, (x_hw_at hhw (fun j hj hne => by have hj2 := x_some_lt hlt0 hne; exact (fr19 j (by omega))))⟩, hm20, hm21, hm22, hm23, ⟨_, ⟨_, _, _, _, _, _, _, _, _, _, hm24⟩, hco⟩, ⟨_, _, _, hm25, hm27⟩, hm28, hm29, ⟨_, hm30⟩, hm31, hm32, hm33, hm34, ⟨_, _, hm35, hovn, hovh⟩⟩⟩)
set_option maxHeartbeats 1000000 in
theorem zc_call_2_2 {d n sl : Nat} {φ : FH} {tp : Nat → Nat} {lf : Nat} {mi : Nat} {made : Nat} {sv : Nat} {svm : Nat} {comb : Nat → Nat} {hm : Nat → MV} {sc : Nat → Nat} {sm : Nat → MV} {mh : MV} {noted : Nat} {verd : Nat} {ins : Nat → Nat} {ver : Nat → Nat} {sz : Nat} {bw : Nat → Nat} {x : Nat} {s4 s7 i j : Nat} {s10 v : Nat} (hG : zG φ 0 tp lf mi made sv svm comb hm sc sm mh noted verd ins ver sz bw) (hn0 : 486 ≤ n) (hpv : ∀ i, x_pv2 (hm i)) (hmi : mi + 300 ≤ 20000) (hx32 : x < 4294967296) (hf0 : x >>> 4 = s4) (hf1 : s4 &&& 7 = i) (hf2 : x >>> 7 = s7) (hf3 : s7 &&& 7 = j) (hf4 : x &&& 15 = 2) (hf5 : x >>> 10 = s10) (hf6 : s10 &&& 1023 = v) (hi : i < 8) (hj : j < 8) (hv : 10 ≤ v ∧ v ≤ 99) (hisA : x_isA made comb i 0) : x_f x_P (d + 12) 4 [(6, 0, 0), (0, x, 0), (11, 0, 0), (11, 0, 0), (11, 0, 0)] φ n sl (x_bR n sl 1 7 (fun zw φ2 => ∃ tpZ : Nat → Nat, zw = (0, 1, 0) ∧ zG φ2 0 tpZ 0 (mi + 1) made sv svm comb (zhm hm (i * 40 + 0) (1, v, 0, 0, [])) sc sm mh noted verd ins ver sz bw)) := by
  refine x_f_of rfl ?_
  have hG0 := hG
  obtain ⟨⟨hand, ie, hH, hhw⟩, hB, hTJ, hEJ, hN, hKJ, ⟨A, B, s9, hPS, hLK0⟩, hSP, hV5, ⟨slq, hSL⟩, hRW, hJ, hFJ, hWJ, ⟨ovn, ovh, hOV, hovn, hovh⟩⟩ := hG
  refine x_n_lt (fun hlt0 => ?_)
  have hmade := x_PS_lt hPS
  obtain ⟨co, ⟨top_, fr_, pc_, mm, st, lo, re, rs, fl, se, hKS⟩, hco⟩ := hKJ
  refine q_load (v := (0, x, 0)) (p2 := 1) rfl rfl rfl rfl ?_
  refine q_const (p2 := 2) rfl rfl ?_
  refine q_iushrz (z := s4) (p2 := 3) rfl (by omega) hf0 rfl ?_
  refine q_const (p2 := 4) rfl rfl ?_
  refine q_iandz (z := i) (p2 := 5) rfl hf1 (by omega) rfl ?_
  refine q_store (loc2 := [(6, 0, 0), (0, x, 0), (0, i, 0), (11, 0, 0), (11, 0, 0)]) (p2 := 6) rfl rfl rfl rfl rfl ?_
  refine q_load (v := (0, x, 0)) (p2 := 7) rfl rfl rfl rfl ?_
  refine q_const (p2 := 8) rfl rfl ?_
  refine q_iushrz (z := s7) (p2 := 9) rfl (by omega) hf2 rfl ?_
  refine q_const (p2 := 10) rfl rfl ?_
  refine q_iandz (z := j) (p2 := 11) rfl hf3 (by omega) rfl ?_
  refine q_store (loc2 := [(6, 0, 0), (0, x, 0), (0, i, 0), (0, j, 0), (11, 0, 0)]) (p2 := 12) rfl rfl rfl rfl rfl ?_
  refine q_const (p2 := 13) rfl rfl ?_
  refine q_store (loc2 := [(6, 0, 0), (0, x, 0), (0, i, 0), (0, j, 0), (0, 1, 0)]) (p2 := 14) rfl rfl rfl rfl rfl ?_
  refine q_load (v := (0, x, 0)) (p2 := 15) rfl rfl rfl rfl ?_
  refine q_const (p2 := 16) rfl rfl ?_
  refine q_iandz (z := 2) (p2 := 17) rfl hf4 (by omega) rfl ?_
  refine q_switch (tgt := 38) rfl (by decide) rfl ?_
  refine q_load (v := (6, 0, 0)) (p2 := 39) rfl rfl rfl rfl ?_
  refine q_load (v := (0, x, 0)) (p2 := 40) rfl rfl rfl rfl ?_
  refine q_const (p2 := 41) rfl rfl ?_
  refine q_iushrz (z := s10) (p2 := 42) rfl (by omega) hf5 rfl ?_
  refine q_const (p2 := 43) rfl rfl ?_
  refine q_iandz (z := v) (p2 := 44) rfl hf6 (by omega) rfl ?_
  refine q_callrE (xs := [(0, v, 0), (6, 0, 0)]) (p2 := 45) rfl rfl rfl rfl (fun _ _ => rfl) rfl (zc_pn_2_0 hH hB (by omega) ) (Nat.le_refl _) (Nat.le_refl _) rfl (fun φ1 hR1 => ?_)
  obtain ⟨tpq1, hH1, hB1, hq1_0, hq1_1, fr1⟩ := hR1
  refine q_store (loc2 := [(6, 0, 0), (0, x, 0), (0, i, 0), (0, j, 0), (0, 1, 0)]) (p2 := 46) rfl rfl rfl rfl rfl ?_
  refine q_load (v := (6, 0, 0)) (p2 := 47) rfl rfl rfl rfl ?_
  refine q_load (v := (0, 1, 0)) (p2 := 48) rfl rfl rfl rfl ?_
  refine q_if0_s (p2 := 49) rfl (by decide) (by omega) rfl (fun hb => absurd hb (show ¬ (1 = 0) by omega)) (fun _ => ?_)
  refine q_load (v := (6, 0, 0)) (p2 := 50) rfl rfl rfl rfl ?_
  refine q_load (v := (0, i, 0)) (p2 := 51) rfl rfl rfl rfl ?_
  refine q_const (p2 := 52) rfl rfl ?_
  have hm2 := (zTJ_at hTJ (fun j h1 h2 => (fr1 j (by omega) (by omega))))
  have hm3 := (zEJ_at hEJ (fun j h1 h2 => (fr1 j (by omega) (by omega))))
  have hm4 := (zq_nm_at hN (fr1 239 (by decide) (by decide)) (fr1 242 (by decide) (by decide)) (fr1 244 (by decide) (by decide)))
  have hm5 := (x_KS_at2 hKS (fun j h1 h2 h3 h4 => (fr1 j (by omega) (by omega))))
  refine x_n_lt (fun hlt7 => ?_)
  have hm6 := (x_PS_at hPS (fun j hj hne => by have hj2 := x_some_lt hlt0 hne; exact (fr1 j (by omega) (by omega))))
  have hm8 := (x_LK_at2 hLK0 (fun j h1 h2 => (fr1 j (by omega) (by omega))))
  have hm9 := (x_SP_at hSP (fun j hj hne => by have hj2 := x_some_lt hlt0 hne; exact (fr1 j (by omega) (by omega))))
  have hm10 := (zq_V5_at hV5 (fr1 485 (by decide) (by decide)))
  have hm11 := (zq_SL_at hSL (fr1 482 (by decide) (by decide)))
  have hm12 := (zq_RW_at hRW (fr1 483 (by decide) (by decide)))
  have hm13 := (zq_J_at hJ (fr1 468 (by decide) (by decide)) (fr1 469 (by decide) (by decide)) (fr1 470 (by decide) (by decide)))
  have hm14 := (zFJ_at hFJ (fun j h1 h2 => (fr1 j (by omega) (by omega))))
  have hm15 := (zWJ_at hWJ (fun j h1 h2 => (fr1 j (by omega) (by omega))))
  have hm16 := (zq_OV_at hOV (fr1 452 (by decide) (by decide)) (fr1 453 (by decide) (by decide)))
  have hGz17 : zG φ1 2 tpq1 lf mi made sv svm comb hm sc sm mh noted verd ins ver sz bw := ⟨⟨_, _, hH1, (x_hw_at hhw (fun j hj hne => by have hj2 := x_some_lt hlt0 hne; exact (fr1 j (by omega) (by omega))))⟩, hB1, hm2, hm3, hm4, ⟨_, ⟨_, _, _, _, _, _, _, _, _, _, hm5⟩, hco⟩, ⟨_, _, _, hm6, hm8⟩, hm9, hm10, ⟨_, hm11⟩, hm12, hm13, hm14, hm15, ⟨_, _, hm16, hovn, hovh⟩⟩
  refine q_callrB (xs := [(0, 0, 0), (0, i, 0), (6, 0, 0)]) (p2 := 53) rfl rfl rfl rfl (x_rcv_s 0 hH1) rfl (zc_set0_2 (x := i) (w1 := v) hGz17 (by omega) hpv (by omega) (by omega) hisA (hq1_0) (hq1_1) (by omega) (by omega) (by omega) (by omega)) rfl (fun w17 φ17 n17 sl17 hn17 hN17 hs17 hT17 hR17 => ?_)
  obtain ⟨hwz17, hGr17⟩ := hR17
  subst hwz17
  have hG := hGr17
  skip
  obtain ⟨⟨hand, ie, hH, hhw⟩, hB, hTJ, hEJ, hN, hKJ, ⟨A, B, s9, hPS, hLK0⟩, hSP, hV5, ⟨slq, hSL⟩, hRW, hJ, hFJ, hWJ, ⟨ovn, ovh, hOV, hovn, hovh⟩⟩ := hG
  refine x_n_lt (fun hlt0 => ?_)
  have hmade := x_PS_lt hPS
  obtain ⟨co, ⟨top_, fr_, pc_, mm, st, lo, re, rs, fl, se, hKS⟩, hco⟩ := hKJ
  refine q_goto rfl ?_
  refine q_callrE (xs := [(0, 1, 0), (6, 0, 0)]) (p2 := 56) rfl rfl rfl rfl (fun _ _ => rfl) rfl (zc_done hH hPS (by omega)) (Nat.le_refl _) (Nat.le_refl _) rfl (fun φ19 hR19 => ?_)
  obtain ⟨hs19_0, fr19⟩ := hR19
  have hm20 := (zq_tp_at hB (fr19 1 (by decide)))
  have hm21 := (zTJ_at hTJ (fun j h1 h2 => (fr19 j (by omega))))
  have hm22 := (zEJ_at hEJ (fun j h1 h2 => (fr19 j (by omega))))
  have hm23 := (zq_nm_at hN (fr19 239 (by decide)) (fr19 242 (by decide)) (fr19 244 (by decide)))
  have hm24 := (x_KS_at2 hKS (fun j h1 h2 h3 h4 => (fr19 j (by omega))))
  refine x_n_lt (fun hlt26 => ?_)
  have hm25 := (x_PS_at hPS (fun j hj hne => by have hj2 := x_some_lt hlt0 hne; exact (fr19 j (by omega))))
  have hm27 := (x_LK_at2 hLK0 (fun j h1 h2 => (fr19 j (by omega))))
  have hm28 := (x_SP_at hSP (fun j hj hne => by have hj2 := x_some_lt hlt0 hne; exact (fr19 j (by omega))))
  have hm29 := (zq_V5_at hV5 (fr19 485 (by decide)))
  have hm30 := (zq_SL_at hSL (fr19 482 (by decide)))
  have hm31 := (zq_RW_at hRW (fr19 483 (by decide)))
  have hm32 := (zq_J_at hJ (fr19 468 (by decide)) (fr19 469 (by decide)) (fr19 470 (by decide)))
  have hm33 := (zFJ_at hFJ (fun j h1 h2 => (fr19 j (by omega))))
  have hm34 := (zWJ_at hWJ (fun j h1 h2 => (fr19 j (by omega))))
  have hm35 := (zq_OV_at hOV (fr19 452 (by decide)) (fr19 453 (by decide)))
  exact q_retv (v := (0, 1, 0)) rfl rfl (⟨rfl, ⟨by omega, by omega⟩, ⟨by omega, by omega⟩, _, rfl, ⟨⟨_, _, hs19_0, (x_hw_at hhw (fun j hj hne => by have hj2 := x_some_lt hlt0 hne; exact (fr19 j (by omega))))⟩, hm20, hm21, hm22, hm23, ⟨_, ⟨_, _, _, _, _, _, _, _, _, _, hm24⟩, hco⟩, ⟨_, _, _, hm25, hm27⟩, hm28, hm29, ⟨_, hm30⟩, hm31, hm32, hm33, hm34, ⟨_, _, hm35, hovn, hovh⟩⟩⟩)
set_option maxHeartbeats 1000000 in
theorem zc_call_2_bad3 {d n sl : Nat} {φ : FH} {tp : Nat → Nat} {lf : Nat} {mi : Nat} {made : Nat} {sv : Nat} {svm : Nat} {comb : Nat → Nat} {hm : Nat → MV} {sc : Nat → Nat} {sm : Nat → MV} {mh : MV} {noted : Nat} {verd : Nat} {ins : Nat → Nat} {ver : Nat → Nat} {sz : Nat} {bw : Nat → Nat} {x : Nat} {s4 s7 i j : Nat} {s10 v : Nat} (hG : zG φ 0 tp lf mi made sv svm comb hm sc sm mh noted verd ins ver sz bw) (hn0 : 486 ≤ n) (hpv : ∀ i, x_pv2 (hm i)) (hmi : mi + 300 ≤ 20000) (hx32 : x < 4294967296) (hf0 : x >>> 4 = s4) (hf1 : s4 &&& 7 = i) (hf2 : x >>> 7 = s7) (hf3 : s7 &&& 7 = j) (hf4 : x &&& 15 = 2) (hf5 : x >>> 10 = s10) (hf6 : s10 &&& 1023 = v) (hi : i < 8) (hj : j < 8) (hv : 100 ≤ v ∧ v ≤ 999) (hna : ¬ x_isA made comb i 0) : x_f x_P (d + 5) 4 [(6, 0, 0), (0, x, 0), (11, 0, 0), (11, 0, 0), (11, 0, 0)] φ n sl (x_bR n sl 0 0 (fun zw φ2 => ∃ tpZ : Nat → Nat, zw = (0, 4294967295, 0) ∧ zG φ2 0 tpZ lf mi made sv svm comb hm sc sm mh noted verd ins ver sz bw)) := by
  refine x_f_of rfl ?_
  have hG0 := hG
  obtain ⟨⟨hand, ie, hH, hhw⟩, hB, hTJ, hEJ, hN, hKJ, ⟨A, B, s9, hPS, hLK0⟩, hSP, hV5, ⟨slq, hSL⟩, hRW, hJ, hFJ, hWJ, ⟨ovn, ovh, hOV, hovn, hovh⟩⟩ := hG
  refine x_n_lt (fun hlt0 => ?_)
  have hmade := x_PS_lt hPS
  obtain ⟨co, ⟨top_, fr_, pc_, mm, st, lo, re, rs, fl, se, hKS⟩, hco⟩ := hKJ
  refine q_load (v := (0, x, 0)) (p2 := 1) rfl rfl rfl rfl ?_
  refine q_const (p2 := 2) rfl rfl ?_
  refine q_iushrz (z := s4) (p2 := 3) rfl (by omega) hf0 rfl ?_
  refine q_const (p2 := 4) rfl rfl ?_
  refine q_iandz (z := i) (p2 := 5) rfl hf1 (by omega) rfl ?_
  refine q_store (loc2 := [(6, 0, 0), (0, x, 0), (0, i, 0), (11, 0, 0), (11, 0, 0)]) (p2 := 6) rfl rfl rfl rfl rfl ?_
  refine q_load (v := (0, x, 0)) (p2 := 7) rfl rfl rfl rfl ?_
  refine q_const (p2 := 8) rfl rfl ?_
  refine q_iushrz (z := s7) (p2 := 9) rfl (by omega) hf2 rfl ?_
  refine q_const (p2 := 10) rfl rfl ?_
  refine q_iandz (z := j) (p2 := 11) rfl hf3 (by omega) rfl ?_
  refine q_store (loc2 := [(6, 0, 0), (0, x, 0), (0, i, 0), (0, j, 0), (11, 0, 0)]) (p2 := 12) rfl rfl rfl rfl rfl ?_
  refine q_const (p2 := 13) rfl rfl ?_
  refine q_store (loc2 := [(6, 0, 0), (0, x, 0), (0, i, 0), (0, j, 0), (0, 1, 0)]) (p2 := 14) rfl rfl rfl rfl rfl ?_
  refine q_load (v := (0, x, 0)) (p2 := 15) rfl rfl rfl rfl ?_
  refine q_const (p2 := 16) rfl rfl ?_
  refine q_iandz (z := 2) (p2 := 17) rfl hf4 (by omega) rfl ?_
  refine q_switch (tgt := 38) rfl (by decide) rfl ?_
  refine q_load (v := (6, 0, 0)) (p2 := 39) rfl rfl rfl rfl ?_
  refine q_load (v := (0, x, 0)) (p2 := 40) rfl rfl rfl rfl ?_
  refine q_const (p2 := 41) rfl rfl ?_
  refine q_iushrz (z := s10) (p2 := 42) rfl (by omega) hf5 rfl ?_
  refine q_const (p2 := 43) rfl rfl ?_
  refine q_iandz (z := v) (p2 := 44) rfl hf6 (by omega) rfl ?_
  refine q_callrE (xs := [(0, v, 0), (6, 0, 0)]) (p2 := 45) rfl rfl rfl rfl (fun _ _ => rfl) rfl (zc_pn_3_0 hH hB (by omega) ) (Nat.le_refl _) (Nat.le_refl _) rfl (fun φ1 hR1 => ?_)
  obtain ⟨tpq1, hH1, hB1, hq1_0, hq1_1, hq1_2, fr1⟩ := hR1
  refine q_store (loc2 := [(6, 0, 0), (0, x, 0), (0, i, 0), (0, j, 0), (0, 1, 0)]) (p2 := 46) rfl rfl rfl rfl rfl ?_
  refine q_load (v := (6, 0, 0)) (p2 := 47) rfl rfl rfl rfl ?_
  refine q_load (v := (0, 1, 0)) (p2 := 48) rfl rfl rfl rfl ?_
  refine q_if0_s (p2 := 49) rfl (by decide) (by omega) rfl (fun hb => absurd hb (show ¬ (1 = 0) by omega)) (fun _ => ?_)
  refine q_load (v := (6, 0, 0)) (p2 := 50) rfl rfl rfl rfl ?_
  refine q_load (v := (0, i, 0)) (p2 := 51) rfl rfl rfl rfl ?_
  refine q_const (p2 := 52) rfl rfl ?_
  have hm2 := (zTJ_at hTJ (fun j h1 h2 => (fr1 j (by omega) (by omega))))
  have hm3 := (zEJ_at hEJ (fun j h1 h2 => (fr1 j (by omega) (by omega))))
  have hm4 := (zq_nm_at hN (fr1 239 (by decide) (by decide)) (fr1 242 (by decide) (by decide)) (fr1 244 (by decide) (by decide)))
  have hm5 := (x_KS_at2 hKS (fun j h1 h2 h3 h4 => (fr1 j (by omega) (by omega))))
  refine x_n_lt (fun hlt7 => ?_)
  have hm6 := (x_PS_at hPS (fun j hj hne => by have hj2 := x_some_lt hlt0 hne; exact (fr1 j (by omega) (by omega))))
  have hm8 := (x_LK_at2 hLK0 (fun j h1 h2 => (fr1 j (by omega) (by omega))))
  have hm9 := (x_SP_at hSP (fun j hj hne => by have hj2 := x_some_lt hlt0 hne; exact (fr1 j (by omega) (by omega))))
  have hm10 := (zq_V5_at hV5 (fr1 485 (by decide) (by decide)))
  have hm11 := (zq_SL_at hSL (fr1 482 (by decide) (by decide)))
  have hm12 := (zq_RW_at hRW (fr1 483 (by decide) (by decide)))
  have hm13 := (zq_J_at hJ (fr1 468 (by decide) (by decide)) (fr1 469 (by decide) (by decide)) (fr1 470 (by decide) (by decide)))
  have hm14 := (zFJ_at hFJ (fun j h1 h2 => (fr1 j (by omega) (by omega))))
  have hm15 := (zWJ_at hWJ (fun j h1 h2 => (fr1 j (by omega) (by omega))))
  have hm16 := (zq_OV_at hOV (fr1 452 (by decide) (by decide)) (fr1 453 (by decide) (by decide)))
  have hGz17 : zG φ1 3 tpq1 lf mi made sv svm comb hm sc sm mh noted verd ins ver sz bw := ⟨⟨_, _, hH1, (x_hw_at hhw (fun j hj hne => by have hj2 := x_some_lt hlt0 hne; exact (fr1 j (by omega) (by omega))))⟩, hB1, hm2, hm3, hm4, ⟨_, ⟨_, _, _, _, _, _, _, _, _, _, hm5⟩, hco⟩, ⟨_, _, _, hm6, hm8⟩, hm9, hm10, ⟨_, hm11⟩, hm12, hm13, hm14, hm15, ⟨_, _, hm16, hovn, hovh⟩⟩
  refine q_callrB (xs := [(0, 0, 0), (0, i, 0), (6, 0, 0)]) (p2 := 53) rfl rfl rfl rfl (x_rcv_s 0 hH1) rfl (zc_set0_bad (x := i) hGz17 (by omega) hpv (by omega) (by omega) hna) rfl (fun w17 φ17 n17 sl17 hn17 hN17 hs17 hT17 hR17 => ?_)
  obtain ⟨hwz17, hGr17⟩ := hR17
  subst hwz17
  have hG := hGr17
  skip
  obtain ⟨⟨hand, ie, hH, hhw⟩, hB, hTJ, hEJ, hN, hKJ, ⟨A, B, s9, hPS, hLK0⟩, hSP, hV5, ⟨slq, hSL⟩, hRW, hJ, hFJ, hWJ, ⟨ovn, ovh, hOV, hovn, hovh⟩⟩ := hG
  refine x_n_lt (fun hlt0 => ?_)
  have hmade := x_PS_lt hPS
  obtain ⟨co, ⟨top_, fr_, pc_, mm, st, lo, re, rs, fl, se, hKS⟩, hco⟩ := hKJ
  refine q_goto rfl ?_
  refine q_callrE (xs := [(0, 4294967295, 0), (6, 0, 0)]) (p2 := 56) rfl rfl rfl rfl (fun _ _ => rfl) rfl (zc_done hH hPS (by omega)) (Nat.le_refl _) (Nat.le_refl _) rfl (fun φ19 hR19 => ?_)
  obtain ⟨hs19_0, fr19⟩ := hR19
  have hm20 := (zq_tp_at hB (fr19 1 (by decide)))
  have hm21 := (zTJ_at hTJ (fun j h1 h2 => (fr19 j (by omega))))
  have hm22 := (zEJ_at hEJ (fun j h1 h2 => (fr19 j (by omega))))
  have hm23 := (zq_nm_at hN (fr19 239 (by decide)) (fr19 242 (by decide)) (fr19 244 (by decide)))
  have hm24 := (x_KS_at2 hKS (fun j h1 h2 h3 h4 => (fr19 j (by omega))))
  refine x_n_lt (fun hlt26 => ?_)
  have hm25 := (x_PS_at hPS (fun j hj hne => by have hj2 := x_some_lt hlt0 hne; exact (fr19 j (by omega))))
  have hm27 := (x_LK_at2 hLK0 (fun j h1 h2 => (fr19 j (by omega))))
  have hm28 := (x_SP_at hSP (fun j hj hne => by have hj2 := x_some_lt hlt0 hne; exact (fr19 j (by omega))))
  have hm29 := (zq_V5_at hV5 (fr19 485 (by decide)))
  have hm30 := (zq_SL_at hSL (fr19 482 (by decide)))
  have hm31 := (zq_RW_at hRW (fr19 483 (by decide)))
  have hm32 := (zq_J_at hJ (fr19 468 (by decide)) (fr19 469 (by decide)) (fr19 470 (by decide)))
  have hm33 := (zFJ_at hFJ (fun j h1 h2 => (fr19 j (by omega))))
  have hm34 := (zWJ_at hWJ (fun j h1 h2 => (fr19 j (by omega))))
  have hm35 := (zq_OV_at hOV (fr19 452 (by decide)) (fr19 453 (by decide)))
  exact q_retv (v := (0, 4294967295, 0)) rfl rfl (⟨rfl, ⟨by omega, by omega⟩, ⟨by omega, by omega⟩, _, rfl, ⟨⟨_, _, hs19_0, (x_hw_at hhw (fun j hj hne => by have hj2 := x_some_lt hlt0 hne; exact (fr19 j (by omega))))⟩, hm20, hm21, hm22, hm23, ⟨_, ⟨_, _, _, _, _, _, _, _, _, _, hm24⟩, hco⟩, ⟨_, _, _, hm25, hm27⟩, hm28, hm29, ⟨_, hm30⟩, hm31, hm32, hm33, hm34, ⟨_, _, hm35, hovn, hovh⟩⟩⟩)
set_option maxHeartbeats 1000000 in
theorem zc_call_2_3 {d n sl : Nat} {φ : FH} {tp : Nat → Nat} {lf : Nat} {mi : Nat} {made : Nat} {sv : Nat} {svm : Nat} {comb : Nat → Nat} {hm : Nat → MV} {sc : Nat → Nat} {sm : Nat → MV} {mh : MV} {noted : Nat} {verd : Nat} {ins : Nat → Nat} {ver : Nat → Nat} {sz : Nat} {bw : Nat → Nat} {x : Nat} {s4 s7 i j : Nat} {s10 v : Nat} (hG : zG φ 0 tp lf mi made sv svm comb hm sc sm mh noted verd ins ver sz bw) (hn0 : 486 ≤ n) (hpv : ∀ i, x_pv2 (hm i)) (hmi : mi + 300 ≤ 20000) (hx32 : x < 4294967296) (hf0 : x >>> 4 = s4) (hf1 : s4 &&& 7 = i) (hf2 : x >>> 7 = s7) (hf3 : s7 &&& 7 = j) (hf4 : x &&& 15 = 2) (hf5 : x >>> 10 = s10) (hf6 : s10 &&& 1023 = v) (hi : i < 8) (hj : j < 8) (hv : 100 ≤ v ∧ v ≤ 999) (hisA : x_isA made comb i 0) : x_f x_P (d + 12) 4 [(6, 0, 0), (0, x, 0), (11, 0, 0), (11, 0, 0), (11, 0, 0)] φ n sl (x_bR n sl 1 7 (fun zw φ2 => ∃ tpZ : Nat → Nat, zw = (0, 1, 0) ∧ zG φ2 0 tpZ 0 (mi + 1) made sv svm comb (zhm hm (i * 40 + 0) (1, v, 0, 0, [])) sc sm mh noted verd ins ver sz bw)) := by
  refine x_f_of rfl ?_
  have hG0 := hG
  obtain ⟨⟨hand, ie, hH, hhw⟩, hB, hTJ, hEJ, hN, hKJ, ⟨A, B, s9, hPS, hLK0⟩, hSP, hV5, ⟨slq, hSL⟩, hRW, hJ, hFJ, hWJ, ⟨ovn, ovh, hOV, hovn, hovh⟩⟩ := hG
  refine x_n_lt (fun hlt0 => ?_)
  have hmade := x_PS_lt hPS
  obtain ⟨co, ⟨top_, fr_, pc_, mm, st, lo, re, rs, fl, se, hKS⟩, hco⟩ := hKJ
  refine q_load (v := (0, x, 0)) (p2 := 1) rfl rfl rfl rfl ?_
  refine q_const (p2 := 2) rfl rfl ?_
  refine q_iushrz (z := s4) (p2 := 3) rfl (by omega) hf0 rfl ?_
  refine q_const (p2 := 4) rfl rfl ?_
  refine q_iandz (z := i) (p2 := 5) rfl hf1 (by omega) rfl ?_
  refine q_store (loc2 := [(6, 0, 0), (0, x, 0), (0, i, 0), (11, 0, 0), (11, 0, 0)]) (p2 := 6) rfl rfl rfl rfl rfl ?_
  refine q_load (v := (0, x, 0)) (p2 := 7) rfl rfl rfl rfl ?_
  refine q_const (p2 := 8) rfl rfl ?_
  refine q_iushrz (z := s7) (p2 := 9) rfl (by omega) hf2 rfl ?_
  refine q_const (p2 := 10) rfl rfl ?_
  refine q_iandz (z := j) (p2 := 11) rfl hf3 (by omega) rfl ?_
  refine q_store (loc2 := [(6, 0, 0), (0, x, 0), (0, i, 0), (0, j, 0), (11, 0, 0)]) (p2 := 12) rfl rfl rfl rfl rfl ?_
  refine q_const (p2 := 13) rfl rfl ?_
  refine q_store (loc2 := [(6, 0, 0), (0, x, 0), (0, i, 0), (0, j, 0), (0, 1, 0)]) (p2 := 14) rfl rfl rfl rfl rfl ?_
  refine q_load (v := (0, x, 0)) (p2 := 15) rfl rfl rfl rfl ?_
  refine q_const (p2 := 16) rfl rfl ?_
  refine q_iandz (z := 2) (p2 := 17) rfl hf4 (by omega) rfl ?_
  refine q_switch (tgt := 38) rfl (by decide) rfl ?_
  refine q_load (v := (6, 0, 0)) (p2 := 39) rfl rfl rfl rfl ?_
  refine q_load (v := (0, x, 0)) (p2 := 40) rfl rfl rfl rfl ?_
  refine q_const (p2 := 41) rfl rfl ?_
  refine q_iushrz (z := s10) (p2 := 42) rfl (by omega) hf5 rfl ?_
  refine q_const (p2 := 43) rfl rfl ?_
  refine q_iandz (z := v) (p2 := 44) rfl hf6 (by omega) rfl ?_
  refine q_callrE (xs := [(0, v, 0), (6, 0, 0)]) (p2 := 45) rfl rfl rfl rfl (fun _ _ => rfl) rfl (zc_pn_3_0 hH hB (by omega) ) (Nat.le_refl _) (Nat.le_refl _) rfl (fun φ1 hR1 => ?_)
  obtain ⟨tpq1, hH1, hB1, hq1_0, hq1_1, hq1_2, fr1⟩ := hR1
  refine q_store (loc2 := [(6, 0, 0), (0, x, 0), (0, i, 0), (0, j, 0), (0, 1, 0)]) (p2 := 46) rfl rfl rfl rfl rfl ?_
  refine q_load (v := (6, 0, 0)) (p2 := 47) rfl rfl rfl rfl ?_
  refine q_load (v := (0, 1, 0)) (p2 := 48) rfl rfl rfl rfl ?_
  refine q_if0_s (p2 := 49) rfl (by decide) (by omega) rfl (fun hb => absurd hb (show ¬ (1 = 0) by omega)) (fun _ => ?_)
  refine q_load (v := (6, 0, 0)) (p2 := 50) rfl rfl rfl rfl ?_
  refine q_load (v := (0, i, 0)) (p2 := 51) rfl rfl rfl rfl ?_
  refine q_const (p2 := 52) rfl rfl ?_
  have hm2 := (zTJ_at hTJ (fun j h1 h2 => (fr1 j (by omega) (by omega))))
  have hm3 := (zEJ_at hEJ (fun j h1 h2 => (fr1 j (by omega) (by omega))))
  have hm4 := (zq_nm_at hN (fr1 239 (by decide) (by decide)) (fr1 242 (by decide) (by decide)) (fr1 244 (by decide) (by decide)))
  have hm5 := (x_KS_at2 hKS (fun j h1 h2 h3 h4 => (fr1 j (by omega) (by omega))))
  refine x_n_lt (fun hlt7 => ?_)
  have hm6 := (x_PS_at hPS (fun j hj hne => by have hj2 := x_some_lt hlt0 hne; exact (fr1 j (by omega) (by omega))))
  have hm8 := (x_LK_at2 hLK0 (fun j h1 h2 => (fr1 j (by omega) (by omega))))
  have hm9 := (x_SP_at hSP (fun j hj hne => by have hj2 := x_some_lt hlt0 hne; exact (fr1 j (by omega) (by omega))))
  have hm10 := (zq_V5_at hV5 (fr1 485 (by decide) (by decide)))
  have hm11 := (zq_SL_at hSL (fr1 482 (by decide) (by decide)))
  have hm12 := (zq_RW_at hRW (fr1 483 (by decide) (by decide)))
  have hm13 := (zq_J_at hJ (fr1 468 (by decide) (by decide)) (fr1 469 (by decide) (by decide)) (fr1 470 (by decide) (by decide)))
  have hm14 := (zFJ_at hFJ (fun j h1 h2 => (fr1 j (by omega) (by omega))))
  have hm15 := (zWJ_at hWJ (fun j h1 h2 => (fr1 j (by omega) (by omega))))
  have hm16 := (zq_OV_at hOV (fr1 452 (by decide) (by decide)) (fr1 453 (by decide) (by decide)))
  have hGz17 : zG φ1 3 tpq1 lf mi made sv svm comb hm sc sm mh noted verd ins ver sz bw := ⟨⟨_, _, hH1, (x_hw_at hhw (fun j hj hne => by have hj2 := x_some_lt hlt0 hne; exact (fr1 j (by omega) (by omega))))⟩, hB1, hm2, hm3, hm4, ⟨_, ⟨_, _, _, _, _, _, _, _, _, _, hm5⟩, hco⟩, ⟨_, _, _, hm6, hm8⟩, hm9, hm10, ⟨_, hm11⟩, hm12, hm13, hm14, hm15, ⟨_, _, hm16, hovn, hovh⟩⟩
  refine q_callrB (xs := [(0, 0, 0), (0, i, 0), (6, 0, 0)]) (p2 := 53) rfl rfl rfl rfl (x_rcv_s 0 hH1) rfl (zc_set0_3 (x := i) (w1 := v) hGz17 (by omega) hpv (by omega) (by omega) hisA (hq1_0) (hq1_1) (hq1_2) (by omega) (by omega) (by omega) (by omega) (by omega)) rfl (fun w17 φ17 n17 sl17 hn17 hN17 hs17 hT17 hR17 => ?_)
  obtain ⟨hwz17, hGr17⟩ := hR17
  subst hwz17
  have hG := hGr17
  skip
  obtain ⟨⟨hand, ie, hH, hhw⟩, hB, hTJ, hEJ, hN, hKJ, ⟨A, B, s9, hPS, hLK0⟩, hSP, hV5, ⟨slq, hSL⟩, hRW, hJ, hFJ, hWJ, ⟨ovn, ovh, hOV, hovn, hovh⟩⟩ := hG
  refine x_n_lt (fun hlt0 => ?_)
  have hmade := x_PS_lt hPS
  obtain ⟨co, ⟨top_, fr_, pc_, mm, st, lo, re, rs, fl, se, hKS⟩, hco⟩ := hKJ
  refine q_goto rfl ?_
  refine q_callrE (xs := [(0, 1, 0), (6, 0, 0)]) (p2 := 56) rfl rfl rfl rfl (fun _ _ => rfl) rfl (zc_done hH hPS (by omega)) (Nat.le_refl _) (Nat.le_refl _) rfl (fun φ19 hR19 => ?_)
  obtain ⟨hs19_0, fr19⟩ := hR19
  have hm20 := (zq_tp_at hB (fr19 1 (by decide)))
  have hm21 := (zTJ_at hTJ (fun j h1 h2 => (fr19 j (by omega))))
  have hm22 := (zEJ_at hEJ (fun j h1 h2 => (fr19 j (by omega))))
  have hm23 := (zq_nm_at hN (fr19 239 (by decide)) (fr19 242 (by decide)) (fr19 244 (by decide)))
  have hm24 := (x_KS_at2 hKS (fun j h1 h2 h3 h4 => (fr19 j (by omega))))
  refine x_n_lt (fun hlt26 => ?_)
  have hm25 := (x_PS_at hPS (fun j hj hne => by have hj2 := x_some_lt hlt0 hne; exact (fr19 j (by omega))))
  have hm27 := (x_LK_at2 hLK0 (fun j h1 h2 => (fr19 j (by omega))))
  have hm28 := (x_SP_at hSP (fun j hj hne => by have hj2 := x_some_lt hlt0 hne; exact (fr19 j (by omega))))
  have hm29 := (zq_V5_at hV5 (fr19 485 (by decide)))
  have hm30 := (zq_SL_at hSL (fr19 482 (by decide)))
  have hm31 := (zq_RW_at hRW (fr19 483 (by decide)))
  have hm32 := (zq_J_at hJ (fr19 468 (by decide)) (fr19 469 (by decide)) (fr19 470 (by decide)))
  have hm33 := (zFJ_at hFJ (fun j h1 h2 => (fr19 j (by omega))))
  have hm34 := (zWJ_at hWJ (fun j h1 h2 => (fr19 j (by omega))))
  have hm35 := (zq_OV_at hOV (fr19 452 (by decide)) (fr19 453 (by decide)))
  exact q_retv (v := (0, 1, 0)) rfl rfl (⟨rfl, ⟨by omega, by omega⟩, ⟨by omega, by omega⟩, _, rfl, ⟨⟨_, _, hs19_0, (x_hw_at hhw (fun j hj hne => by have hj2 := x_some_lt hlt0 hne; exact (fr19 j (by omega))))⟩, hm20, hm21, hm22, hm23, ⟨_, ⟨_, _, _, _, _, _, _, _, _, _, hm24⟩, hco⟩, ⟨_, _, _, hm25, hm27⟩, hm28, hm29, ⟨_, hm30⟩, hm31, hm32, hm33, hm34, ⟨_, _, hm35, hovn, hovh⟩⟩⟩)
set_option maxHeartbeats 1000000 in
theorem zc_call_2_bad4 {d n sl : Nat} {φ : FH} {tp : Nat → Nat} {lf : Nat} {mi : Nat} {made : Nat} {sv : Nat} {svm : Nat} {comb : Nat → Nat} {hm : Nat → MV} {sc : Nat → Nat} {sm : Nat → MV} {mh : MV} {noted : Nat} {verd : Nat} {ins : Nat → Nat} {ver : Nat → Nat} {sz : Nat} {bw : Nat → Nat} {x : Nat} {s4 s7 i j : Nat} {s10 v : Nat} (hG : zG φ 0 tp lf mi made sv svm comb hm sc sm mh noted verd ins ver sz bw) (hn0 : 486 ≤ n) (hpv : ∀ i, x_pv2 (hm i)) (hmi : mi + 300 ≤ 20000) (hx32 : x < 4294967296) (hf0 : x >>> 4 = s4) (hf1 : s4 &&& 7 = i) (hf2 : x >>> 7 = s7) (hf3 : s7 &&& 7 = j) (hf4 : x &&& 15 = 2) (hf5 : x >>> 10 = s10) (hf6 : s10 &&& 1023 = v) (hi : i < 8) (hj : j < 8) (hv : 1000 ≤ v ∧ v ≤ 1023) (hna : ¬ x_isA made comb i 0) : x_f x_P (d + 5) 4 [(6, 0, 0), (0, x, 0), (11, 0, 0), (11, 0, 0), (11, 0, 0)] φ n sl (x_bR n sl 0 0 (fun zw φ2 => ∃ tpZ : Nat → Nat, zw = (0, 4294967295, 0) ∧ zG φ2 0 tpZ lf mi made sv svm comb hm sc sm mh noted verd ins ver sz bw)) := by
  refine x_f_of rfl ?_
  have hG0 := hG
  obtain ⟨⟨hand, ie, hH, hhw⟩, hB, hTJ, hEJ, hN, hKJ, ⟨A, B, s9, hPS, hLK0⟩, hSP, hV5, ⟨slq, hSL⟩, hRW, hJ, hFJ, hWJ, ⟨ovn, ovh, hOV, hovn, hovh⟩⟩ := hG
  refine x_n_lt (fun hlt0 => ?_)
  have hmade := x_PS_lt hPS
  obtain ⟨co, ⟨top_, fr_, pc_, mm, st, lo, re, rs, fl, se, hKS⟩, hco⟩ := hKJ
  refine q_load (v := (0, x, 0)) (p2 := 1) rfl rfl rfl rfl ?_
  refine q_const (p2 := 2) rfl rfl ?_
  refine q_iushrz (z := s4) (p2 := 3) rfl (by omega) hf0 rfl ?_
  refine q_const (p2 := 4) rfl rfl ?_
  refine q_iandz (z := i) (p2 := 5) rfl hf1 (by omega) rfl ?_
  refine q_store (loc2 := [(6, 0, 0), (0, x, 0), (0, i, 0), (11, 0, 0), (11, 0, 0)]) (p2 := 6) rfl rfl rfl rfl rfl ?_
  refine q_load (v := (0, x, 0)) (p2 := 7) rfl rfl rfl rfl ?_
  refine q_const (p2 := 8) rfl rfl ?_
  refine q_iushrz (z := s7) (p2 := 9) rfl (by omega) hf2 rfl ?_
  refine q_const (p2 := 10) rfl rfl ?_
  refine q_iandz (z := j) (p2 := 11) rfl hf3 (by omega) rfl ?_
  refine q_store (loc2 := [(6, 0, 0), (0, x, 0), (0, i, 0), (0, j, 0), (11, 0, 0)]) (p2 := 12) rfl rfl rfl rfl rfl ?_
  refine q_const (p2 := 13) rfl rfl ?_
  refine q_store (loc2 := [(6, 0, 0), (0, x, 0), (0, i, 0), (0, j, 0), (0, 1, 0)]) (p2 := 14) rfl rfl rfl rfl rfl ?_
  refine q_load (v := (0, x, 0)) (p2 := 15) rfl rfl rfl rfl ?_
  refine q_const (p2 := 16) rfl rfl ?_
  refine q_iandz (z := 2) (p2 := 17) rfl hf4 (by omega) rfl ?_
  refine q_switch (tgt := 38) rfl (by decide) rfl ?_
  refine q_load (v := (6, 0, 0)) (p2 := 39) rfl rfl rfl rfl ?_
  refine q_load (v := (0, x, 0)) (p2 := 40) rfl rfl rfl rfl ?_
  refine q_const (p2 := 41) rfl rfl ?_
  refine q_iushrz (z := s10) (p2 := 42) rfl (by omega) hf5 rfl ?_
  refine q_const (p2 := 43) rfl rfl ?_
  refine q_iandz (z := v) (p2 := 44) rfl hf6 (by omega) rfl ?_
  refine q_callrE (xs := [(0, v, 0), (6, 0, 0)]) (p2 := 45) rfl rfl rfl rfl (fun _ _ => rfl) rfl (zc_pn_4_0 hH hB (by omega) ) (Nat.le_refl _) (Nat.le_refl _) rfl (fun φ1 hR1 => ?_)
  obtain ⟨tpq1, hH1, hB1, hq1_0, hq1_1, hq1_2, hq1_3, fr1⟩ := hR1
  refine q_store (loc2 := [(6, 0, 0), (0, x, 0), (0, i, 0), (0, j, 0), (0, 1, 0)]) (p2 := 46) rfl rfl rfl rfl rfl ?_
  refine q_load (v := (6, 0, 0)) (p2 := 47) rfl rfl rfl rfl ?_
  refine q_load (v := (0, 1, 0)) (p2 := 48) rfl rfl rfl rfl ?_
  refine q_if0_s (p2 := 49) rfl (by decide) (by omega) rfl (fun hb => absurd hb (show ¬ (1 = 0) by omega)) (fun _ => ?_)
  refine q_load (v := (6, 0, 0)) (p2 := 50) rfl rfl rfl rfl ?_
  refine q_load (v := (0, i, 0)) (p2 := 51) rfl rfl rfl rfl ?_
  refine q_const (p2 := 52) rfl rfl ?_
  have hm2 := (zTJ_at hTJ (fun j h1 h2 => (fr1 j (by omega) (by omega))))
  have hm3 := (zEJ_at hEJ (fun j h1 h2 => (fr1 j (by omega) (by omega))))
  have hm4 := (zq_nm_at hN (fr1 239 (by decide) (by decide)) (fr1 242 (by decide) (by decide)) (fr1 244 (by decide) (by decide)))
  have hm5 := (x_KS_at2 hKS (fun j h1 h2 h3 h4 => (fr1 j (by omega) (by omega))))
  refine x_n_lt (fun hlt7 => ?_)
  have hm6 := (x_PS_at hPS (fun j hj hne => by have hj2 := x_some_lt hlt0 hne; exact (fr1 j (by omega) (by omega))))
  have hm8 := (x_LK_at2 hLK0 (fun j h1 h2 => (fr1 j (by omega) (by omega))))
  have hm9 := (x_SP_at hSP (fun j hj hne => by have hj2 := x_some_lt hlt0 hne; exact (fr1 j (by omega) (by omega))))
  have hm10 := (zq_V5_at hV5 (fr1 485 (by decide) (by decide)))
  have hm11 := (zq_SL_at hSL (fr1 482 (by decide) (by decide)))
  have hm12 := (zq_RW_at hRW (fr1 483 (by decide) (by decide)))
  have hm13 := (zq_J_at hJ (fr1 468 (by decide) (by decide)) (fr1 469 (by decide) (by decide)) (fr1 470 (by decide) (by decide)))
  have hm14 := (zFJ_at hFJ (fun j h1 h2 => (fr1 j (by omega) (by omega))))
  have hm15 := (zWJ_at hWJ (fun j h1 h2 => (fr1 j (by omega) (by omega))))
  have hm16 := (zq_OV_at hOV (fr1 452 (by decide) (by decide)) (fr1 453 (by decide) (by decide)))
  have hGz17 : zG φ1 4 tpq1 lf mi made sv svm comb hm sc sm mh noted verd ins ver sz bw := ⟨⟨_, _, hH1, (x_hw_at hhw (fun j hj hne => by have hj2 := x_some_lt hlt0 hne; exact (fr1 j (by omega) (by omega))))⟩, hB1, hm2, hm3, hm4, ⟨_, ⟨_, _, _, _, _, _, _, _, _, _, hm5⟩, hco⟩, ⟨_, _, _, hm6, hm8⟩, hm9, hm10, ⟨_, hm11⟩, hm12, hm13, hm14, hm15, ⟨_, _, hm16, hovn, hovh⟩⟩
  refine q_callrB (xs := [(0, 0, 0), (0, i, 0), (6, 0, 0)]) (p2 := 53) rfl rfl rfl rfl (x_rcv_s 0 hH1) rfl (zc_set0_bad (x := i) hGz17 (by omega) hpv (by omega) (by omega) hna) rfl (fun w17 φ17 n17 sl17 hn17 hN17 hs17 hT17 hR17 => ?_)
  obtain ⟨hwz17, hGr17⟩ := hR17
  subst hwz17
  have hG := hGr17
  skip
  obtain ⟨⟨hand, ie, hH, hhw⟩, hB, hTJ, hEJ, hN, hKJ, ⟨A, B, s9, hPS, hLK0⟩, hSP, hV5, ⟨slq, hSL⟩, hRW, hJ, hFJ, hWJ, ⟨ovn, ovh, hOV, hovn, hovh⟩⟩ := hG
  refine x_n_lt (fun hlt0 => ?_)
  have hmade := x_PS_lt hPS
  obtain ⟨co, ⟨top_, fr_, pc_, mm, st, lo, re, rs, fl, se, hKS⟩, hco⟩ := hKJ
  refine q_goto rfl ?_
  refine q_callrE (xs := [(0, 4294967295, 0), (6, 0, 0)]) (p2 := 56) rfl rfl rfl rfl (fun _ _ => rfl) rfl (zc_done hH hPS (by omega)) (Nat.le_refl _) (Nat.le_refl _) rfl (fun φ19 hR19 => ?_)
  obtain ⟨hs19_0, fr19⟩ := hR19
  have hm20 := (zq_tp_at hB (fr19 1 (by decide)))
  have hm21 := (zTJ_at hTJ (fun j h1 h2 => (fr19 j (by omega))))
  have hm22 := (zEJ_at hEJ (fun j h1 h2 => (fr19 j (by omega))))
  have hm23 := (zq_nm_at hN (fr19 239 (by decide)) (fr19 242 (by decide)) (fr19 244 (by decide)))
  have hm24 := (x_KS_at2 hKS (fun j h1 h2 h3 h4 => (fr19 j (by omega))))
  refine x_n_lt (fun hlt26 => ?_)
  have hm25 := (x_PS_at hPS (fun j hj hne => by have hj2 := x_some_lt hlt0 hne; exact (fr19 j (by omega))))
  have hm27 := (x_LK_at2 hLK0 (fun j h1 h2 => (fr19 j (by omega))))
  have hm28 := (x_SP_at hSP (fun j hj hne => by have hj2 := x_some_lt hlt0 hne; exact (fr19 j (by omega))))
  have hm29 := (zq_V5_at hV5 (fr19 485 (by decide)))
  have hm30 := (zq_SL_at hSL (fr19 482 (by decide)))
  have hm31 := (zq_RW_at hRW (fr19 483 (by decide)))
  have hm32 := (zq_J_at hJ (fr19 468 (by decide)) (fr19 469 (by decide)) (fr19 470 (by decide)))
  have hm33 := (zFJ_at hFJ (fun j h1 h2 => (fr19 j (by omega))))
  have hm34 := (zWJ_at hWJ (fun j h1 h2 => (fr19 j (by omega))))
  have hm35 := (zq_OV_at hOV (fr19 452 (by decide)) (fr19 453 (by decide)))
  exact q_retv (v := (0, 4294967295, 0)) rfl rfl (⟨rfl, ⟨by omega, by omega⟩, ⟨by omega, by omega⟩, _, rfl, ⟨⟨_, _, hs19_0, (x_hw_at hhw (fun j hj hne => by have hj2 := x_some_lt hlt0 hne; exact (fr19 j (by omega))))⟩, hm20, hm21, hm22, hm23, ⟨_, ⟨_, _, _, _, _, _, _, _, _, _, hm24⟩, hco⟩, ⟨_, _, _, hm25, hm27⟩, hm28, hm29, ⟨_, hm30⟩, hm31, hm32, hm33, hm34, ⟨_, _, hm35, hovn, hovh⟩⟩⟩)
set_option maxHeartbeats 1000000 in
theorem zc_call_2_4 {d n sl : Nat} {φ : FH} {tp : Nat → Nat} {lf : Nat} {mi : Nat} {made : Nat} {sv : Nat} {svm : Nat} {comb : Nat → Nat} {hm : Nat → MV} {sc : Nat → Nat} {sm : Nat → MV} {mh : MV} {noted : Nat} {verd : Nat} {ins : Nat → Nat} {ver : Nat → Nat} {sz : Nat} {bw : Nat → Nat} {x : Nat} {s4 s7 i j : Nat} {s10 v : Nat} (hG : zG φ 0 tp lf mi made sv svm comb hm sc sm mh noted verd ins ver sz bw) (hn0 : 486 ≤ n) (hpv : ∀ i, x_pv2 (hm i)) (hmi : mi + 300 ≤ 20000) (hx32 : x < 4294967296) (hf0 : x >>> 4 = s4) (hf1 : s4 &&& 7 = i) (hf2 : x >>> 7 = s7) (hf3 : s7 &&& 7 = j) (hf4 : x &&& 15 = 2) (hf5 : x >>> 10 = s10) (hf6 : s10 &&& 1023 = v) (hi : i < 8) (hj : j < 8) (hv : 1000 ≤ v ∧ v ≤ 1023) (hisA : x_isA made comb i 0) : x_f x_P (d + 12) 4 [(6, 0, 0), (0, x, 0), (11, 0, 0), (11, 0, 0), (11, 0, 0)] φ n sl (x_bR n sl 1 7 (fun zw φ2 => ∃ tpZ : Nat → Nat, zw = (0, 1, 0) ∧ zG φ2 0 tpZ 0 (mi + 1) made sv svm comb (zhm hm (i * 40 + 0) (1, v, 0, 0, [])) sc sm mh noted verd ins ver sz bw)) := by
  refine x_f_of rfl ?_
  have hG0 := hG
  obtain ⟨⟨hand, ie, hH, hhw⟩, hB, hTJ, hEJ, hN, hKJ, ⟨A, B, s9, hPS, hLK0⟩, hSP, hV5, ⟨slq, hSL⟩, hRW, hJ, hFJ, hWJ, ⟨ovn, ovh, hOV, hovn, hovh⟩⟩ := hG
  refine x_n_lt (fun hlt0 => ?_)
  have hmade := x_PS_lt hPS
  obtain ⟨co, ⟨top_, fr_, pc_, mm, st, lo, re, rs, fl, se, hKS⟩, hco⟩ := hKJ
  refine q_load (v := (0, x, 0)) (p2 := 1) rfl rfl rfl rfl ?_
  refine q_const (p2 := 2) rfl rfl ?_
  refine q_iushrz (z := s4) (p2 := 3) rfl (by omega) hf0 rfl ?_
  refine q_const (p2 := 4) rfl rfl ?_
  refine q_iandz (z := i) (p2 := 5) rfl hf1 (by omega) rfl ?_
  refine q_store (loc2 := [(6, 0, 0), (0, x, 0), (0, i, 0), (11, 0, 0), (11, 0, 0)]) (p2 := 6) rfl rfl rfl rfl rfl ?_
  refine q_load (v := (0, x, 0)) (p2 := 7) rfl rfl rfl rfl ?_
  refine q_const (p2 := 8) rfl rfl ?_
  refine q_iushrz (z := s7) (p2 := 9) rfl (by omega) hf2 rfl ?_
  refine q_const (p2 := 10) rfl rfl ?_
  refine q_iandz (z := j) (p2 := 11) rfl hf3 (by omega) rfl ?_
  refine q_store (loc2 := [(6, 0, 0), (0, x, 0), (0, i, 0), (0, j, 0), (11, 0, 0)]) (p2 := 12) rfl rfl rfl rfl rfl ?_
  refine q_const (p2 := 13) rfl rfl ?_
  refine q_store (loc2 := [(6, 0, 0), (0, x, 0), (0, i, 0), (0, j, 0), (0, 1, 0)]) (p2 := 14) rfl rfl rfl rfl rfl ?_
  refine q_load (v := (0, x, 0)) (p2 := 15) rfl rfl rfl rfl ?_
  refine q_const (p2 := 16) rfl rfl ?_
  refine q_iandz (z := 2) (p2 := 17) rfl hf4 (by omega) rfl ?_
  refine q_switch (tgt := 38) rfl (by decide) rfl ?_
  refine q_load (v := (6, 0, 0)) (p2 := 39) rfl rfl rfl rfl ?_
  refine q_load (v := (0, x, 0)) (p2 := 40) rfl rfl rfl rfl ?_
  refine q_const (p2 := 41) rfl rfl ?_
  refine q_iushrz (z := s10) (p2 := 42) rfl (by omega) hf5 rfl ?_
  refine q_const (p2 := 43) rfl rfl ?_
  refine q_iandz (z := v) (p2 := 44) rfl hf6 (by omega) rfl ?_
  refine q_callrE (xs := [(0, v, 0), (6, 0, 0)]) (p2 := 45) rfl rfl rfl rfl (fun _ _ => rfl) rfl (zc_pn_4_0 hH hB (by omega) ) (Nat.le_refl _) (Nat.le_refl _) rfl (fun φ1 hR1 => ?_)
  obtain ⟨tpq1, hH1, hB1, hq1_0, hq1_1, hq1_2, hq1_3, fr1⟩ := hR1
  refine q_store (loc2 := [(6, 0, 0), (0, x, 0), (0, i, 0), (0, j, 0), (0, 1, 0)]) (p2 := 46) rfl rfl rfl rfl rfl ?_
  refine q_load (v := (6, 0, 0)) (p2 := 47) rfl rfl rfl rfl ?_
  refine q_load (v := (0, 1, 0)) (p2 := 48) rfl rfl rfl rfl ?_
  refine q_if0_s (p2 := 49) rfl (by decide) (by omega) rfl (fun hb => absurd hb (show ¬ (1 = 0) by omega)) (fun _ => ?_)
  refine q_load (v := (6, 0, 0)) (p2 := 50) rfl rfl rfl rfl ?_
  refine q_load (v := (0, i, 0)) (p2 := 51) rfl rfl rfl rfl ?_
  refine q_const (p2 := 52) rfl rfl ?_
  have hm2 := (zTJ_at hTJ (fun j h1 h2 => (fr1 j (by omega) (by omega))))
  have hm3 := (zEJ_at hEJ (fun j h1 h2 => (fr1 j (by omega) (by omega))))
  have hm4 := (zq_nm_at hN (fr1 239 (by decide) (by decide)) (fr1 242 (by decide) (by decide)) (fr1 244 (by decide) (by decide)))
  have hm5 := (x_KS_at2 hKS (fun j h1 h2 h3 h4 => (fr1 j (by omega) (by omega))))
  refine x_n_lt (fun hlt7 => ?_)
  have hm6 := (x_PS_at hPS (fun j hj hne => by have hj2 := x_some_lt hlt0 hne; exact (fr1 j (by omega) (by omega))))
  have hm8 := (x_LK_at2 hLK0 (fun j h1 h2 => (fr1 j (by omega) (by omega))))
  have hm9 := (x_SP_at hSP (fun j hj hne => by have hj2 := x_some_lt hlt0 hne; exact (fr1 j (by omega) (by omega))))
  have hm10 := (zq_V5_at hV5 (fr1 485 (by decide) (by decide)))
  have hm11 := (zq_SL_at hSL (fr1 482 (by decide) (by decide)))
  have hm12 := (zq_RW_at hRW (fr1 483 (by decide) (by decide)))
  have hm13 := (zq_J_at hJ (fr1 468 (by decide) (by decide)) (fr1 469 (by decide) (by decide)) (fr1 470 (by decide) (by decide)))
  have hm14 := (zFJ_at hFJ (fun j h1 h2 => (fr1 j (by omega) (by omega))))
  have hm15 := (zWJ_at hWJ (fun j h1 h2 => (fr1 j (by omega) (by omega))))
  have hm16 := (zq_OV_at hOV (fr1 452 (by decide) (by decide)) (fr1 453 (by decide) (by decide)))
  have hGz17 : zG φ1 4 tpq1 lf mi made sv svm comb hm sc sm mh noted verd ins ver sz bw := ⟨⟨_, _, hH1, (x_hw_at hhw (fun j hj hne => by have hj2 := x_some_lt hlt0 hne; exact (fr1 j (by omega) (by omega))))⟩, hB1, hm2, hm3, hm4, ⟨_, ⟨_, _, _, _, _, _, _, _, _, _, hm5⟩, hco⟩, ⟨_, _, _, hm6, hm8⟩, hm9, hm10, ⟨_, hm11⟩, hm12, hm13, hm14, hm15, ⟨_, _, hm16, hovn, hovh⟩⟩
  refine q_callrB (xs := [(0, 0, 0), (0, i, 0), (6, 0, 0)]) (p2 := 53) rfl rfl rfl rfl (x_rcv_s 0 hH1) rfl (zc_set0_4 (x := i) (w1 := v) hGz17 (by omega) hpv (by omega) (by omega) hisA (hq1_0) (hq1_1) (hq1_2) (hq1_3) (by omega) (by omega) (by omega) (by omega) (by omega) (by omega)) rfl (fun w17 φ17 n17 sl17 hn17 hN17 hs17 hT17 hR17 => ?_)
  obtain ⟨hwz17, hGr17⟩ := hR17
  subst hwz17
  have hG := hGr17
  skip
  obtain ⟨⟨hand, ie, hH, hhw⟩, hB, hTJ, hEJ, hN, hKJ, ⟨A, B, s9, hPS, hLK0⟩, hSP, hV5, ⟨slq, hSL⟩, hRW, hJ, hFJ, hWJ, ⟨ovn, ovh, hOV, hovn, hovh⟩⟩ := hG
  refine x_n_lt (fun hlt0 => ?_)
  have hmade := x_PS_lt hPS
  obtain ⟨co, ⟨top_, fr_, pc_, mm, st, lo, re, rs, fl, se, hKS⟩, hco⟩ := hKJ
  refine q_goto rfl ?_
  refine q_callrE (xs := [(0, 1, 0), (6, 0, 0)]) (p2 := 56) rfl rfl rfl rfl (fun _ _ => rfl) rfl (zc_done hH hPS (by omega)) (Nat.le_refl _) (Nat.le_refl _) rfl (fun φ19 hR19 => ?_)
  obtain ⟨hs19_0, fr19⟩ := hR19
  have hm20 := (zq_tp_at hB (fr19 1 (by decide)))
  have hm21 := (zTJ_at hTJ (fun j h1 h2 => (fr19 j (by omega))))
  have hm22 := (zEJ_at hEJ (fun j h1 h2 => (fr19 j (by omega))))
  have hm23 := (zq_nm_at hN (fr19 239 (by decide)) (fr19 242 (by decide)) (fr19 244 (by decide)))
  have hm24 := (x_KS_at2 hKS (fun j h1 h2 h3 h4 => (fr19 j (by omega))))
  refine x_n_lt (fun hlt26 => ?_)
  have hm25 := (x_PS_at hPS (fun j hj hne => by have hj2 := x_some_lt hlt0 hne; exact (fr19 j (by omega))))
  have hm27 := (x_LK_at2 hLK0 (fun j h1 h2 => (fr19 j (by omega))))
  have hm28 := (x_SP_at hSP (fun j hj hne => by have hj2 := x_some_lt hlt0 hne; exact (fr19 j (by omega))))
  have hm29 := (zq_V5_at hV5 (fr19 485 (by decide)))
  have hm30 := (zq_SL_at hSL (fr19 482 (by decide)))
  have hm31 := (zq_RW_at hRW (fr19 483 (by decide)))
  have hm32 := (zq_J_at hJ (fr19 468 (by decide)) (fr19 469 (by decide)) (fr19 470 (by decide)))
  have hm33 := (zFJ_at hFJ (fun j h1 h2 => (fr19 j (by omega))))
  have hm34 := (zWJ_at hWJ (fun j h1 h2 => (fr19 j (by omega))))
  have hm35 := (zq_OV_at hOV (fr19 452 (by decide)) (fr19 453 (by decide)))
  exact q_retv (v := (0, 1, 0)) rfl rfl (⟨rfl, ⟨by omega, by omega⟩, ⟨by omega, by omega⟩, _, rfl, ⟨⟨_, _, hs19_0, (x_hw_at hhw (fun j hj hne => by have hj2 := x_some_lt hlt0 hne; exact (fr19 j (by omega))))⟩, hm20, hm21, hm22, hm23, ⟨_, ⟨_, _, _, _, _, _, _, _, _, _, hm24⟩, hco⟩, ⟨_, _, _, hm25, hm27⟩, hm28, hm29, ⟨_, hm30⟩, hm31, hm32, hm33, hm34, ⟨_, _, hm35, hovn, hovh⟩⟩⟩)
set_option maxHeartbeats 1000000 in
theorem zc_call_3_bad1 {d n sl : Nat} {φ : FH} {tp : Nat → Nat} {lf : Nat} {mi : Nat} {made : Nat} {sv : Nat} {svm : Nat} {comb : Nat → Nat} {hm : Nat → MV} {sc : Nat → Nat} {sm : Nat → MV} {mh : MV} {noted : Nat} {verd : Nat} {ins : Nat → Nat} {ver : Nat → Nat} {sz : Nat} {bw : Nat → Nat} {x : Nat} {s4 s7 i j : Nat} {s10 v : Nat} (hG : zG φ 0 tp lf mi made sv svm comb hm sc sm mh noted verd ins ver sz bw) (hn0 : 486 ≤ n) (hpv : ∀ i, x_pv2 (hm i)) (hmi : mi + 300 ≤ 20000) (hx32 : x < 4294967296) (hf0 : x >>> 4 = s4) (hf1 : s4 &&& 7 = i) (hf2 : x >>> 7 = s7) (hf3 : s7 &&& 7 = j) (hf4 : x &&& 15 = 3) (hf5 : x >>> 10 = s10) (hf6 : s10 &&& 1023 = v) (hi : i < 8) (hj : j < 8) (hv : 0 ≤ v ∧ v ≤ 9) (hna : ¬ x_isA made comb i 0) : x_f x_P (d + 5) 4 [(6, 0, 0), (0, x, 0), (11, 0, 0), (11, 0, 0), (11, 0, 0)] φ n sl (x_bR n sl 0 0 (fun zw φ2 => ∃ tpZ : Nat → Nat, zw = (0, 4294967295, 0) ∧ zG φ2 0 tpZ lf mi made sv svm comb hm sc sm mh noted verd ins ver sz bw)) := by
  refine x_f_of rfl ?_
  have hG0 := hG
  obtain ⟨⟨hand, ie, hH, hhw⟩, hB, hTJ, hEJ, hN, hKJ, ⟨A, B, s9, hPS, hLK0⟩, hSP, hV5, ⟨slq, hSL⟩, hRW, hJ, hFJ, hWJ, ⟨ovn, ovh, hOV, hovn, hovh⟩⟩ := hG
  refine x_n_lt (fun hlt0 => ?_)
  have hmade := x_PS_lt hPS
  obtain ⟨co, ⟨top_, fr_, pc_, mm, st, lo, re, rs, fl, se, hKS⟩, hco⟩ := hKJ
  refine q_load (v := (0, x, 0)) (p2 := 1) rfl rfl rfl rfl ?_
  refine q_const (p2 := 2) rfl rfl ?_
  refine q_iushrz (z := s4) (p2 := 3) rfl (by omega) hf0 rfl ?_
  refine q_const (p2 := 4) rfl rfl ?_
  refine q_iandz (z := i) (p2 := 5) rfl hf1 (by omega) rfl ?_
  refine q_store (loc2 := [(6, 0, 0), (0, x, 0), (0, i, 0), (11, 0, 0), (11, 0, 0)]) (p2 := 6) rfl rfl rfl rfl rfl ?_
  refine q_load (v := (0, x, 0)) (p2 := 7) rfl rfl rfl rfl ?_
  refine q_const (p2 := 8) rfl rfl ?_
  refine q_iushrz (z := s7) (p2 := 9) rfl (by omega) hf2 rfl ?_
  refine q_const (p2 := 10) rfl rfl ?_
  refine q_iandz (z := j) (p2 := 11) rfl hf3 (by omega) rfl ?_
  refine q_store (loc2 := [(6, 0, 0), (0, x, 0), (0, i, 0), (0, j, 0), (11, 0, 0)]) (p2 := 12) rfl rfl rfl rfl rfl ?_
  refine q_const (p2 := 13) rfl rfl ?_
  refine q_store (loc2 := [(6, 0, 0), (0, x, 0), (0, i, 0), (0, j, 0), (0, 1, 0)]) (p2 := 14) rfl rfl rfl rfl rfl ?_
  refine q_load (v := (0, x, 0)) (p2 := 15) rfl rfl rfl rfl ?_
  refine q_const (p2 := 16) rfl rfl ?_
  refine q_iandz (z := 3) (p2 := 17) rfl hf4 (by omega) rfl ?_
  refine q_switch (tgt := 38) rfl (by decide) rfl ?_
  refine q_load (v := (6, 0, 0)) (p2 := 39) rfl rfl rfl rfl ?_
  refine q_load (v := (0, x, 0)) (p2 := 40) rfl rfl rfl rfl ?_
  refine q_const (p2 := 41) rfl rfl ?_
  refine q_iushrz (z := s10) (p2 := 42) rfl (by omega) hf5 rfl ?_
  refine q_const (p2 := 43) rfl rfl ?_
  refine q_iandz (z := v) (p2 := 44) rfl hf6 (by omega) rfl ?_
  refine q_callrE (xs := [(0, v, 0), (6, 0, 0)]) (p2 := 45) rfl rfl rfl rfl (fun _ _ => rfl) rfl (zc_pn_1_0 hH hB (by omega) ) (Nat.le_refl _) (Nat.le_refl _) rfl (fun φ1 hR1 => ?_)
  obtain ⟨tpq1, hH1, hB1, hq1_0, fr1⟩ := hR1
  refine q_store (loc2 := [(6, 0, 0), (0, x, 0), (0, i, 0), (0, j, 0), (0, 1, 0)]) (p2 := 46) rfl rfl rfl rfl rfl ?_
  refine q_load (v := (6, 0, 0)) (p2 := 47) rfl rfl rfl rfl ?_
  refine q_load (v := (0, 1, 0)) (p2 := 48) rfl rfl rfl rfl ?_
  refine q_if0_s (p2 := 49) rfl (by decide) (by omega) rfl (fun hb => absurd hb (show ¬ (1 = 0) by omega)) (fun _ => ?_)
  refine q_load (v := (6, 0, 0)) (p2 := 50) rfl rfl rfl rfl ?_
  refine q_load (v := (0, i, 0)) (p2 := 51) rfl rfl rfl rfl ?_
  refine q_const (p2 := 52) rfl rfl ?_
  have hm2 := (zTJ_at hTJ (fun j h1 h2 => (fr1 j (by omega) (by omega))))
  have hm3 := (zEJ_at hEJ (fun j h1 h2 => (fr1 j (by omega) (by omega))))
  have hm4 := (zq_nm_at hN (fr1 239 (by decide) (by decide)) (fr1 242 (by decide) (by decide)) (fr1 244 (by decide) (by decide)))
  have hm5 := (x_KS_at2 hKS (fun j h1 h2 h3 h4 => (fr1 j (by omega) (by omega))))
  refine x_n_lt (fun hlt7 => ?_)
  have hm6 := (x_PS_at hPS (fun j hj hne => by have hj2 := x_some_lt hlt0 hne; exact (fr1 j (by omega) (by omega))))
  have hm8 := (x_LK_at2 hLK0 (fun j h1 h2 => (fr1 j (by omega) (by omega))))
  have hm9 := (x_SP_at hSP (fun j hj hne => by have hj2 := x_some_lt hlt0 hne; exact (fr1 j (by omega) (by omega))))
  have hm10 := (zq_V5_at hV5 (fr1 485 (by decide) (by decide)))
  have hm11 := (zq_SL_at hSL (fr1 482 (by decide) (by decide)))
  have hm12 := (zq_RW_at hRW (fr1 483 (by decide) (by decide)))
  have hm13 := (zq_J_at hJ (fr1 468 (by decide) (by decide)) (fr1 469 (by decide) (by decide)) (fr1 470 (by decide) (by decide)))
  have hm14 := (zFJ_at hFJ (fun j h1 h2 => (fr1 j (by omega) (by omega))))
  have hm15 := (zWJ_at hWJ (fun j h1 h2 => (fr1 j (by omega) (by omega))))
  have hm16 := (zq_OV_at hOV (fr1 452 (by decide) (by decide)) (fr1 453 (by decide) (by decide)))
  have hGz17 : zG φ1 1 tpq1 lf mi made sv svm comb hm sc sm mh noted verd ins ver sz bw := ⟨⟨_, _, hH1, (x_hw_at hhw (fun j hj hne => by have hj2 := x_some_lt hlt0 hne; exact (fr1 j (by omega) (by omega))))⟩, hB1, hm2, hm3, hm4, ⟨_, ⟨_, _, _, _, _, _, _, _, _, _, hm5⟩, hco⟩, ⟨_, _, _, hm6, hm8⟩, hm9, hm10, ⟨_, hm11⟩, hm12, hm13, hm14, hm15, ⟨_, _, hm16, hovn, hovh⟩⟩
  refine q_callrB (xs := [(0, 0, 0), (0, i, 0), (6, 0, 0)]) (p2 := 53) rfl rfl rfl rfl (x_rcv_s 0 hH1) rfl (zc_set0_bad (x := i) hGz17 (by omega) hpv (by omega) (by omega) hna) rfl (fun w17 φ17 n17 sl17 hn17 hN17 hs17 hT17 hR17 => ?_)
  obtain ⟨hwz17, hGr17⟩ := hR17
  subst hwz17
  have hG := hGr17
  skip
  obtain ⟨⟨hand, ie, hH, hhw⟩, hB, hTJ, hEJ, hN, hKJ, ⟨A, B, s9, hPS, hLK0⟩, hSP, hV5, ⟨slq, hSL⟩, hRW, hJ, hFJ, hWJ, ⟨ovn, ovh, hOV, hovn, hovh⟩⟩ := hG
  refine x_n_lt (fun hlt0 => ?_)
  have hmade := x_PS_lt hPS
  obtain ⟨co, ⟨top_, fr_, pc_, mm, st, lo, re, rs, fl, se, hKS⟩, hco⟩ := hKJ
  refine q_goto rfl ?_
  refine q_callrE (xs := [(0, 4294967295, 0), (6, 0, 0)]) (p2 := 56) rfl rfl rfl rfl (fun _ _ => rfl) rfl (zc_done hH hPS (by omega)) (Nat.le_refl _) (Nat.le_refl _) rfl (fun φ19 hR19 => ?_)
  obtain ⟨hs19_0, fr19⟩ := hR19
  have hm20 := (zq_tp_at hB (fr19 1 (by decide)))
  have hm21 := (zTJ_at hTJ (fun j h1 h2 => (fr19 j (by omega))))
  have hm22 := (zEJ_at hEJ (fun j h1 h2 => (fr19 j (by omega))))
  have hm23 := (zq_nm_at hN (fr19 239 (by decide)) (fr19 242 (by decide)) (fr19 244 (by decide)))
  have hm24 := (x_KS_at2 hKS (fun j h1 h2 h3 h4 => (fr19 j (by omega))))
  refine x_n_lt (fun hlt26 => ?_)
  have hm25 := (x_PS_at hPS (fun j hj hne => by have hj2 := x_some_lt hlt0 hne; exact (fr19 j (by omega))))
  have hm27 := (x_LK_at2 hLK0 (fun j h1 h2 => (fr19 j (by omega))))
  have hm28 := (x_SP_at hSP (fun j hj hne => by have hj2 := x_some_lt hlt0 hne; exact (fr19 j (by omega))))
  have hm29 := (zq_V5_at hV5 (fr19 485 (by decide)))
  have hm30 := (zq_SL_at hSL (fr19 482 (by decide)))
  have hm31 := (zq_RW_at hRW (fr19 483 (by decide)))
  have hm32 := (zq_J_at hJ (fr19 468 (by decide)) (fr19 469 (by decide)) (fr19 470 (by decide)))
  have hm33 := (zFJ_at hFJ (fun j h1 h2 => (fr19 j (by omega))))
  have hm34 := (zWJ_at hWJ (fun j h1 h2 => (fr19 j (by omega))))
  have hm35 := (zq_OV_at hOV (fr19 452 (by decide)) (fr19 453 (by decide)))
  exact q_retv (v := (0, 4294967295, 0)) rfl rfl (⟨rfl, ⟨by omega, by omega⟩, ⟨by omega, by omega⟩, _, rfl, ⟨⟨_, _, hs19_0, (x_hw_at hhw (fun j hj hne => by have hj2 := x_some_lt hlt0 hne; exact (fr19 j (by omega))))⟩, hm20, hm21, hm22, hm23, ⟨_, ⟨_, _, _, _, _, _, _, _, _, _, hm24⟩, hco⟩, ⟨_, _, _, hm25, hm27⟩, hm28, hm29, ⟨_, hm30⟩, hm31, hm32, hm33, hm34, ⟨_, _, hm35, hovn, hovh⟩⟩⟩)
set_option maxHeartbeats 1000000 in
theorem zc_call_3_1 {d n sl : Nat} {φ : FH} {tp : Nat → Nat} {lf : Nat} {mi : Nat} {made : Nat} {sv : Nat} {svm : Nat} {comb : Nat → Nat} {hm : Nat → MV} {sc : Nat → Nat} {sm : Nat → MV} {mh : MV} {noted : Nat} {verd : Nat} {ins : Nat → Nat} {ver : Nat → Nat} {sz : Nat} {bw : Nat → Nat} {x : Nat} {s4 s7 i j : Nat} {s10 v : Nat} (hG : zG φ 0 tp lf mi made sv svm comb hm sc sm mh noted verd ins ver sz bw) (hn0 : 486 ≤ n) (hpv : ∀ i, x_pv2 (hm i)) (hmi : mi + 300 ≤ 20000) (hx32 : x < 4294967296) (hf0 : x >>> 4 = s4) (hf1 : s4 &&& 7 = i) (hf2 : x >>> 7 = s7) (hf3 : s7 &&& 7 = j) (hf4 : x &&& 15 = 3) (hf5 : x >>> 10 = s10) (hf6 : s10 &&& 1023 = v) (hi : i < 8) (hj : j < 8) (hv : 0 ≤ v ∧ v ≤ 9) (hisA : x_isA made comb i 0) : x_f x_P (d + 12) 4 [(6, 0, 0), (0, x, 0), (11, 0, 0), (11, 0, 0), (11, 0, 0)] φ n sl (x_bR n sl 1 7 (fun zw φ2 => ∃ tpZ : Nat → Nat, zw = (0, 1, 0) ∧ zG φ2 0 tpZ 0 (mi + 1) made sv svm comb (zhm hm (i * 40 + 0) (1, v, 0, 0, [])) sc sm mh noted verd ins ver sz bw)) := by
  refine x_f_of rfl ?_
  have hG0 := hG
  obtain ⟨⟨hand, ie, hH, hhw⟩, hB, hTJ, hEJ, hN, hKJ, ⟨A, B, s9, hPS, hLK0⟩, hSP, hV5, ⟨slq, hSL⟩, hRW, hJ, hFJ, hWJ, ⟨ovn, ovh, hOV, hovn, hovh⟩⟩ := hG
  refine x_n_lt (fun hlt0 => ?_)
  have hmade := x_PS_lt hPS
  obtain ⟨co, ⟨top_, fr_, pc_, mm, st, lo, re, rs, fl, se, hKS⟩, hco⟩ := hKJ
  refine q_load (v := (0, x, 0)) (p2 := 1) rfl rfl rfl rfl ?_
  refine q_const (p2 := 2) rfl rfl ?_
  refine q_iushrz (z := s4) (p2 := 3) rfl (by omega) hf0 rfl ?_
  refine q_const (p2 := 4) rfl rfl ?_
  refine q_iandz (z := i) (p2 := 5) rfl hf1 (by omega) rfl ?_
  refine q_store (loc2 := [(6, 0, 0), (0, x, 0), (0, i, 0), (11, 0, 0), (11, 0, 0)]) (p2 := 6) rfl rfl rfl rfl rfl ?_
  refine q_load (v := (0, x, 0)) (p2 := 7) rfl rfl rfl rfl ?_
  refine q_const (p2 := 8) rfl rfl ?_
  refine q_iushrz (z := s7) (p2 := 9) rfl (by omega) hf2 rfl ?_
  refine q_const (p2 := 10) rfl rfl ?_
  refine q_iandz (z := j) (p2 := 11) rfl hf3 (by omega) rfl ?_
  refine q_store (loc2 := [(6, 0, 0), (0, x, 0), (0, i, 0), (0, j, 0), (11, 0, 0)]) (p2 := 12) rfl rfl rfl rfl rfl ?_
  refine q_const (p2 := 13) rfl rfl ?_
  refine q_store (loc2 := [(6, 0, 0), (0, x, 0), (0, i, 0), (0, j, 0), (0, 1, 0)]) (p2 := 14) rfl rfl rfl rfl rfl ?_
  refine q_load (v := (0, x, 0)) (p2 := 15) rfl rfl rfl rfl ?_
  refine q_const (p2 := 16) rfl rfl ?_
  refine q_iandz (z := 3) (p2 := 17) rfl hf4 (by omega) rfl ?_
  refine q_switch (tgt := 38) rfl (by decide) rfl ?_
  refine q_load (v := (6, 0, 0)) (p2 := 39) rfl rfl rfl rfl ?_
  refine q_load (v := (0, x, 0)) (p2 := 40) rfl rfl rfl rfl ?_
  refine q_const (p2 := 41) rfl rfl ?_
  refine q_iushrz (z := s10) (p2 := 42) rfl (by omega) hf5 rfl ?_
  refine q_const (p2 := 43) rfl rfl ?_
  refine q_iandz (z := v) (p2 := 44) rfl hf6 (by omega) rfl ?_
  refine q_callrE (xs := [(0, v, 0), (6, 0, 0)]) (p2 := 45) rfl rfl rfl rfl (fun _ _ => rfl) rfl (zc_pn_1_0 hH hB (by omega) ) (Nat.le_refl _) (Nat.le_refl _) rfl (fun φ1 hR1 => ?_)
  obtain ⟨tpq1, hH1, hB1, hq1_0, fr1⟩ := hR1
  refine q_store (loc2 := [(6, 0, 0), (0, x, 0), (0, i, 0), (0, j, 0), (0, 1, 0)]) (p2 := 46) rfl rfl rfl rfl rfl ?_
  refine q_load (v := (6, 0, 0)) (p2 := 47) rfl rfl rfl rfl ?_
  refine q_load (v := (0, 1, 0)) (p2 := 48) rfl rfl rfl rfl ?_
  refine q_if0_s (p2 := 49) rfl (by decide) (by omega) rfl (fun hb => absurd hb (show ¬ (1 = 0) by omega)) (fun _ => ?_)
  refine q_load (v := (6, 0, 0)) (p2 := 50) rfl rfl rfl rfl ?_
  refine q_load (v := (0, i, 0)) (p2 := 51) rfl rfl rfl rfl ?_
  refine q_const (p2 := 52) rfl rfl ?_
  have hm2 := (zTJ_at hTJ (fun j h1 h2 => (fr1 j (by omega) (by omega))))
  have hm3 := (zEJ_at hEJ (fun j h1 h2 => (fr1 j (by omega) (by omega))))
  have hm4 := (zq_nm_at hN (fr1 239 (by decide) (by decide)) (fr1 242 (by decide) (by decide)) (fr1 244 (by decide) (by decide)))
  have hm5 := (x_KS_at2 hKS (fun j h1 h2 h3 h4 => (fr1 j (by omega) (by omega))))
  refine x_n_lt (fun hlt7 => ?_)
  have hm6 := (x_PS_at hPS (fun j hj hne => by have hj2 := x_some_lt hlt0 hne; exact (fr1 j (by omega) (by omega))))
  have hm8 := (x_LK_at2 hLK0 (fun j h1 h2 => (fr1 j (by omega) (by omega))))
  have hm9 := (x_SP_at hSP (fun j hj hne => by have hj2 := x_some_lt hlt0 hne; exact (fr1 j (by omega) (by omega))))
  have hm10 := (zq_V5_at hV5 (fr1 485 (by decide) (by decide)))
  have hm11 := (zq_SL_at hSL (fr1 482 (by decide) (by decide)))
  have hm12 := (zq_RW_at hRW (fr1 483 (by decide) (by decide)))
  have hm13 := (zq_J_at hJ (fr1 468 (by decide) (by decide)) (fr1 469 (by decide) (by decide)) (fr1 470 (by decide) (by decide)))
  have hm14 := (zFJ_at hFJ (fun j h1 h2 => (fr1 j (by omega) (by omega))))
  have hm15 := (zWJ_at hWJ (fun j h1 h2 => (fr1 j (by omega) (by omega))))
  have hm16 := (zq_OV_at hOV (fr1 452 (by decide) (by decide)) (fr1 453 (by decide) (by decide)))
  have hGz17 : zG φ1 1 tpq1 lf mi made sv svm comb hm sc sm mh noted verd ins ver sz bw := ⟨⟨_, _, hH1, (x_hw_at hhw (fun j hj hne => by have hj2 := x_some_lt hlt0 hne; exact (fr1 j (by omega) (by omega))))⟩, hB1, hm2, hm3, hm4, ⟨_, ⟨_, _, _, _, _, _, _, _, _, _, hm5⟩, hco⟩, ⟨_, _, _, hm6, hm8⟩, hm9, hm10, ⟨_, hm11⟩, hm12, hm13, hm14, hm15, ⟨_, _, hm16, hovn, hovh⟩⟩
  refine q_callrB (xs := [(0, 0, 0), (0, i, 0), (6, 0, 0)]) (p2 := 53) rfl rfl rfl rfl (x_rcv_s 0 hH1) rfl (zc_set0_1 (x := i) (w1 := v) hGz17 (by omega) hpv (by omega) (by omega) hisA (hq1_0) (by omega) (by omega) (by omega)) rfl (fun w17 φ17 n17 sl17 hn17 hN17 hs17 hT17 hR17 => ?_)
  obtain ⟨hwz17, hGr17⟩ := hR17
  subst hwz17
  have hG := hGr17
  skip
  obtain ⟨⟨hand, ie, hH, hhw⟩, hB, hTJ, hEJ, hN, hKJ, ⟨A, B, s9, hPS, hLK0⟩, hSP, hV5, ⟨slq, hSL⟩, hRW, hJ, hFJ, hWJ, ⟨ovn, ovh, hOV, hovn, hovh⟩⟩ := hG
  refine x_n_lt (fun hlt0 => ?_)
  have hmade := x_PS_lt hPS
  obtain ⟨co, ⟨top_, fr_, pc_, mm, st, lo, re, rs, fl, se, hKS⟩, hco⟩ := hKJ
  refine q_goto rfl ?_
  refine q_callrE (xs := [(0, 1, 0), (6, 0, 0)]) (p2 := 56) rfl rfl rfl rfl (fun _ _ => rfl) rfl (zc_done hH hPS (by omega)) (Nat.le_refl _) (Nat.le_refl _) rfl (fun φ19 hR19 => ?_)
  obtain ⟨hs19_0, fr19⟩ := hR19
  have hm20 := (zq_tp_at hB (fr19 1 (by decide)))
  have hm21 := (zTJ_at hTJ (fun j h1 h2 => (fr19 j (by omega))))
  have hm22 := (zEJ_at hEJ (fun j h1 h2 => (fr19 j (by omega))))
  have hm23 := (zq_nm_at hN (fr19 239 (by decide)) (fr19 242 (by decide)) (fr19 244 (by decide)))
  have hm24 := (x_KS_at2 hKS (fun j h1 h2 h3 h4 => (fr19 j (by omega))))
  refine x_n_lt (fun hlt26 => ?_)
  have hm25 := (x_PS_at hPS (fun j hj hne => by have hj2 := x_some_lt hlt0 hne; exact (fr19 j (by omega))))
  have hm27 := (x_LK_at2 hLK0 (fun j h1 h2 => (fr19 j (by omega))))
  have hm28 := (x_SP_at hSP (fun j hj hne => by have hj2 := x_some_lt hlt0 hne; exact (fr19 j (by omega))))
  have hm29 := (zq_V5_at hV5 (fr19 485 (by decide)))
  have hm30 := (zq_SL_at hSL (fr19 482 (by decide)))
  have hm31 := (zq_RW_at hRW (fr19 483 (by decide)))
  have hm32 := (zq_J_at hJ (fr19 468 (by decide)) (fr19 469 (by decide)) (fr19 470 (by decide)))
  have hm33 := (zFJ_at hFJ (fun j h1 h2 => (fr19 j (by omega))))
  have hm34 := (zWJ_at hWJ (fun j h1 h2 => (fr19 j (by omega))))
  have hm35 := (zq_OV_at hOV (fr19 452 (by decide)) (fr19 453 (by decide)))
  exact q_retv (v := (0, 1, 0)) rfl rfl (⟨rfl, ⟨by omega, by omega⟩, ⟨by omega, by omega⟩, _, rfl, ⟨⟨_, _, hs19_0, (x_hw_at hhw (fun j hj hne => by have hj2 := x_some_lt hlt0 hne; exact (fr19 j (by omega))))⟩, hm20, hm21, hm22, hm23, ⟨_, ⟨_, _, _, _, _, _, _, _, _, _, hm24⟩, hco⟩, ⟨_, _, _, hm25, hm27⟩, hm28, hm29, ⟨_, hm30⟩, hm31, hm32, hm33, hm34, ⟨_, _, hm35, hovn, hovh⟩⟩⟩)
set_option maxHeartbeats 1000000 in
theorem zc_call_3_bad2 {d n sl : Nat} {φ : FH} {tp : Nat → Nat} {lf : Nat} {mi : Nat} {made : Nat} {sv : Nat} {svm : Nat} {comb : Nat → Nat} {hm : Nat → MV} {sc : Nat → Nat} {sm : Nat → MV} {mh : MV} {noted : Nat} {verd : Nat} {ins : Nat → Nat} {ver : Nat → Nat} {sz : Nat} {bw : Nat → Nat} {x : Nat} {s4 s7 i j : Nat} {s10 v : Nat} (hG : zG φ 0 tp lf mi made sv svm comb hm sc sm mh noted verd ins ver sz bw) (hn0 : 486 ≤ n) (hpv : ∀ i, x_pv2 (hm i)) (hmi : mi + 300 ≤ 20000) (hx32 : x < 4294967296) (hf0 : x >>> 4 = s4) (hf1 : s4 &&& 7 = i) (hf2 : x >>> 7 = s7) (hf3 : s7 &&& 7 = j) (hf4 : x &&& 15 = 3) (hf5 : x >>> 10 = s10) (hf6 : s10 &&& 1023 = v) (hi : i < 8) (hj : j < 8) (hv : 10 ≤ v ∧ v ≤ 99) (hna : ¬ x_isA made comb i 0) : x_f x_P (d + 5) 4 [(6, 0, 0), (0, x, 0), (11, 0, 0), (11, 0, 0), (11, 0, 0)] φ n sl (x_bR n sl 0 0 (fun zw φ2 => ∃ tpZ : Nat → Nat, zw = (0, 4294967295, 0) ∧ zG φ2 0 tpZ lf mi made sv svm comb hm sc sm mh noted verd ins ver sz bw)) := by
  refine x_f_of rfl ?_
  have hG0 := hG
  obtain ⟨⟨hand, ie, hH, hhw⟩, hB, hTJ, hEJ, hN, hKJ, ⟨A, B, s9, hPS, hLK0⟩, hSP, hV5, ⟨slq, hSL⟩, hRW, hJ, hFJ, hWJ, ⟨ovn, ovh, hOV, hovn, hovh⟩⟩ := hG
  refine x_n_lt (fun hlt0 => ?_)
  have hmade := x_PS_lt hPS
  obtain ⟨co, ⟨top_, fr_, pc_, mm, st, lo, re, rs, fl, se, hKS⟩, hco⟩ := hKJ
  refine q_load (v := (0, x, 0)) (p2 := 1) rfl rfl rfl rfl ?_
  refine q_const (p2 := 2) rfl rfl ?_
  refine q_iushrz (z := s4) (p2 := 3) rfl (by omega) hf0 rfl ?_
  refine q_const (p2 := 4) rfl rfl ?_
  refine q_iandz (z := i) (p2 := 5) rfl hf1 (by omega) rfl ?_
  refine q_store (loc2 := [(6, 0, 0), (0, x, 0), (0, i, 0), (11, 0, 0), (11, 0, 0)]) (p2 := 6) rfl rfl rfl rfl rfl ?_
  refine q_load (v := (0, x, 0)) (p2 := 7) rfl rfl rfl rfl ?_
  refine q_const (p2 := 8) rfl rfl ?_
  refine q_iushrz (z := s7) (p2 := 9) rfl (by omega) hf2 rfl ?_
  refine q_const (p2 := 10) rfl rfl ?_
  refine q_iandz (z := j) (p2 := 11) rfl hf3 (by omega) rfl ?_
  refine q_store (loc2 := [(6, 0, 0), (0, x, 0), (0, i, 0), (0, j, 0), (11, 0, 0)]) (p2 := 12) rfl rfl rfl rfl rfl ?_
  refine q_const (p2 := 13) rfl rfl ?_
  refine q_store (loc2 := [(6, 0, 0), (0, x, 0), (0, i, 0), (0, j, 0), (0, 1, 0)]) (p2 := 14) rfl rfl rfl rfl rfl ?_
  refine q_load (v := (0, x, 0)) (p2 := 15) rfl rfl rfl rfl ?_
  refine q_const (p2 := 16) rfl rfl ?_
  refine q_iandz (z := 3) (p2 := 17) rfl hf4 (by omega) rfl ?_
  refine q_switch (tgt := 38) rfl (by decide) rfl ?_
  refine q_load (v := (6, 0, 0)) (p2 := 39) rfl rfl rfl rfl ?_
  refine q_load (v := (0, x, 0)) (p2 := 40) rfl rfl rfl rfl ?_
  refine q_const (p2 := 41) rfl rfl ?_
  refine q_iushrz (z := s10) (p2 := 42) rfl (by omega) hf5 rfl ?_
  refine q_const (p2 := 43) rfl rfl ?_
  refine q_iandz (z := v) (p2 := 44) rfl hf6 (by omega) rfl ?_
  refine q_callrE (xs := [(0, v, 0), (6, 0, 0)]) (p2 := 45) rfl rfl rfl rfl (fun _ _ => rfl) rfl (zc_pn_2_0 hH hB (by omega) ) (Nat.le_refl _) (Nat.le_refl _) rfl (fun φ1 hR1 => ?_)
  obtain ⟨tpq1, hH1, hB1, hq1_0, hq1_1, fr1⟩ := hR1
  refine q_store (loc2 := [(6, 0, 0), (0, x, 0), (0, i, 0), (0, j, 0), (0, 1, 0)]) (p2 := 46) rfl rfl rfl rfl rfl ?_
  refine q_load (v := (6, 0, 0)) (p2 := 47) rfl rfl rfl rfl ?_
  refine q_load (v := (0, 1, 0)) (p2 := 48) rfl rfl rfl rfl ?_
  refine q_if0_s (p2 := 49) rfl (by decide) (by omega) rfl (fun hb => absurd hb (show ¬ (1 = 0) by omega)) (fun _ => ?_)
  refine q_load (v := (6, 0, 0)) (p2 := 50) rfl rfl rfl rfl ?_
  refine q_load (v := (0, i, 0)) (p2 := 51) rfl rfl rfl rfl ?_
  refine q_const (p2 := 52) rfl rfl ?_
  have hm2 := (zTJ_at hTJ (fun j h1 h2 => (fr1 j (by omega) (by omega))))
  have hm3 := (zEJ_at hEJ (fun j h1 h2 => (fr1 j (by omega) (by omega))))
  have hm4 := (zq_nm_at hN (fr1 239 (by decide) (by decide)) (fr1 242 (by decide) (by decide)) (fr1 244 (by decide) (by decide)))
  have hm5 := (x_KS_at2 hKS (fun j h1 h2 h3 h4 => (fr1 j (by omega) (by omega))))
  refine x_n_lt (fun hlt7 => ?_)
  have hm6 := (x_PS_at hPS (fun j hj hne => by have hj2 := x_some_lt hlt0 hne; exact (fr1 j (by omega) (by omega))))
  have hm8 := (x_LK_at2 hLK0 (fun j h1 h2 => (fr1 j (by omega) (by omega))))
  have hm9 := (x_SP_at hSP (fun j hj hne => by have hj2 := x_some_lt hlt0 hne; exact (fr1 j (by omega) (by omega))))
  have hm10 := (zq_V5_at hV5 (fr1 485 (by decide) (by decide)))
  have hm11 := (zq_SL_at hSL (fr1 482 (by decide) (by decide)))
  have hm12 := (zq_RW_at hRW (fr1 483 (by decide) (by decide)))
  have hm13 := (zq_J_at hJ (fr1 468 (by decide) (by decide)) (fr1 469 (by decide) (by decide)) (fr1 470 (by decide) (by decide)))
  have hm14 := (zFJ_at hFJ (fun j h1 h2 => (fr1 j (by omega) (by omega))))
  have hm15 := (zWJ_at hWJ (fun j h1 h2 => (fr1 j (by omega) (by omega))))
  have hm16 := (zq_OV_at hOV (fr1 452 (by decide) (by decide)) (fr1 453 (by decide) (by decide)))
  have hGz17 : zG φ1 2 tpq1 lf mi made sv svm comb hm sc sm mh noted verd ins ver sz bw := ⟨⟨_, _, hH1, (x_hw_at hhw (fun j hj hne => by have hj2 := x_some_lt hlt0 hne; exact (fr1 j (by omega) (by omega))))⟩, hB1, hm2, hm3, hm4, ⟨_, ⟨_, _, _, _, _, _, _, _, _, _, hm5⟩, hco⟩, ⟨_, _, _, hm6, hm8⟩, hm9, hm10, ⟨_, hm11⟩, hm12, hm13, hm14, hm15, ⟨_, _, hm16, hovn, hovh⟩⟩
  refine q_callrB (xs := [(0, 0, 0), (0, i, 0), (6, 0, 0)]) (p2 := 53) rfl rfl rfl rfl (x_rcv_s 0 hH1) rfl (zc_set0_bad (x := i) hGz17 (by omega) hpv (by omega) (by omega) hna) rfl (fun w17 φ17 n17 sl17 hn17 hN17 hs17 hT17 hR17 => ?_)
  obtain ⟨hwz17, hGr17⟩ := hR17
  subst hwz17
  have hG := hGr17
  skip
  obtain ⟨⟨hand, ie, hH, hhw⟩, hB, hTJ, hEJ, hN, hKJ, ⟨A, B, s9, hPS, hLK0⟩, hSP, hV5, ⟨slq, hSL⟩, hRW, hJ, hFJ, hWJ, ⟨ovn, ovh, hOV, hovn, hovh⟩⟩ := hG
  refine x_n_lt (fun hlt0 => ?_)
  have hmade := x_PS_lt hPS
  obtain ⟨co, ⟨top_, fr_, pc_, mm, st, lo, re, rs, fl, se, hKS⟩, hco⟩ := hKJ
  refine q_goto rfl ?_
  refine q_callrE (xs := [(0, 4294967295, 0), (6, 0, 0)]) (p2 := 56) rfl rfl rfl rfl (fun _ _ => rfl) rfl (zc_done hH hPS (by omega)) (Nat.le_refl _) (Nat.le_refl _) rfl (fun φ19 hR19 => ?_)
  obtain ⟨hs19_0, fr19⟩ := hR19
  have hm20 := (zq_tp_at hB (fr19 1 (by decide)))
  have hm21 := (zTJ_at hTJ (fun j h1 h2 => (fr19 j (by omega))))
  have hm22 := (zEJ_at hEJ (fun j h1 h2 => (fr19 j (by omega))))
  have hm23 := (zq_nm_at hN (fr19 239 (by decide)) (fr19 242 (by decide)) (fr19 244 (by decide)))
  have hm24 := (x_KS_at2 hKS (fun j h1 h2 h3 h4 => (fr19 j (by omega))))
  refine x_n_lt (fun hlt26 => ?_)
  have hm25 := (x_PS_at hPS (fun j hj hne => by have hj2 := x_some_lt hlt0 hne; exact (fr19 j (by omega))))
  have hm27 := (x_LK_at2 hLK0 (fun j h1 h2 => (fr19 j (by omega))))
  have hm28 := (x_SP_at hSP (fun j hj hne => by have hj2 := x_some_lt hlt0 hne; exact (fr19 j (by omega))))
  have hm29 := (zq_V5_at hV5 (fr19 485 (by decide)))
  have hm30 := (zq_SL_at hSL (fr19 482 (by decide)))
  have hm31 := (zq_RW_at hRW (fr19 483 (by decide)))
  have hm32 := (zq_J_at hJ (fr19 468 (by decide)) (fr19 469 (by decide)) (fr19 470 (by decide)))
  have hm33 := (zFJ_at hFJ (fun j h1 h2 => (fr19 j (by omega))))
  have hm34 := (zWJ_at hWJ (fun j h1 h2 => (fr19 j (by omega))))
  have hm35 := (zq_OV_at hOV (fr19 452 (by decide)) (fr19 453 (by decide)))
  exact q_retv (v := (0, 4294967295, 0)) rfl rfl (⟨rfl, ⟨by omega, by omega⟩, ⟨by omega, by omega⟩, _, rfl, ⟨⟨_, _, hs19_0, (x_hw_at hhw (fun j hj hne => by have hj2 := x_some_lt hlt0 hne; exact (fr19 j (by omega))))⟩, hm20, hm21, hm22, hm23, ⟨_, ⟨_, _, _, _, _, _, _, _, _, _, hm24⟩, hco⟩, ⟨_, _, _, hm25, hm27⟩, hm28, hm29, ⟨_, hm30⟩, hm31, hm32, hm33, hm34, ⟨_, _, hm35, hovn, hovh⟩⟩⟩)
set_option maxHeartbeats 1000000 in
theorem zc_call_3_2 {d n sl : Nat} {φ : FH} {tp : Nat → Nat} {lf : Nat} {mi : Nat} {made : Nat} {sv : Nat} {svm : Nat} {comb : Nat → Nat} {hm : Nat → MV} {sc : Nat → Nat} {sm : Nat → MV} {mh : MV} {noted : Nat} {verd : Nat} {ins : Nat → Nat} {ver : Nat → Nat} {sz : Nat} {bw : Nat → Nat} {x : Nat} {s4 s7 i j : Nat} {s10 v : Nat} (hG : zG φ 0 tp lf mi made sv svm comb hm sc sm mh noted verd ins ver sz bw) (hn0 : 486 ≤ n) (hpv : ∀ i, x_pv2 (hm i)) (hmi : mi + 300 ≤ 20000) (hx32 : x < 4294967296) (hf0 : x >>> 4 = s4) (hf1 : s4 &&& 7 = i) (hf2 : x >>> 7 = s7) (hf3 : s7 &&& 7 = j) (hf4 : x &&& 15 = 3) (hf5 : x >>> 10 = s10) (hf6 : s10 &&& 1023 = v) (hi : i < 8) (hj : j < 8) (hv : 10 ≤ v ∧ v ≤ 99) (hisA : x_isA made comb i 0) : x_f x_P (d + 12) 4 [(6, 0, 0), (0, x, 0), (11, 0, 0), (11, 0, 0), (11, 0, 0)] φ n sl (x_bR n sl 1 7 (fun zw φ2 => ∃ tpZ : Nat → Nat, zw = (0, 1, 0) ∧ zG φ2 0 tpZ 0 (mi + 1) made sv svm comb (zhm hm (i * 40 + 0) (1, v, 0, 0, [])) sc sm mh noted verd ins ver sz bw)) := by
  refine x_f_of rfl ?_
  have hG0 := hG
  obtain ⟨⟨hand, ie, hH, hhw⟩, hB, hTJ, hEJ, hN, hKJ, ⟨A, B, s9, hPS, hLK0⟩, hSP, hV5, ⟨slq, hSL⟩, hRW, hJ, hFJ, hWJ, ⟨ovn, ovh, hOV, hovn, hovh⟩⟩ := hG
  refine x_n_lt (fun hlt0 => ?_)
  have hmade := x_PS_lt hPS
  obtain ⟨co, ⟨top_, fr_, pc_, mm, st, lo, re, rs, fl, se, hKS⟩, hco⟩ := hKJ
  refine q_load (v := (0, x, 0)) (p2 := 1) rfl rfl rfl rfl ?_
  refine q_const (p2 := 2) rfl rfl ?_
  refine q_iushrz (z := s4) (p2 := 3) rfl (by omega) hf0 rfl ?_
  refine q_const (p2 := 4) rfl rfl ?_
  refine q_iandz (z := i) (p2 := 5) rfl hf1 (by omega) rfl ?_
  refine q_store (loc2 := [(6, 0, 0), (0, x, 0), (0, i, 0), (11, 0, 0), (11, 0, 0)]) (p2 := 6) rfl rfl rfl rfl rfl ?_
  refine q_load (v := (0, x, 0)) (p2 := 7) rfl rfl rfl rfl ?_
  refine q_const (p2 := 8) rfl rfl ?_
  refine q_iushrz (z := s7) (p2 := 9) rfl (by omega) hf2 rfl ?_
  refine q_const (p2 := 10) rfl rfl ?_
  refine q_iandz (z := j) (p2 := 11) rfl hf3 (by omega) rfl ?_
  refine q_store (loc2 := [(6, 0, 0), (0, x, 0), (0, i, 0), (0, j, 0), (11, 0, 0)]) (p2 := 12) rfl rfl rfl rfl rfl ?_
  refine q_const (p2 := 13) rfl rfl ?_
  refine q_store (loc2 := [(6, 0, 0), (0, x, 0), (0, i, 0), (0, j, 0), (0, 1, 0)]) (p2 := 14) rfl rfl rfl rfl rfl ?_
  refine q_load (v := (0, x, 0)) (p2 := 15) rfl rfl rfl rfl ?_
  refine q_const (p2 := 16) rfl rfl ?_
  refine q_iandz (z := 3) (p2 := 17) rfl hf4 (by omega) rfl ?_
  refine q_switch (tgt := 38) rfl (by decide) rfl ?_
  refine q_load (v := (6, 0, 0)) (p2 := 39) rfl rfl rfl rfl ?_
  refine q_load (v := (0, x, 0)) (p2 := 40) rfl rfl rfl rfl ?_
  refine q_const (p2 := 41) rfl rfl ?_
  refine q_iushrz (z := s10) (p2 := 42) rfl (by omega) hf5 rfl ?_
  refine q_const (p2 := 43) rfl rfl ?_
  refine q_iandz (z := v) (p2 := 44) rfl hf6 (by omega) rfl ?_
  refine q_callrE (xs := [(0, v, 0), (6, 0, 0)]) (p2 := 45) rfl rfl rfl rfl (fun _ _ => rfl) rfl (zc_pn_2_0 hH hB (by omega) ) (Nat.le_refl _) (Nat.le_refl _) rfl (fun φ1 hR1 => ?_)
  obtain ⟨tpq1, hH1, hB1, hq1_0, hq1_1, fr1⟩ := hR1
  refine q_store (loc2 := [(6, 0, 0), (0, x, 0), (0, i, 0), (0, j, 0), (0, 1, 0)]) (p2 := 46) rfl rfl rfl rfl rfl ?_
  refine q_load (v := (6, 0, 0)) (p2 := 47) rfl rfl rfl rfl ?_
  refine q_load (v := (0, 1, 0)) (p2 := 48) rfl rfl rfl rfl ?_
  refine q_if0_s (p2 := 49) rfl (by decide) (by omega) rfl (fun hb => absurd hb (show ¬ (1 = 0) by omega)) (fun _ => ?_)
  refine q_load (v := (6, 0, 0)) (p2 := 50) rfl rfl rfl rfl ?_
  refine q_load (v := (0, i, 0)) (p2 := 51) rfl rfl rfl rfl ?_
  refine q_const (p2 := 52) rfl rfl ?_
  have hm2 := (zTJ_at hTJ (fun j h1 h2 => (fr1 j (by omega) (by omega))))
  have hm3 := (zEJ_at hEJ (fun j h1 h2 => (fr1 j (by omega) (by omega))))
  have hm4 := (zq_nm_at hN (fr1 239 (by decide) (by decide)) (fr1 242 (by decide) (by decide)) (fr1 244 (by decide) (by decide)))
  have hm5 := (x_KS_at2 hKS (fun j h1 h2 h3 h4 => (fr1 j (by omega) (by omega))))
  refine x_n_lt (fun hlt7 => ?_)
  have hm6 := (x_PS_at hPS (fun j hj hne => by have hj2 := x_some_lt hlt0 hne; exact (fr1 j (by omega) (by omega))))
  have hm8 := (x_LK_at2 hLK0 (fun j h1 h2 => (fr1 j (by omega) (by omega))))
  have hm9 := (x_SP_at hSP (fun j hj hne => by have hj2 := x_some_lt hlt0 hne; exact (fr1 j (by omega) (by omega))))
  have hm10 := (zq_V5_at hV5 (fr1 485 (by decide) (by decide)))
  have hm11 := (zq_SL_at hSL (fr1 482 (by decide) (by decide)))
  have hm12 := (zq_RW_at hRW (fr1 483 (by decide) (by decide)))
  have hm13 := (zq_J_at hJ (fr1 468 (by decide) (by decide)) (fr1 469 (by decide) (by decide)) (fr1 470 (by decide) (by decide)))
  have hm14 := (zFJ_at hFJ (fun j h1 h2 => (fr1 j (by omega) (by omega))))
  have hm15 := (zWJ_at hWJ (fun j h1 h2 => (fr1 j (by omega) (by omega))))
  have hm16 := (zq_OV_at hOV (fr1 452 (by decide) (by decide)) (fr1 453 (by decide) (by decide)))
  have hGz17 : zG φ1 2 tpq1 lf mi made sv svm comb hm sc sm mh noted verd ins ver sz bw := ⟨⟨_, _, hH1, (x_hw_at hhw (fun j hj hne => by have hj2 := x_some_lt hlt0 hne; exact (fr1 j (by omega) (by omega))))⟩, hB1, hm2, hm3, hm4, ⟨_, ⟨_, _, _, _, _, _, _, _, _, _, hm5⟩, hco⟩, ⟨_, _, _, hm6, hm8⟩, hm9, hm10, ⟨_, hm11⟩, hm12, hm13, hm14, hm15, ⟨_, _, hm16, hovn, hovh⟩⟩
  refine q_callrB (xs := [(0, 0, 0), (0, i, 0), (6, 0, 0)]) (p2 := 53) rfl rfl rfl rfl (x_rcv_s 0 hH1) rfl (zc_set0_2 (x := i) (w1 := v) hGz17 (by omega) hpv (by omega) (by omega) hisA (hq1_0) (hq1_1) (by omega) (by omega) (by omega) (by omega)) rfl (fun w17 φ17 n17 sl17 hn17 hN17 hs17 hT17 hR17 => ?_)
  obtain ⟨hwz17, hGr17⟩ := hR17
  subst hwz17
  have hG := hGr17
  skip
  obtain ⟨⟨hand, ie, hH, hhw⟩, hB, hTJ, hEJ, hN, hKJ, ⟨A, B, s9, hPS, hLK0⟩, hSP, hV5, ⟨slq, hSL⟩, hRW, hJ, hFJ, hWJ, ⟨ovn, ovh, hOV, hovn, hovh⟩⟩ := hG
  refine x_n_lt (fun hlt0 => ?_)
  have hmade := x_PS_lt hPS
  obtain ⟨co, ⟨top_, fr_, pc_, mm, st, lo, re, rs, fl, se, hKS⟩, hco⟩ := hKJ
  refine q_goto rfl ?_
  refine q_callrE (xs := [(0, 1, 0), (6, 0, 0)]) (p2 := 56) rfl rfl rfl rfl (fun _ _ => rfl) rfl (zc_done hH hPS (by omega)) (Nat.le_refl _) (Nat.le_refl _) rfl (fun φ19 hR19 => ?_)
  obtain ⟨hs19_0, fr19⟩ := hR19
  have hm20 := (zq_tp_at hB (fr19 1 (by decide)))
  have hm21 := (zTJ_at hTJ (fun j h1 h2 => (fr19 j (by omega))))
  have hm22 := (zEJ_at hEJ (fun j h1 h2 => (fr19 j (by omega))))
  have hm23 := (zq_nm_at hN (fr19 239 (by decide)) (fr19 242 (by decide)) (fr19 244 (by decide)))
  have hm24 := (x_KS_at2 hKS (fun j h1 h2 h3 h4 => (fr19 j (by omega))))
  refine x_n_lt (fun hlt26 => ?_)
  have hm25 := (x_PS_at hPS (fun j hj hne => by have hj2 := x_some_lt hlt0 hne; exact (fr19 j (by omega))))
  have hm27 := (x_LK_at2 hLK0 (fun j h1 h2 => (fr19 j (by omega))))
  have hm28 := (x_SP_at hSP (fun j hj hne => by have hj2 := x_some_lt hlt0 hne; exact (fr19 j (by omega))))
  have hm29 := (zq_V5_at hV5 (fr19 485 (by decide)))
  have hm30 := (zq_SL_at hSL (fr19 482 (by decide)))
  have hm31 := (zq_RW_at hRW (fr19 483 (by decide)))
  have hm32 := (zq_J_at hJ (fr19 468 (by decide)) (fr19 469 (by decide)) (fr19 470 (by decide)))
  have hm33 := (zFJ_at hFJ (fun j h1 h2 => (fr19 j (by omega))))
  have hm34 := (zWJ_at hWJ (fun j h1 h2 => (fr19 j (by omega))))
  have hm35 := (zq_OV_at hOV (fr19 452 (by decide)) (fr19 453 (by decide)))
  exact q_retv (v := (0, 1, 0)) rfl rfl (⟨rfl, ⟨by omega, by omega⟩, ⟨by omega, by omega⟩, _, rfl, ⟨⟨_, _, hs19_0, (x_hw_at hhw (fun j hj hne => by have hj2 := x_some_lt hlt0 hne; exact (fr19 j (by omega))))⟩, hm20, hm21, hm22, hm23, ⟨_, ⟨_, _, _, _, _, _, _, _, _, _, hm24⟩, hco⟩, ⟨_, _, _, hm25, hm27⟩, hm28, hm29, ⟨_, hm30⟩, hm31, hm32, hm33, hm34, ⟨_, _, hm35, hovn, hovh⟩⟩⟩)
set_option maxHeartbeats 1000000 in
theorem zc_call_3_bad3 {d n sl : Nat} {φ : FH} {tp : Nat → Nat} {lf : Nat} {mi : Nat} {made : Nat} {sv : Nat} {svm : Nat} {comb : Nat → Nat} {hm : Nat → MV} {sc : Nat → Nat} {sm : Nat → MV} {mh : MV} {noted : Nat} {verd : Nat} {ins : Nat → Nat} {ver : Nat → Nat} {sz : Nat} {bw : Nat → Nat} {x : Nat} {s4 s7 i j : Nat} {s10 v : Nat} (hG : zG φ 0 tp lf mi made sv svm comb hm sc sm mh noted verd ins ver sz bw) (hn0 : 486 ≤ n) (hpv : ∀ i, x_pv2 (hm i)) (hmi : mi + 300 ≤ 20000) (hx32 : x < 4294967296) (hf0 : x >>> 4 = s4) (hf1 : s4 &&& 7 = i) (hf2 : x >>> 7 = s7) (hf3 : s7 &&& 7 = j) (hf4 : x &&& 15 = 3) (hf5 : x >>> 10 = s10) (hf6 : s10 &&& 1023 = v) (hi : i < 8) (hj : j < 8) (hv : 100 ≤ v ∧ v ≤ 999) (hna : ¬ x_isA made comb i 0) : x_f x_P (d + 5) 4 [(6, 0, 0), (0, x, 0), (11, 0, 0), (11, 0, 0), (11, 0, 0)] φ n sl (x_bR n sl 0 0 (fun zw φ2 => ∃ tpZ : Nat → Nat, zw = (0, 4294967295, 0) ∧ zG φ2 0 tpZ lf mi made sv svm comb hm sc sm mh noted verd ins ver sz bw)) := by
  refine x_f_of rfl ?_
  have hG0 := hG
  obtain ⟨⟨hand, ie, hH, hhw⟩, hB, hTJ, hEJ, hN, hKJ, ⟨A, B, s9, hPS, hLK0⟩, hSP, hV5, ⟨slq, hSL⟩, hRW, hJ, hFJ, hWJ, ⟨ovn, ovh, hOV, hovn, hovh⟩⟩ := hG
  refine x_n_lt (fun hlt0 => ?_)
  have hmade := x_PS_lt hPS
  obtain ⟨co, ⟨top_, fr_, pc_, mm, st, lo, re, rs, fl, se, hKS⟩, hco⟩ := hKJ
  refine q_load (v := (0, x, 0)) (p2 := 1) rfl rfl rfl rfl ?_
  refine q_const (p2 := 2) rfl rfl ?_
  refine q_iushrz (z := s4) (p2 := 3) rfl (by omega) hf0 rfl ?_
  refine q_const (p2 := 4) rfl rfl ?_
  refine q_iandz (z := i) (p2 := 5) rfl hf1 (by omega) rfl ?_
  refine q_store (loc2 := [(6, 0, 0), (0, x, 0), (0, i, 0), (11, 0, 0), (11, 0, 0)]) (p2 := 6) rfl rfl rfl rfl rfl ?_
  refine q_load (v := (0, x, 0)) (p2 := 7) rfl rfl rfl rfl ?_
  refine q_const (p2 := 8) rfl rfl ?_
  refine q_iushrz (z := s7) (p2 := 9) rfl (by omega) hf2 rfl ?_
  refine q_const (p2 := 10) rfl rfl ?_
  refine q_iandz (z := j) (p2 := 11) rfl hf3 (by omega) rfl ?_
  refine q_store (loc2 := [(6, 0, 0), (0, x, 0), (0, i, 0), (0, j, 0), (11, 0, 0)]) (p2 := 12) rfl rfl rfl rfl rfl ?_
  refine q_const (p2 := 13) rfl rfl ?_
  refine q_store (loc2 := [(6, 0, 0), (0, x, 0), (0, i, 0), (0, j, 0), (0, 1, 0)]) (p2 := 14) rfl rfl rfl rfl rfl ?_
  refine q_load (v := (0, x, 0)) (p2 := 15) rfl rfl rfl rfl ?_
  refine q_const (p2 := 16) rfl rfl ?_
  refine q_iandz (z := 3) (p2 := 17) rfl hf4 (by omega) rfl ?_
  refine q_switch (tgt := 38) rfl (by decide) rfl ?_
  refine q_load (v := (6, 0, 0)) (p2 := 39) rfl rfl rfl rfl ?_
  refine q_load (v := (0, x, 0)) (p2 := 40) rfl rfl rfl rfl ?_
  refine q_const (p2 := 41) rfl rfl ?_
  refine q_iushrz (z := s10) (p2 := 42) rfl (by omega) hf5 rfl ?_
  refine q_const (p2 := 43) rfl rfl ?_
  refine q_iandz (z := v) (p2 := 44) rfl hf6 (by omega) rfl ?_
  refine q_callrE (xs := [(0, v, 0), (6, 0, 0)]) (p2 := 45) rfl rfl rfl rfl (fun _ _ => rfl) rfl (zc_pn_3_0 hH hB (by omega) ) (Nat.le_refl _) (Nat.le_refl _) rfl (fun φ1 hR1 => ?_)
  obtain ⟨tpq1, hH1, hB1, hq1_0, hq1_1, hq1_2, fr1⟩ := hR1
  refine q_store (loc2 := [(6, 0, 0), (0, x, 0), (0, i, 0), (0, j, 0), (0, 1, 0)]) (p2 := 46) rfl rfl rfl rfl rfl ?_
  refine q_load (v := (6, 0, 0)) (p2 := 47) rfl rfl rfl rfl ?_
  refine q_load (v := (0, 1, 0)) (p2 := 48) rfl rfl rfl rfl ?_
  refine q_if0_s (p2 := 49) rfl (by decide) (by omega) rfl (fun hb => absurd hb (show ¬ (1 = 0) by omega)) (fun _ => ?_)
  refine q_load (v := (6, 0, 0)) (p2 := 50) rfl rfl rfl rfl ?_
  refine q_load (v := (0, i, 0)) (p2 := 51) rfl rfl rfl rfl ?_
  refine q_const (p2 := 52) rfl rfl ?_
  have hm2 := (zTJ_at hTJ (fun j h1 h2 => (fr1 j (by omega) (by omega))))
  have hm3 := (zEJ_at hEJ (fun j h1 h2 => (fr1 j (by omega) (by omega))))
  have hm4 := (zq_nm_at hN (fr1 239 (by decide) (by decide)) (fr1 242 (by decide) (by decide)) (fr1 244 (by decide) (by decide)))
  have hm5 := (x_KS_at2 hKS (fun j h1 h2 h3 h4 => (fr1 j (by omega) (by omega))))
  refine x_n_lt (fun hlt7 => ?_)
  have hm6 := (x_PS_at hPS (fun j hj hne => by have hj2 := x_some_lt hlt0 hne; exact (fr1 j (by omega) (by omega))))
  have hm8 := (x_LK_at2 hLK0 (fun j h1 h2 => (fr1 j (by omega) (by omega))))
  have hm9 := (x_SP_at hSP (fun j hj hne => by have hj2 := x_some_lt hlt0 hne; exact (fr1 j (by omega) (by omega))))
  have hm10 := (zq_V5_at hV5 (fr1 485 (by decide) (by decide)))
  have hm11 := (zq_SL_at hSL (fr1 482 (by decide) (by decide)))
  have hm12 := (zq_RW_at hRW (fr1 483 (by decide) (by decide)))
  have hm13 := (zq_J_at hJ (fr1 468 (by decide) (by decide)) (fr1 469 (by decide) (by decide)) (fr1 470 (by decide) (by decide)))
  have hm14 := (zFJ_at hFJ (fun j h1 h2 => (fr1 j (by omega) (by omega))))
  have hm15 := (zWJ_at hWJ (fun j h1 h2 => (fr1 j (by omega) (by omega))))
  have hm16 := (zq_OV_at hOV (fr1 452 (by decide) (by decide)) (fr1 453 (by decide) (by decide)))
  have hGz17 : zG φ1 3 tpq1 lf mi made sv svm comb hm sc sm mh noted verd ins ver sz bw := ⟨⟨_, _, hH1, (x_hw_at hhw (fun j hj hne => by have hj2 := x_some_lt hlt0 hne; exact (fr1 j (by omega) (by omega))))⟩, hB1, hm2, hm3, hm4, ⟨_, ⟨_, _, _, _, _, _, _, _, _, _, hm5⟩, hco⟩, ⟨_, _, _, hm6, hm8⟩, hm9, hm10, ⟨_, hm11⟩, hm12, hm13, hm14, hm15, ⟨_, _, hm16, hovn, hovh⟩⟩
  refine q_callrB (xs := [(0, 0, 0), (0, i, 0), (6, 0, 0)]) (p2 := 53) rfl rfl rfl rfl (x_rcv_s 0 hH1) rfl (zc_set0_bad (x := i) hGz17 (by omega) hpv (by omega) (by omega) hna) rfl (fun w17 φ17 n17 sl17 hn17 hN17 hs17 hT17 hR17 => ?_)
  obtain ⟨hwz17, hGr17⟩ := hR17
  subst hwz17
  have hG := hGr17
  skip
  obtain ⟨⟨hand, ie, hH, hhw⟩, hB, hTJ, hEJ, hN, hKJ, ⟨A, B, s9, hPS, hLK0⟩, hSP, hV5, ⟨slq, hSL⟩, hRW, hJ, hFJ, hWJ, ⟨ovn, ovh, hOV, hovn, hovh⟩⟩ := hG
  refine x_n_lt (fun hlt0 => ?_)
  have hmade := x_PS_lt hPS
  obtain ⟨co, ⟨top_, fr_, pc_, mm, st, lo, re, rs, fl, se, hKS⟩, hco⟩ := hKJ
  refine q_goto rfl ?_
  refine q_callrE (xs := [(0, 4294967295, 0), (6, 0, 0)]) (p2 := 56) rfl rfl rfl rfl (fun _ _ => rfl) rfl (zc_done hH hPS (by omega)) (Nat.le_refl _) (Nat.le_refl _) rfl (fun φ19 hR19 => ?_)
  obtain ⟨hs19_0, fr19⟩ := hR19
  have hm20 := (zq_tp_at hB (fr19 1 (by decide)))
  have hm21 := (zTJ_at hTJ (fun j h1 h2 => (fr19 j (by omega))))
  have hm22 := (zEJ_at hEJ (fun j h1 h2 => (fr19 j (by omega))))
  have hm23 := (zq_nm_at hN (fr19 239 (by decide)) (fr19 242 (by decide)) (fr19 244 (by decide)))
  have hm24 := (x_KS_at2 hKS (fun j h1 h2 h3 h4 => (fr19 j (by omega))))
  refine x_n_lt (fun hlt26 => ?_)
  have hm25 := (x_PS_at hPS (fun j hj hne => by have hj2 := x_some_lt hlt0 hne; exact (fr19 j (by omega))))
  have hm27 := (x_LK_at2 hLK0 (fun j h1 h2 => (fr19 j (by omega))))
  have hm28 := (x_SP_at hSP (fun j hj hne => by have hj2 := x_some_lt hlt0 hne; exact (fr19 j (by omega))))
  have hm29 := (zq_V5_at hV5 (fr19 485 (by decide)))
  have hm30 := (zq_SL_at hSL (fr19 482 (by decide)))
  have hm31 := (zq_RW_at hRW (fr19 483 (by decide)))
  have hm32 := (zq_J_at hJ (fr19 468 (by decide)) (fr19 469 (by decide)) (fr19 470 (by decide)))
  have hm33 := (zFJ_at hFJ (fun j h1 h2 => (fr19 j (by omega))))
  have hm34 := (zWJ_at hWJ (fun j h1 h2 => (fr19 j (by omega))))
  have hm35 := (zq_OV_at hOV (fr19 452 (by decide)) (fr19 453 (by decide)))
  exact q_retv (v := (0, 4294967295, 0)) rfl rfl (⟨rfl, ⟨by omega, by omega⟩, ⟨by omega, by omega⟩, _, rfl, ⟨⟨_, _, hs19_0, (x_hw_at hhw (fun j hj hne => by have hj2 := x_some_lt hlt0 hne; exact (fr19 j (by omega))))⟩, hm20, hm21, hm22, hm23, ⟨_, ⟨_, _, _, _, _, _, _, _, _, _, hm24⟩, hco⟩, ⟨_, _, _, hm25, hm27⟩, hm28, hm29, ⟨_, hm30⟩, hm31, hm32, hm33, hm34, ⟨_, _, hm35, hovn, hovh⟩⟩⟩)
set_option maxHeartbeats 1000000 in
theorem zc_call_3_3 {d n sl : Nat} {φ : FH} {tp : Nat → Nat} {lf : Nat} {mi : Nat} {made : Nat} {sv : Nat} {svm : Nat} {comb : Nat → Nat} {hm : Nat → MV} {sc : Nat → Nat} {sm : Nat → MV} {mh : MV} {noted : Nat} {verd : Nat} {ins : Nat → Nat} {ver : Nat → Nat} {sz : Nat} {bw : Nat → Nat} {x : Nat} {s4 s7 i j : Nat} {s10 v : Nat} (hG : zG φ 0 tp lf mi made sv svm comb hm sc sm mh noted verd ins ver sz bw) (hn0 : 486 ≤ n) (hpv : ∀ i, x_pv2 (hm i)) (hmi : mi + 300 ≤ 20000) (hx32 : x < 4294967296) (hf0 : x >>> 4 = s4) (hf1 : s4 &&& 7 = i) (hf2 : x >>> 7 = s7) (hf3 : s7 &&& 7 = j) (hf4 : x &&& 15 = 3) (hf5 : x >>> 10 = s10) (hf6 : s10 &&& 1023 = v) (hi : i < 8) (hj : j < 8) (hv : 100 ≤ v ∧ v ≤ 999) (hisA : x_isA made comb i 0) : x_f x_P (d + 12) 4 [(6, 0, 0), (0, x, 0), (11, 0, 0), (11, 0, 0), (11, 0, 0)] φ n sl (x_bR n sl 1 7 (fun zw φ2 => ∃ tpZ : Nat → Nat, zw = (0, 1, 0) ∧ zG φ2 0 tpZ 0 (mi + 1) made sv svm comb (zhm hm (i * 40 + 0) (1, v, 0, 0, [])) sc sm mh noted verd ins ver sz bw)) := by
  refine x_f_of rfl ?_
  have hG0 := hG
  obtain ⟨⟨hand, ie, hH, hhw⟩, hB, hTJ, hEJ, hN, hKJ, ⟨A, B, s9, hPS, hLK0⟩, hSP, hV5, ⟨slq, hSL⟩, hRW, hJ, hFJ, hWJ, ⟨ovn, ovh, hOV, hovn, hovh⟩⟩ := hG
  refine x_n_lt (fun hlt0 => ?_)
  have hmade := x_PS_lt hPS
  obtain ⟨co, ⟨top_, fr_, pc_, mm, st, lo, re, rs, fl, se, hKS⟩, hco⟩ := hKJ
  refine q_load (v := (0, x, 0)) (p2 := 1) rfl rfl rfl rfl ?_
  refine q_const (p2 := 2) rfl rfl ?_
  refine q_iushrz (z := s4) (p2 := 3) rfl (by omega) hf0 rfl ?_
  refine q_const (p2 := 4) rfl rfl ?_
  refine q_iandz (z := i) (p2 := 5) rfl hf1 (by omega) rfl ?_
  refine q_store (loc2 := [(6, 0, 0), (0, x, 0), (0, i, 0), (11, 0, 0), (11, 0, 0)]) (p2 := 6) rfl rfl rfl rfl rfl ?_
  refine q_load (v := (0, x, 0)) (p2 := 7) rfl rfl rfl rfl ?_
  refine q_const (p2 := 8) rfl rfl ?_
  refine q_iushrz (z := s7) (p2 := 9) rfl (by omega) hf2 rfl ?_
  refine q_const (p2 := 10) rfl rfl ?_
  refine q_iandz (z := j) (p2 := 11) rfl hf3 (by omega) rfl ?_
  refine q_store (loc2 := [(6, 0, 0), (0, x, 0), (0, i, 0), (0, j, 0), (11, 0, 0)]) (p2 := 12) rfl rfl rfl rfl rfl ?_
  refine q_const (p2 := 13) rfl rfl ?_
  refine q_store (loc2 := [(6, 0, 0), (0, x, 0), (0, i, 0), (0, j, 0), (0, 1, 0)]) (p2 := 14) rfl rfl rfl rfl rfl ?_
  refine q_load (v := (0, x, 0)) (p2 := 15) rfl rfl rfl rfl ?_
  refine q_const (p2 := 16) rfl rfl ?_
  refine q_iandz (z := 3) (p2 := 17) rfl hf4 (by omega) rfl ?_
  refine q_switch (tgt := 38) rfl (by decide) rfl ?_
  refine q_load (v := (6, 0, 0)) (p2 := 39) rfl rfl rfl rfl ?_
  refine q_load (v := (0, x, 0)) (p2 := 40) rfl rfl rfl rfl ?_
  refine q_const (p2 := 41) rfl rfl ?_
  refine q_iushrz (z := s10) (p2 := 42) rfl (by omega) hf5 rfl ?_
  refine q_const (p2 := 43) rfl rfl ?_
  refine q_iandz (z := v) (p2 := 44) rfl hf6 (by omega) rfl ?_
  refine q_callrE (xs := [(0, v, 0), (6, 0, 0)]) (p2 := 45) rfl rfl rfl rfl (fun _ _ => rfl) rfl (zc_pn_3_0 hH hB (by omega) ) (Nat.le_refl _) (Nat.le_refl _) rfl (fun φ1 hR1 => ?_)
  obtain ⟨tpq1, hH1, hB1, hq1_0, hq1_1, hq1_2, fr1⟩ := hR1
  refine q_store (loc2 := [(6, 0, 0), (0, x, 0), (0, i, 0), (0, j, 0), (0, 1, 0)]) (p2 := 46) rfl rfl rfl rfl rfl ?_
  refine q_load (v := (6, 0, 0)) (p2 := 47) rfl rfl rfl rfl ?_
  refine q_load (v := (0, 1, 0)) (p2 := 48) rfl rfl rfl rfl ?_
  refine q_if0_s (p2 := 49) rfl (by decide) (by omega) rfl (fun hb => absurd hb (show ¬ (1 = 0) by omega)) (fun _ => ?_)
  refine q_load (v := (6, 0, 0)) (p2 := 50) rfl rfl rfl rfl ?_
  refine q_load (v := (0, i, 0)) (p2 := 51) rfl rfl rfl rfl ?_
  refine q_const (p2 := 52) rfl rfl ?_
  have hm2 := (zTJ_at hTJ (fun j h1 h2 => (fr1 j (by omega) (by omega))))
  have hm3 := (zEJ_at hEJ (fun j h1 h2 => (fr1 j (by omega) (by omega))))
  have hm4 := (zq_nm_at hN (fr1 239 (by decide) (by decide)) (fr1 242 (by decide) (by decide)) (fr1 244 (by decide) (by decide)))
  have hm5 := (x_KS_at2 hKS (fun j h1 h2 h3 h4 => (fr1 j (by omega) (by omega))))
  refine x_n_lt (fun hlt7 => ?_)
  have hm6 := (x_PS_at hPS (fun j hj hne => by have hj2 := x_some_lt hlt0 hne; exact (fr1 j (by omega) (by omega))))
  have hm8 := (x_LK_at2 hLK0 (fun j h1 h2 => (fr1 j (by omega) (by omega))))
  have hm9 := (x_SP_at hSP (fun j hj hne => by have hj2 := x_some_lt hlt0 hne; exact (fr1 j (by omega) (by omega))))
  have hm10 := (zq_V5_at hV5 (fr1 485 (by decide) (by decide)))
  have hm11 := (zq_SL_at hSL (fr1 482 (by decide) (by decide)))
  have hm12 := (zq_RW_at hRW (fr1 483 (by decide) (by decide)))
  have hm13 := (zq_J_at hJ (fr1 468 (by decide) (by decide)) (fr1 469 (by decide) (by decide)) (fr1 470 (by decide) (by decide)))
  have hm14 := (zFJ_at hFJ (fun j h1 h2 => (fr1 j (by omega) (by omega))))
  have hm15 := (zWJ_at hWJ (fun j h1 h2 => (fr1 j (by omega) (by omega))))
  have hm16 := (zq_OV_at hOV (fr1 452 (by decide) (by decide)) (fr1 453 (by decide) (by decide)))
  have hGz17 : zG φ1 3 tpq1 lf mi made sv svm comb hm sc sm mh noted verd ins ver sz bw := ⟨⟨_, _, hH1, (x_hw_at hhw (fun j hj hne => by have hj2 := x_some_lt hlt0 hne; exact (fr1 j (by omega) (by omega))))⟩, hB1, hm2, hm3, hm4, ⟨_, ⟨_, _, _, _, _, _, _, _, _, _, hm5⟩, hco⟩, ⟨_, _, _, hm6, hm8⟩, hm9, hm10, ⟨_, hm11⟩, hm12, hm13, hm14, hm15, ⟨_, _, hm16, hovn, hovh⟩⟩
  refine q_callrB (xs := [(0, 0, 0), (0, i, 0), (6, 0, 0)]) (p2 := 53) rfl rfl rfl rfl (x_rcv_s 0 hH1) rfl (zc_set0_3 (x := i) (w1 := v) hGz17 (by omega) hpv (by omega) (by omega) hisA (hq1_0) (hq1_1) (hq1_2) (by omega) (by omega) (by omega) (by omega) (by omega)) rfl (fun w17 φ17 n17 sl17 hn17 hN17 hs17 hT17 hR17 => ?_)
  obtain ⟨hwz17, hGr17⟩ := hR17
  subst hwz17
  have hG := hGr17
  skip
  obtain ⟨⟨hand, ie, hH, hhw⟩, hB, hTJ, hEJ, hN, hKJ, ⟨A, B, s9, hPS, hLK0⟩, hSP, hV5, ⟨slq, hSL⟩, hRW, hJ, hFJ, hWJ, ⟨ovn, ovh, hOV, hovn, hovh⟩⟩ := hG
  refine x_n_lt (fun hlt0 => ?_)
  have hmade := x_PS_lt hPS
  obtain ⟨co, ⟨top_, fr_, pc_, mm, st, lo, re, rs, fl, se, hKS⟩, hco⟩ := hKJ
  refine q_goto rfl ?_
  refine q_callrE (xs := [(0, 1, 0), (6, 0, 0)]) (p2 := 56) rfl rfl rfl rfl (fun _ _ => rfl) rfl (zc_done hH hPS (by omega)) (Nat.le_refl _) (Nat.le_refl _) rfl (fun φ19 hR19 => ?_)
  obtain ⟨hs19_0, fr19⟩ := hR19
  have hm20 := (zq_tp_at hB (fr19 1 (by decide)))
  have hm21 := (zTJ_at hTJ (fun j h1 h2 => (fr19 j (by omega))))
  have hm22 := (zEJ_at hEJ (fun j h1 h2 => (fr19 j (by omega))))
  have hm23 := (zq_nm_at hN (fr19 239 (by decide)) (fr19 242 (by decide)) (fr19 244 (by decide)))
  have hm24 := (x_KS_at2 hKS (fun j h1 h2 h3 h4 => (fr19 j (by omega))))
  refine x_n_lt (fun hlt26 => ?_)
  have hm25 := (x_PS_at hPS (fun j hj hne => by have hj2 := x_some_lt hlt0 hne; exact (fr19 j (by omega))))
  have hm27 := (x_LK_at2 hLK0 (fun j h1 h2 => (fr19 j (by omega))))
  have hm28 := (x_SP_at hSP (fun j hj hne => by have hj2 := x_some_lt hlt0 hne; exact (fr19 j (by omega))))
  have hm29 := (zq_V5_at hV5 (fr19 485 (by decide)))
  have hm30 := (zq_SL_at hSL (fr19 482 (by decide)))
  have hm31 := (zq_RW_at hRW (fr19 483 (by decide)))
  have hm32 := (zq_J_at hJ (fr19 468 (by decide)) (fr19 469 (by decide)) (fr19 470 (by decide)))
  have hm33 := (zFJ_at hFJ (fun j h1 h2 => (fr19 j (by omega))))
  have hm34 := (zWJ_at hWJ (fun j h1 h2 => (fr19 j (by omega))))
  have hm35 := (zq_OV_at hOV (fr19 452 (by decide)) (fr19 453 (by decide)))
  exact q_retv (v := (0, 1, 0)) rfl rfl (⟨rfl, ⟨by omega, by omega⟩, ⟨by omega, by omega⟩, _, rfl, ⟨⟨_, _, hs19_0, (x_hw_at hhw (fun j hj hne => by have hj2 := x_some_lt hlt0 hne; exact (fr19 j (by omega))))⟩, hm20, hm21, hm22, hm23, ⟨_, ⟨_, _, _, _, _, _, _, _, _, _, hm24⟩, hco⟩, ⟨_, _, _, hm25, hm27⟩, hm28, hm29, ⟨_, hm30⟩, hm31, hm32, hm33, hm34, ⟨_, _, hm35, hovn, hovh⟩⟩⟩)
set_option maxHeartbeats 1000000 in
theorem zc_call_3_bad4 {d n sl : Nat} {φ : FH} {tp : Nat → Nat} {lf : Nat} {mi : Nat} {made : Nat} {sv : Nat} {svm : Nat} {comb : Nat → Nat} {hm : Nat → MV} {sc : Nat → Nat} {sm : Nat → MV} {mh : MV} {noted : Nat} {verd : Nat} {ins : Nat → Nat} {ver : Nat → Nat} {sz : Nat} {bw : Nat → Nat} {x : Nat} {s4 s7 i j : Nat} {s10 v : Nat} (hG : zG φ 0 tp lf mi made sv svm comb hm sc sm mh noted verd ins ver sz bw) (hn0 : 486 ≤ n) (hpv : ∀ i, x_pv2 (hm i)) (hmi : mi + 300 ≤ 20000) (hx32 : x < 4294967296) (hf0 : x >>> 4 = s4) (hf1 : s4 &&& 7 = i) (hf2 : x >>> 7 = s7) (hf3 : s7 &&& 7 = j) (hf4 : x &&& 15 = 3) (hf5 : x >>> 10 = s10) (hf6 : s10 &&& 1023 = v) (hi : i < 8) (hj : j < 8) (hv : 1000 ≤ v ∧ v ≤ 1023) (hna : ¬ x_isA made comb i 0) : x_f x_P (d + 5) 4 [(6, 0, 0), (0, x, 0), (11, 0, 0), (11, 0, 0), (11, 0, 0)] φ n sl (x_bR n sl 0 0 (fun zw φ2 => ∃ tpZ : Nat → Nat, zw = (0, 4294967295, 0) ∧ zG φ2 0 tpZ lf mi made sv svm comb hm sc sm mh noted verd ins ver sz bw)) := by
  refine x_f_of rfl ?_
  have hG0 := hG
  obtain ⟨⟨hand, ie, hH, hhw⟩, hB, hTJ, hEJ, hN, hKJ, ⟨A, B, s9, hPS, hLK0⟩, hSP, hV5, ⟨slq, hSL⟩, hRW, hJ, hFJ, hWJ, ⟨ovn, ovh, hOV, hovn, hovh⟩⟩ := hG
  refine x_n_lt (fun hlt0 => ?_)
  have hmade := x_PS_lt hPS
  obtain ⟨co, ⟨top_, fr_, pc_, mm, st, lo, re, rs, fl, se, hKS⟩, hco⟩ := hKJ
  refine q_load (v := (0, x, 0)) (p2 := 1) rfl rfl rfl rfl ?_
  refine q_const (p2 := 2) rfl rfl ?_
  refine q_iushrz (z := s4) (p2 := 3) rfl (by omega) hf0 rfl ?_
  refine q_const (p2 := 4) rfl rfl ?_
  refine q_iandz (z := i) (p2 := 5) rfl hf1 (by omega) rfl ?_
  refine q_store (loc2 := [(6, 0, 0), (0, x, 0), (0, i, 0), (11, 0, 0), (11, 0, 0)]) (p2 := 6) rfl rfl rfl rfl rfl ?_
  refine q_load (v := (0, x, 0)) (p2 := 7) rfl rfl rfl rfl ?_
  refine q_const (p2 := 8) rfl rfl ?_
  refine q_iushrz (z := s7) (p2 := 9) rfl (by omega) hf2 rfl ?_
  refine q_const (p2 := 10) rfl rfl ?_
  refine q_iandz (z := j) (p2 := 11) rfl hf3 (by omega) rfl ?_
  refine q_store (loc2 := [(6, 0, 0), (0, x, 0), (0, i, 0), (0, j, 0), (11, 0, 0)]) (p2 := 12) rfl rfl rfl rfl rfl ?_
  refine q_const (p2 := 13) rfl rfl ?_
  refine q_store (loc2 := [(6, 0, 0), (0, x, 0), (0, i, 0), (0, j, 0), (0, 1, 0)]) (p2 := 14) rfl rfl rfl rfl rfl ?_
  refine q_load (v := (0, x, 0)) (p2 := 15) rfl rfl rfl rfl ?_
  refine q_const (p2 := 16) rfl rfl ?_
  refine q_iandz (z := 3) (p2 := 17) rfl hf4 (by omega) rfl ?_
  refine q_switch (tgt := 38) rfl (by decide) rfl ?_
  refine q_load (v := (6, 0, 0)) (p2 := 39) rfl rfl rfl rfl ?_
  refine q_load (v := (0, x, 0)) (p2 := 40) rfl rfl rfl rfl ?_
  refine q_const (p2 := 41) rfl rfl ?_
  refine q_iushrz (z := s10) (p2 := 42) rfl (by omega) hf5 rfl ?_
  refine q_const (p2 := 43) rfl rfl ?_
  refine q_iandz (z := v) (p2 := 44) rfl hf6 (by omega) rfl ?_
  refine q_callrE (xs := [(0, v, 0), (6, 0, 0)]) (p2 := 45) rfl rfl rfl rfl (fun _ _ => rfl) rfl (zc_pn_4_0 hH hB (by omega) ) (Nat.le_refl _) (Nat.le_refl _) rfl (fun φ1 hR1 => ?_)
  obtain ⟨tpq1, hH1, hB1, hq1_0, hq1_1, hq1_2, hq1_3, fr1⟩ := hR1
  refine q_store (loc2 := [(6, 0, 0), (0, x, 0), (0, i, 0), (0, j, 0), (0, 1, 0)]) (p2 := 46) rfl rfl rfl rfl rfl ?_
  refine q_load (v := (6, 0, 0)) (p2 := 47) rfl rfl rfl rfl ?_
  refine q_load (v := (0, 1, 0)) (p2 := 48) rfl rfl rfl rfl ?_
  refine q_if0_s (p2 := 49) rfl (by decide) (by omega) rfl (fun hb => absurd hb (show ¬ (1 = 0) by omega)) (fun _ => ?_)
  refine q_load (v := (6, 0, 0)) (p2 := 50) rfl rfl rfl rfl ?_
  refine q_load (v := (0, i, 0)) (p2 := 51) rfl rfl rfl rfl ?_
  refine q_const (p2 := 52) rfl rfl ?_
  have hm2 := (zTJ_at hTJ (fun j h1 h2 => (fr1 j (by omega) (by omega))))
  have hm3 := (zEJ_at hEJ (fun j h1 h2 => (fr1 j (by omega) (by omega))))
  have hm4 := (zq_nm_at hN (fr1 239 (by decide) (by decide)) (fr1 242 (by decide) (by decide)) (fr1 244 (by decide) (by decide)))
  have hm5 := (x_KS_at2 hKS (fun j h1 h2 h3 h4 => (fr1 j (by omega) (by omega))))
  refine x_n_lt (fun hlt7 => ?_)
  have hm6 := (x_PS_at hPS (fun j hj hne => by have hj2 := x_some_lt hlt0 hne; exact (fr1 j (by omega) (by omega))))
  have hm8 := (x_LK_at2 hLK0 (fun j h1 h2 => (fr1 j (by omega) (by omega))))
  have hm9 := (x_SP_at hSP (fun j hj hne => by have hj2 := x_some_lt hlt0 hne; exact (fr1 j (by omega) (by omega))))
  have hm10 := (zq_V5_at hV5 (fr1 485 (by decide) (by decide)))
  have hm11 := (zq_SL_at hSL (fr1 482 (by decide) (by decide)))
  have hm12 := (zq_RW_at hRW (fr1 483 (by decide) (by decide)))
  have hm13 := (zq_J_at hJ (fr1 468 (by decide) (by decide)) (fr1 469 (by decide) (by decide)) (fr1 470 (by decide) (by decide)))
  have hm14 := (zFJ_at hFJ (fun j h1 h2 => (fr1 j (by omega) (by omega))))
  have hm15 := (zWJ_at hWJ (fun j h1 h2 => (fr1 j (by omega) (by omega))))
  have hm16 := (zq_OV_at hOV (fr1 452 (by decide) (by decide)) (fr1 453 (by decide) (by decide)))
  have hGz17 : zG φ1 4 tpq1 lf mi made sv svm comb hm sc sm mh noted verd ins ver sz bw := ⟨⟨_, _, hH1, (x_hw_at hhw (fun j hj hne => by have hj2 := x_some_lt hlt0 hne; exact (fr1 j (by omega) (by omega))))⟩, hB1, hm2, hm3, hm4, ⟨_, ⟨_, _, _, _, _, _, _, _, _, _, hm5⟩, hco⟩, ⟨_, _, _, hm6, hm8⟩, hm9, hm10, ⟨_, hm11⟩, hm12, hm13, hm14, hm15, ⟨_, _, hm16, hovn, hovh⟩⟩
  refine q_callrB (xs := [(0, 0, 0), (0, i, 0), (6, 0, 0)]) (p2 := 53) rfl rfl rfl rfl (x_rcv_s 0 hH1) rfl (zc_set0_bad (x := i) hGz17 (by omega) hpv (by omega) (by omega) hna) rfl (fun w17 φ17 n17 sl17 hn17 hN17 hs17 hT17 hR17 => ?_)
  obtain ⟨hwz17, hGr17⟩ := hR17
  subst hwz17
  have hG := hGr17
  skip
  obtain ⟨⟨hand, ie, hH, hhw⟩, hB, hTJ, hEJ, hN, hKJ, ⟨A, B, s9, hPS, hLK0⟩, hSP, hV5, ⟨slq, hSL⟩, hRW, hJ, hFJ, hWJ, ⟨ovn, ovh, hOV, hovn, hovh⟩⟩ := hG
  refine x_n_lt (fun hlt0 => ?_)
  have hmade := x_PS_lt hPS
  obtain ⟨co, ⟨top_, fr_, pc_, mm, st, lo, re, rs, fl, se, hKS⟩, hco⟩ := hKJ
  refine q_goto rfl ?_
  refine q_callrE (xs := [(0, 4294967295, 0), (6, 0, 0)]) (p2 := 56) rfl rfl rfl rfl (fun _ _ => rfl) rfl (zc_done hH hPS (by omega)) (Nat.le_refl _) (Nat.le_refl _) rfl (fun φ19 hR19 => ?_)
  obtain ⟨hs19_0, fr19⟩ := hR19
  have hm20 := (zq_tp_at hB (fr19 1 (by decide)))
  have hm21 := (zTJ_at hTJ (fun j h1 h2 => (fr19 j (by omega))))
  have hm22 := (zEJ_at hEJ (fun j h1 h2 => (fr19 j (by omega))))
  have hm23 := (zq_nm_at hN (fr19 239 (by decide)) (fr19 242 (by decide)) (fr19 244 (by decide)))
  have hm24 := (x_KS_at2 hKS (fun j h1 h2 h3 h4 => (fr19 j (by omega))))
  refine x_n_lt (fun hlt26 => ?_)
  have hm25 := (x_PS_at hPS (fun j hj hne => by have hj2 := x_some_lt hlt0 hne; exact (fr19 j (by omega))))
  have hm27 := (x_LK_at2 hLK0 (fun j h1 h2 => (fr19 j (by omega))))
  have hm28 := (x_SP_at hSP (fun j hj hne => by have hj2 := x_some_lt hlt0 hne; exact (fr19 j (by omega))))
  have hm29 := (zq_V5_at hV5 (fr19 485 (by decide)))
  have hm30 := (zq_SL_at hSL (fr19 482 (by decide)))
  have hm31 := (zq_RW_at hRW (fr19 483 (by decide)))
  have hm32 := (zq_J_at hJ (fr19 468 (by decide)) (fr19 469 (by decide)) (fr19 470 (by decide)))
  have hm33 := (zFJ_at hFJ (fun j h1 h2 => (fr19 j (by omega))))
  have hm34 := (zWJ_at hWJ (fun j h1 h2 => (fr19 j (by omega))))
  have hm35 := (zq_OV_at hOV (fr19 452 (by decide)) (fr19 453 (by decide)))
  exact q_retv (v := (0, 4294967295, 0)) rfl rfl (⟨rfl, ⟨by omega, by omega⟩, ⟨by omega, by omega⟩, _, rfl, ⟨⟨_, _, hs19_0, (x_hw_at hhw (fun j hj hne => by have hj2 := x_some_lt hlt0 hne; exact (fr19 j (by omega))))⟩, hm20, hm21, hm22, hm23, ⟨_, ⟨_, _, _, _, _, _, _, _, _, _, hm24⟩, hco⟩, ⟨_, _, _, hm25, hm27⟩, hm28, hm29, ⟨_, hm30⟩, hm31, hm32, hm33, hm34, ⟨_, _, hm35, hovn, hovh⟩⟩⟩)
set_option maxHeartbeats 1000000 in
theorem zc_call_3_4 {d n sl : Nat} {φ : FH} {tp : Nat → Nat} {lf : Nat} {mi : Nat} {made : Nat} {sv : Nat} {svm : Nat} {comb : Nat → Nat} {hm : Nat → MV} {sc : Nat → Nat} {sm : Nat → MV} {mh : MV} {noted : Nat} {verd : Nat} {ins : Nat → Nat} {ver : Nat → Nat} {sz : Nat} {bw : Nat → Nat} {x : Nat} {s4 s7 i j : Nat} {s10 v : Nat} (hG : zG φ 0 tp lf mi made sv svm comb hm sc sm mh noted verd ins ver sz bw) (hn0 : 486 ≤ n) (hpv : ∀ i, x_pv2 (hm i)) (hmi : mi + 300 ≤ 20000) (hx32 : x < 4294967296) (hf0 : x >>> 4 = s4) (hf1 : s4 &&& 7 = i) (hf2 : x >>> 7 = s7) (hf3 : s7 &&& 7 = j) (hf4 : x &&& 15 = 3) (hf5 : x >>> 10 = s10) (hf6 : s10 &&& 1023 = v) (hi : i < 8) (hj : j < 8) (hv : 1000 ≤ v ∧ v ≤ 1023) (hisA : x_isA made comb i 0) : x_f x_P (d + 12) 4 [(6, 0, 0), (0, x, 0), (11, 0, 0), (11, 0, 0), (11, 0, 0)] φ n sl (x_bR n sl 1 7 (fun zw φ2 => ∃ tpZ : Nat → Nat, zw = (0, 1, 0) ∧ zG φ2 0 tpZ 0 (mi + 1) made sv svm comb (zhm hm (i * 40 + 0) (1, v, 0, 0, [])) sc sm mh noted verd ins ver sz bw)) := by
  refine x_f_of rfl ?_
  have hG0 := hG
  obtain ⟨⟨hand, ie, hH, hhw⟩, hB, hTJ, hEJ, hN, hKJ, ⟨A, B, s9, hPS, hLK0⟩, hSP, hV5, ⟨slq, hSL⟩, hRW, hJ, hFJ, hWJ, ⟨ovn, ovh, hOV, hovn, hovh⟩⟩ := hG
  refine x_n_lt (fun hlt0 => ?_)
  have hmade := x_PS_lt hPS
  obtain ⟨co, ⟨top_, fr_, pc_, mm, st, lo, re, rs, fl, se, hKS⟩, hco⟩ := hKJ
  refine q_load (v := (0, x, 0)) (p2 := 1) rfl rfl rfl rfl ?_
  refine q_const (p2 := 2) rfl rfl ?_
  refine q_iushrz (z := s4) (p2 := 3) rfl (by omega) hf0 rfl ?_
  refine q_const (p2 := 4) rfl rfl ?_
  refine q_iandz (z := i) (p2 := 5) rfl hf1 (by omega) rfl ?_
  refine q_store (loc2 := [(6, 0, 0), (0, x, 0), (0, i, 0), (11, 0, 0), (11, 0, 0)]) (p2 := 6) rfl rfl rfl rfl rfl ?_
  refine q_load (v := (0, x, 0)) (p2 := 7) rfl rfl rfl rfl ?_
  refine q_const (p2 := 8) rfl rfl ?_
  refine q_iushrz (z := s7) (p2 := 9) rfl (by omega) hf2 rfl ?_
  refine q_const (p2 := 10) rfl rfl ?_
  refine q_iandz (z := j) (p2 := 11) rfl hf3 (by omega) rfl ?_
  refine q_store (loc2 := [(6, 0, 0), (0, x, 0), (0, i, 0), (0, j, 0), (11, 0, 0)]) (p2 := 12) rfl rfl rfl rfl rfl ?_
  refine q_const (p2 := 13) rfl rfl ?_
  refine q_store (loc2 := [(6, 0, 0), (0, x, 0), (0, i, 0), (0, j, 0), (0, 1, 0)]) (p2 := 14) rfl rfl rfl rfl rfl ?_
  refine q_load (v := (0, x, 0)) (p2 := 15) rfl rfl rfl rfl ?_
  refine q_const (p2 := 16) rfl rfl ?_
  refine q_iandz (z := 3) (p2 := 17) rfl hf4 (by omega) rfl ?_
  refine q_switch (tgt := 38) rfl (by decide) rfl ?_
  refine q_load (v := (6, 0, 0)) (p2 := 39) rfl rfl rfl rfl ?_
  refine q_load (v := (0, x, 0)) (p2 := 40) rfl rfl rfl rfl ?_
  refine q_const (p2 := 41) rfl rfl ?_
  refine q_iushrz (z := s10) (p2 := 42) rfl (by omega) hf5 rfl ?_
  refine q_const (p2 := 43) rfl rfl ?_
  refine q_iandz (z := v) (p2 := 44) rfl hf6 (by omega) rfl ?_
  refine q_callrE (xs := [(0, v, 0), (6, 0, 0)]) (p2 := 45) rfl rfl rfl rfl (fun _ _ => rfl) rfl (zc_pn_4_0 hH hB (by omega) ) (Nat.le_refl _) (Nat.le_refl _) rfl (fun φ1 hR1 => ?_)
  obtain ⟨tpq1, hH1, hB1, hq1_0, hq1_1, hq1_2, hq1_3, fr1⟩ := hR1
  refine q_store (loc2 := [(6, 0, 0), (0, x, 0), (0, i, 0), (0, j, 0), (0, 1, 0)]) (p2 := 46) rfl rfl rfl rfl rfl ?_
  refine q_load (v := (6, 0, 0)) (p2 := 47) rfl rfl rfl rfl ?_
  refine q_load (v := (0, 1, 0)) (p2 := 48) rfl rfl rfl rfl ?_
  refine q_if0_s (p2 := 49) rfl (by decide) (by omega) rfl (fun hb => absurd hb (show ¬ (1 = 0) by omega)) (fun _ => ?_)
  refine q_load (v := (6, 0, 0)) (p2 := 50) rfl rfl rfl rfl ?_
  refine q_load (v := (0, i, 0)) (p2 := 51) rfl rfl rfl rfl ?_
  refine q_const (p2 := 52) rfl rfl ?_
  have hm2 := (zTJ_at hTJ (fun j h1 h2 => (fr1 j (by omega) (by omega))))
  have hm3 := (zEJ_at hEJ (fun j h1 h2 => (fr1 j (by omega) (by omega))))
  have hm4 := (zq_nm_at hN (fr1 239 (by decide) (by decide)) (fr1 242 (by decide) (by decide)) (fr1 244 (by decide) (by decide)))
  have hm5 := (x_KS_at2 hKS (fun j h1 h2 h3 h4 => (fr1 j (by omega) (by omega))))
  refine x_n_lt (fun hlt7 => ?_)
  have hm6 := (x_PS_at hPS (fun j hj hne => by have hj2 := x_some_lt hlt0 hne; exact (fr1 j (by omega) (by omega))))
  have hm8 := (x_LK_at2 hLK0 (fun j h1 h2 => (fr1 j (by omega) (by omega))))
  have hm9 := (x_SP_at hSP (fun j hj hne => by have hj2 := x_some_lt hlt0 hne; exact (fr1 j (by omega) (by omega))))
  have hm10 := (zq_V5_at hV5 (fr1 485 (by decide) (by decide)))
  have hm11 := (zq_SL_at hSL (fr1 482 (by decide) (by decide)))
  have hm12 := (zq_RW_at hRW (fr1 483 (by decide) (by decide)))
  have hm13 := (zq_J_at hJ (fr1 468 (by decide) (by decide)) (fr1 469 (by decide) (by decide)) (fr1 470 (by decide) (by decide)))
  have hm14 := (zFJ_at hFJ (fun j h1 h2 => (fr1 j (by omega) (by omega))))
  have hm15 := (zWJ_at hWJ (fun j h1 h2 => (fr1 j (by omega) (by omega))))
  have hm16 := (zq_OV_at hOV (fr1 452 (by decide) (by decide)) (fr1 453 (by decide) (by decide)))
  have hGz17 : zG φ1 4 tpq1 lf mi made sv svm comb hm sc sm mh noted verd ins ver sz bw := ⟨⟨_, _, hH1, (x_hw_at hhw (fun j hj hne => by have hj2 := x_some_lt hlt0 hne; exact (fr1 j (by omega) (by omega))))⟩, hB1, hm2, hm3, hm4, ⟨_, ⟨_, _, _, _, _, _, _, _, _, _, hm5⟩, hco⟩, ⟨_, _, _, hm6, hm8⟩, hm9, hm10, ⟨_, hm11⟩, hm12, hm13, hm14, hm15, ⟨_, _, hm16, hovn, hovh⟩⟩
  refine q_callrB (xs := [(0, 0, 0), (0, i, 0), (6, 0, 0)]) (p2 := 53) rfl rfl rfl rfl (x_rcv_s 0 hH1) rfl (zc_set0_4 (x := i) (w1 := v) hGz17 (by omega) hpv (by omega) (by omega) hisA (hq1_0) (hq1_1) (hq1_2) (hq1_3) (by omega) (by omega) (by omega) (by omega) (by omega) (by omega)) rfl (fun w17 φ17 n17 sl17 hn17 hN17 hs17 hT17 hR17 => ?_)
  obtain ⟨hwz17, hGr17⟩ := hR17
  subst hwz17
  have hG := hGr17
  skip
  obtain ⟨⟨hand, ie, hH, hhw⟩, hB, hTJ, hEJ, hN, hKJ, ⟨A, B, s9, hPS, hLK0⟩, hSP, hV5, ⟨slq, hSL⟩, hRW, hJ, hFJ, hWJ, ⟨ovn, ovh, hOV, hovn, hovh⟩⟩ := hG
  refine x_n_lt (fun hlt0 => ?_)
  have hmade := x_PS_lt hPS
  obtain ⟨co, ⟨top_, fr_, pc_, mm, st, lo, re, rs, fl, se, hKS⟩, hco⟩ := hKJ
  refine q_goto rfl ?_
  refine q_callrE (xs := [(0, 1, 0), (6, 0, 0)]) (p2 := 56) rfl rfl rfl rfl (fun _ _ => rfl) rfl (zc_done hH hPS (by omega)) (Nat.le_refl _) (Nat.le_refl _) rfl (fun φ19 hR19 => ?_)
  obtain ⟨hs19_0, fr19⟩ := hR19
  have hm20 := (zq_tp_at hB (fr19 1 (by decide)))
  have hm21 := (zTJ_at hTJ (fun j h1 h2 => (fr19 j (by omega))))
  have hm22 := (zEJ_at hEJ (fun j h1 h2 => (fr19 j (by omega))))
  have hm23 := (zq_nm_at hN (fr19 239 (by decide)) (fr19 242 (by decide)) (fr19 244 (by decide)))
  have hm24 := (x_KS_at2 hKS (fun j h1 h2 h3 h4 => (fr19 j (by omega))))
  refine x_n_lt (fun hlt26 => ?_)
  have hm25 := (x_PS_at hPS (fun j hj hne => by have hj2 := x_some_lt hlt0 hne; exact (fr19 j (by omega))))
  have hm27 := (x_LK_at2 hLK0 (fun j h1 h2 => (fr19 j (by omega))))
  have hm28 := (x_SP_at hSP (fun j hj hne => by have hj2 := x_some_lt hlt0 hne; exact (fr19 j (by omega))))
  have hm29 := (zq_V5_at hV5 (fr19 485 (by decide)))
  have hm30 := (zq_SL_at hSL (fr19 482 (by decide)))
  have hm31 := (zq_RW_at hRW (fr19 483 (by decide)))
  have hm32 := (zq_J_at hJ (fr19 468 (by decide)) (fr19 469 (by decide)) (fr19 470 (by decide)))
  have hm33 := (zFJ_at hFJ (fun j h1 h2 => (fr19 j (by omega))))
  have hm34 := (zWJ_at hWJ (fun j h1 h2 => (fr19 j (by omega))))
  have hm35 := (zq_OV_at hOV (fr19 452 (by decide)) (fr19 453 (by decide)))
  exact q_retv (v := (0, 1, 0)) rfl rfl (⟨rfl, ⟨by omega, by omega⟩, ⟨by omega, by omega⟩, _, rfl, ⟨⟨_, _, hs19_0, (x_hw_at hhw (fun j hj hne => by have hj2 := x_some_lt hlt0 hne; exact (fr19 j (by omega))))⟩, hm20, hm21, hm22, hm23, ⟨_, ⟨_, _, _, _, _, _, _, _, _, _, hm24⟩, hco⟩, ⟨_, _, _, hm25, hm27⟩, hm28, hm29, ⟨_, hm30⟩, hm31, hm32, hm33, hm34, ⟨_, _, hm35, hovn, hovh⟩⟩⟩)
set_option maxHeartbeats 1000000 in
theorem zc_call_4_bad1 {d n sl : Nat} {φ : FH} {tp : Nat → Nat} {lf : Nat} {mi : Nat} {made : Nat} {sv : Nat} {svm : Nat} {comb : Nat → Nat} {hm : Nat → MV} {sc : Nat → Nat} {sm : Nat → MV} {mh : MV} {noted : Nat} {verd : Nat} {ins : Nat → Nat} {ver : Nat → Nat} {sz : Nat} {bw : Nat → Nat} {x : Nat} {s4 s7 i j : Nat} {s10 v : Nat} (hG : zG φ 0 tp lf mi made sv svm comb hm sc sm mh noted verd ins ver sz bw) (hn0 : 486 ≤ n) (hpv : ∀ i, x_pv2 (hm i)) (hmi : mi + 300 ≤ 20000) (hx32 : x < 4294967296) (hf0 : x >>> 4 = s4) (hf1 : s4 &&& 7 = i) (hf2 : x >>> 7 = s7) (hf3 : s7 &&& 7 = j) (hf4 : x &&& 15 = 4) (hf5 : x >>> 10 = s10) (hf6 : s10 &&& 1023 = v) (hi : i < 8) (hj : j < 8) (hv : 0 ≤ v ∧ v ≤ 9) (hna : ¬ x_isA made comb i 0) : x_f x_P (d + 5) 4 [(6, 0, 0), (0, x, 0), (11, 0, 0), (11, 0, 0), (11, 0, 0)] φ n sl (x_bR n sl 0 0 (fun zw φ2 => ∃ tpZ : Nat → Nat, zw = (0, 4294967295, 0) ∧ zG φ2 0 tpZ lf mi made sv svm comb hm sc sm mh noted verd ins ver sz bw)) := by
  refine x_f_of rfl ?_
  have hG0 := hG
  obtain ⟨⟨hand, ie, hH, hhw⟩, hB, hTJ, hEJ, hN, hKJ, ⟨A, B, s9, hPS, hLK0⟩, hSP, hV5, ⟨slq, hSL⟩, hRW, hJ, hFJ, hWJ, ⟨ovn, ovh, hOV, hovn, hovh⟩⟩ := hG
  refine x_n_lt (fun hlt0 => ?_)
  have hmade := x_PS_lt hPS
  obtain ⟨co, ⟨top_, fr_, pc_, mm, st, lo, re, rs, fl, se, hKS⟩, hco⟩ := hKJ
  refine q_load (v := (0, x, 0)) (p2 := 1) rfl rfl rfl rfl ?_
  refine q_const (p2 := 2) rfl rfl ?_
  refine q_iushrz (z := s4) (p2 := 3) rfl (by omega) hf0 rfl ?_
  refine q_const (p2 := 4) rfl rfl ?_
  refine q_iandz (z := i) (p2 := 5) rfl hf1 (by omega) rfl ?_
  refine q_store (loc2 := [(6, 0, 0), (0, x, 0), (0, i, 0), (11, 0, 0), (11, 0, 0)]) (p2 := 6) rfl rfl rfl rfl rfl ?_
  refine q_load (v := (0, x, 0)) (p2 := 7) rfl rfl rfl rfl ?_
  refine q_const (p2 := 8) rfl rfl ?_
  refine q_iushrz (z := s7) (p2 := 9) rfl (by omega) hf2 rfl ?_
  refine q_const (p2 := 10) rfl rfl ?_
  refine q_iandz (z := j) (p2 := 11) rfl hf3 (by omega) rfl ?_
  refine q_store (loc2 := [(6, 0, 0), (0, x, 0), (0, i, 0), (0, j, 0), (11, 0, 0)]) (p2 := 12) rfl rfl rfl rfl rfl ?_
  refine q_const (p2 := 13) rfl rfl ?_
  refine q_store (loc2 := [(6, 0, 0), (0, x, 0), (0, i, 0), (0, j, 0), (0, 1, 0)]) (p2 := 14) rfl rfl rfl rfl rfl ?_
  refine q_load (v := (0, x, 0)) (p2 := 15) rfl rfl rfl rfl ?_
  refine q_const (p2 := 16) rfl rfl ?_
  refine q_iandz (z := 4) (p2 := 17) rfl hf4 (by omega) rfl ?_
  refine q_switch (tgt := 38) rfl (by decide) rfl ?_
  refine q_load (v := (6, 0, 0)) (p2 := 39) rfl rfl rfl rfl ?_
  refine q_load (v := (0, x, 0)) (p2 := 40) rfl rfl rfl rfl ?_
  refine q_const (p2 := 41) rfl rfl ?_
  refine q_iushrz (z := s10) (p2 := 42) rfl (by omega) hf5 rfl ?_
  refine q_const (p2 := 43) rfl rfl ?_
  refine q_iandz (z := v) (p2 := 44) rfl hf6 (by omega) rfl ?_
  refine q_callrE (xs := [(0, v, 0), (6, 0, 0)]) (p2 := 45) rfl rfl rfl rfl (fun _ _ => rfl) rfl (zc_pn_1_0 hH hB (by omega) ) (Nat.le_refl _) (Nat.le_refl _) rfl (fun φ1 hR1 => ?_)
  obtain ⟨tpq1, hH1, hB1, hq1_0, fr1⟩ := hR1
  refine q_store (loc2 := [(6, 0, 0), (0, x, 0), (0, i, 0), (0, j, 0), (0, 1, 0)]) (p2 := 46) rfl rfl rfl rfl rfl ?_
  refine q_load (v := (6, 0, 0)) (p2 := 47) rfl rfl rfl rfl ?_
  refine q_load (v := (0, 1, 0)) (p2 := 48) rfl rfl rfl rfl ?_
  refine q_if0_s (p2 := 49) rfl (by decide) (by omega) rfl (fun hb => absurd hb (show ¬ (1 = 0) by omega)) (fun _ => ?_)
  refine q_load (v := (6, 0, 0)) (p2 := 50) rfl rfl rfl rfl ?_
  refine q_load (v := (0, i, 0)) (p2 := 51) rfl rfl rfl rfl ?_
  refine q_const (p2 := 52) rfl rfl ?_
  have hm2 := (zTJ_at hTJ (fun j h1 h2 => (fr1 j (by omega) (by omega))))
  have hm3 := (zEJ_at hEJ (fun j h1 h2 => (fr1 j (by omega) (by omega))))
  have hm4 := (zq_nm_at hN (fr1 239 (by decide) (by decide)) (fr1 242 (by decide) (by decide)) (fr1 244 (by decide) (by decide)))
  have hm5 := (x_KS_at2 hKS (fun j h1 h2 h3 h4 => (fr1 j (by omega) (by omega))))
  refine x_n_lt (fun hlt7 => ?_)
  have hm6 := (x_PS_at hPS (fun j hj hne => by have hj2 := x_some_lt hlt0 hne; exact (fr1 j (by omega) (by omega))))
  have hm8 := (x_LK_at2 hLK0 (fun j h1 h2 => (fr1 j (by omega) (by omega))))
  have hm9 := (x_SP_at hSP (fun j hj hne => by have hj2 := x_some_lt hlt0 hne; exact (fr1 j (by omega) (by omega))))
  have hm10 := (zq_V5_at hV5 (fr1 485 (by decide) (by decide)))
  have hm11 := (zq_SL_at hSL (fr1 482 (by decide) (by decide)))
  have hm12 := (zq_RW_at hRW (fr1 483 (by decide) (by decide)))
  have hm13 := (zq_J_at hJ (fr1 468 (by decide) (by decide)) (fr1 469 (by decide) (by decide)) (fr1 470 (by decide) (by decide)))
  have hm14 := (zFJ_at hFJ (fun j h1 h2 => (fr1 j (by omega) (by omega))))
  have hm15 := (zWJ_at hWJ (fun j h1 h2 => (fr1 j (by omega) (by omega))))
  have hm16 := (zq_OV_at hOV (fr1 452 (by decide) (by decide)) (fr1 453 (by decide) (by decide)))
  have hGz17 : zG φ1 1 tpq1 lf mi made sv svm comb hm sc sm mh noted verd ins ver sz bw := ⟨⟨_, _, hH1, (x_hw_at hhw (fun j hj hne => by have hj2 := x_some_lt hlt0 hne; exact (fr1 j (by omega) (by omega))))⟩, hB1, hm2, hm3, hm4, ⟨_, ⟨_, _, _, _, _, _, _, _, _, _, hm5⟩, hco⟩, ⟨_, _, _, hm6, hm8⟩, hm9, hm10, ⟨_, hm11⟩, hm12, hm13, hm14, hm15, ⟨_, _, hm16, hovn, hovh⟩⟩
  refine q_callrB (xs := [(0, 0, 0), (0, i, 0), (6, 0, 0)]) (p2 := 53) rfl rfl rfl rfl (x_rcv_s 0 hH1) rfl (zc_set0_bad (x := i) hGz17 (by omega) hpv (by omega) (by omega) hna) rfl (fun w17 φ17 n17 sl17 hn17 hN17 hs17 hT17 hR17 => ?_)
  obtain ⟨hwz17, hGr17⟩ := hR17
  subst hwz17
  have hG := hGr17
  skip
  obtain ⟨⟨hand, ie, hH, hhw⟩, hB, hTJ, hEJ, hN, hKJ, ⟨A, B, s9, hPS, hLK0⟩, hSP, hV5, ⟨slq, hSL⟩, hRW, hJ, hFJ, hWJ, ⟨ovn, ovh, hOV, hovn, hovh⟩⟩ := hG
  refine x_n_lt (fun hlt0 => ?_)
  have hmade := x_PS_lt hPS
  obtain ⟨co, ⟨top_, fr_, pc_, mm, st, lo, re, rs, fl, se, hKS⟩, hco⟩ := hKJ
  refine q_goto rfl ?_
  refine q_callrE (xs := [(0, 4294967295, 0), (6, 0, 0)]) (p2 := 56) rfl rfl rfl rfl (fun _ _ => rfl) rfl (zc_done hH hPS (by omega)) (Nat.le_refl _) (Nat.le_refl _) rfl (fun φ19 hR19 => ?_)
  obtain ⟨hs19_0, fr19⟩ := hR19
  have hm20 := (zq_tp_at hB (fr19 1 (by decide)))
  have hm21 := (zTJ_at hTJ (fun j h1 h2 => (fr19 j (by omega))))
  have hm22 := (zEJ_at hEJ (fun j h1 h2 => (fr19 j (by omega))))
  have hm23 := (zq_nm_at hN (fr19 239 (by decide)) (fr19 242 (by decide)) (fr19 244 (by decide)))
  have hm24 := (x_KS_at2 hKS (fun j h1 h2 h3 h4 => (fr19 j (by omega))))
  refine x_n_lt (fun hlt26 => ?_)
  have hm25 := (x_PS_at hPS (fun j hj hne => by have hj2 := x_some_lt hlt0 hne; exact (fr19 j (by omega))))
  have hm27 := (x_LK_at2 hLK0 (fun j h1 h2 => (fr19 j (by omega))))
  have hm28 := (x_SP_at hSP (fun j hj hne => by have hj2 := x_some_lt hlt0 hne; exact (fr19 j (by omega))))
  have hm29 := (zq_V5_at hV5 (fr19 485 (by decide)))
  have hm30 := (zq_SL_at hSL (fr19 482 (by decide)))
  have hm31 := (zq_RW_at hRW (fr19 483 (by decide)))
  have hm32 := (zq_J_at hJ (fr19 468 (by decide)) (fr19 469 (by decide)) (fr19 470 (by decide)))
  have hm33 := (zFJ_at hFJ (fun j h1 h2 => (fr19 j (by omega))))
  have hm34 := (zWJ_at hWJ (fun j h1 h2 => (fr19 j (by omega))))
  have hm35 := (zq_OV_at hOV (fr19 452 (by decide)) (fr19 453 (by decide)))
  exact q_retv (v := (0, 4294967295, 0)) rfl rfl (⟨rfl, ⟨by omega, by omega⟩, ⟨by omega, by omega⟩, _, rfl, ⟨⟨_, _, hs19_0, (x_hw_at hhw (fun j hj hne => by have hj2 := x_some_lt hlt0 hne; exact (fr19 j (by omega))))⟩, hm20, hm21, hm22, hm23, ⟨_, ⟨_, _, _, _, _, _, _, _, _, _, hm24⟩, hco⟩, ⟨_, _, _, hm25, hm27⟩, hm28, hm29, ⟨_, hm30⟩, hm31, hm32, hm33, hm34, ⟨_, _, hm35, hovn, hovh⟩⟩⟩)
set_option maxHeartbeats 1000000 in
theorem zc_call_4_1 {d n sl : Nat} {φ : FH} {tp : Nat → Nat} {lf : Nat} {mi : Nat} {made : Nat} {sv : Nat} {svm : Nat} {comb : Nat → Nat} {hm : Nat → MV} {sc : Nat → Nat} {sm : Nat → MV} {mh : MV} {noted : Nat} {verd : Nat} {ins : Nat → Nat} {ver : Nat → Nat} {sz : Nat} {bw : Nat → Nat} {x : Nat} {s4 s7 i j : Nat} {s10 v : Nat} (hG : zG φ 0 tp lf mi made sv svm comb hm sc sm mh noted verd ins ver sz bw) (hn0 : 486 ≤ n) (hpv : ∀ i, x_pv2 (hm i)) (hmi : mi + 300 ≤ 20000) (hx32 : x < 4294967296) (hf0 : x >>> 4 = s4) (hf1 : s4 &&& 7 = i) (hf2 : x >>> 7 = s7) (hf3 : s7 &&& 7 = j) (hf4 : x &&& 15 = 4) (hf5 : x >>> 10 = s10) (hf6 : s10 &&& 1023 = v) (hi : i < 8) (hj : j < 8) (hv : 0 ≤ v ∧ v ≤ 9) (hisA : x_isA made comb i 0) : x_f x_P (d + 12) 4 [(6, 0, 0), (0, x, 0), (11, 0, 0), (11, 0, 0), (11, 0, 0)] φ n sl (x_bR n sl 1 7 (fun zw φ2 => ∃ tpZ : Nat → Nat, zw = (0, 1, 0) ∧ zG φ2 0 tpZ 0 (mi + 1) made sv svm comb (zhm hm (i * 40 + 0) (1, v, 0, 0, [])) sc sm mh noted verd ins ver sz bw)) := by
  refine x_f_of rfl ?_
  have hG0 := hG
  obtain ⟨⟨hand, ie, hH, hhw⟩, hB, hTJ, hEJ, hN, hKJ, ⟨A, B, s9, hPS, hLK0⟩, hSP, hV5, ⟨slq, hSL⟩, hRW, hJ, hFJ, hWJ, ⟨ovn, ovh, hOV, hovn, hovh⟩⟩ := hG
  refine x_n_lt (fun hlt0 => ?_)
  have hmade := x_PS_lt hPS
  obtain ⟨co, ⟨top_, fr_, pc_, mm, st, lo, re, rs, fl, se, hKS⟩, hco⟩ := hKJ
  refine q_load (v := (0, x, 0)) (p2 := 1) rfl rfl rfl rfl ?_
  refine q_const (p2 := 2) rfl rfl ?_
  refine q_iushrz (z := s4) (p2 := 3) rfl (by omega) hf0 rfl ?_
  refine q_const (p2 := 4) rfl rfl ?_
  refine q_iandz (z := i) (p2 := 5) rfl hf1 (by omega) rfl ?_
  refine q_store (loc2 := [(6, 0, 0), (0, x, 0), (0, i, 0), (11, 0, 0), (11, 0, 0)]) (p2 := 6) rfl rfl rfl rfl rfl ?_
  refine q_load (v := (0, x, 0)) (p2 := 7) rfl rfl rfl rfl ?_
  refine q_const (p2 := 8) rfl rfl ?_
  refine q_iushrz (z := s7) (p2 := 9) rfl (by omega) hf2 rfl ?_
  refine q_const (p2 := 10) rfl rfl ?_
  refine q_iandz (z := j) (p2 := 11) rfl hf3 (by omega) rfl ?_
  refine q_store (loc2 := [(6, 0, 0), (0, x, 0), (0, i, 0), (0, j, 0), (11, 0, 0)]) (p2 := 12) rfl rfl rfl rfl rfl ?_
  refine q_const (p2 := 13) rfl rfl ?_
  refine q_store (loc2 := [(6, 0, 0), (0, x, 0), (0, i, 0), (0, j, 0), (0, 1, 0)]) (p2 := 14) rfl rfl rfl rfl rfl ?_
  refine q_load (v := (0, x, 0)) (p2 := 15) rfl rfl rfl rfl ?_
  refine q_const (p2 := 16) rfl rfl ?_
  refine q_iandz (z := 4) (p2 := 17) rfl hf4 (by omega) rfl ?_
  refine q_switch (tgt := 38) rfl (by decide) rfl ?_
  refine q_load (v := (6, 0, 0)) (p2 := 39) rfl rfl rfl rfl ?_
  refine q_load (v := (0, x, 0)) (p2 := 40) rfl rfl rfl rfl ?_
  refine q_const (p2 := 41) rfl rfl ?_
  refine q_iushrz (z := s10) (p2 := 42) rfl (by omega) hf5 rfl ?_
  refine q_const (p2 := 43) rfl rfl ?_
  refine q_iandz (z := v) (p2 := 44) rfl hf6 (by omega) rfl ?_
  refine q_callrE (xs := [(0, v, 0), (6, 0, 0)]) (p2 := 45) rfl rfl rfl rfl (fun _ _ => rfl) rfl (zc_pn_1_0 hH hB (by omega) ) (Nat.le_refl _) (Nat.le_refl _) rfl (fun φ1 hR1 => ?_)
  obtain ⟨tpq1, hH1, hB1, hq1_0, fr1⟩ := hR1
  refine q_store (loc2 := [(6, 0, 0), (0, x, 0), (0, i, 0), (0, j, 0), (0, 1, 0)]) (p2 := 46) rfl rfl rfl rfl rfl ?_
  refine q_load (v := (6, 0, 0)) (p2 := 47) rfl rfl rfl rfl ?_
  refine q_load (v := (0, 1, 0)) (p2 := 48) rfl rfl rfl rfl ?_
  refine q_if0_s (p2 := 49) rfl (by decide) (by omega) rfl (fun hb => absurd hb (show ¬ (1 = 0) by omega)) (fun _ => ?_)
  refine q_load (v := (6, 0, 0)) (p2 := 50) rfl rfl rfl rfl ?_
  refine q_load (v := (0, i, 0)) (p2 := 51) rfl rfl rfl rfl ?_
  refine q_const (p2 := 52) rfl rfl ?_
  have hm2 := (zTJ_at hTJ (fun j h1 h2 => (fr1 j (by omega) (by omega))))
  have hm3 := (zEJ_at hEJ (fun j h1 h2 => (fr1 j (by omega) (by omega))))
  have hm4 := (zq_nm_at hN (fr1 239 (by decide) (by decide)) (fr1 242 (by decide) (by decide)) (fr1 244 (by decide) (by decide)))
  have hm5 := (x_KS_at2 hKS (fun j h1 h2 h3 h4 => (fr1 j (by omega) (by omega))))
  refine x_n_lt (fun hlt7 => ?_)
  have hm6 := (x_PS_at hPS (fun j hj hne => by have hj2 := x_some_lt hlt0 hne; exact (fr1 j (by omega) (by omega))))
  have hm8 := (x_LK_at2 hLK0 (fun j h1 h2 => (fr1 j (by omega) (by omega))))
  have hm9 := (x_SP_at hSP (fun j hj hne => by have hj2 := x_some_lt hlt0 hne; exact (fr1 j (by omega) (by omega))))
  have hm10 := (zq_V5_at hV5 (fr1 485 (by decide) (by decide)))
  have hm11 := (zq_SL_at hSL (fr1 482 (by decide) (by decide)))
  have hm12 := (zq_RW_at hRW (fr1 483 (by decide) (by decide)))
  have hm13 := (zq_J_at hJ (fr1 468 (by decide) (by decide)) (fr1 469 (by decide) (by decide)) (fr1 470 (by decide) (by decide)))
  have hm14 := (zFJ_at hFJ (fun j h1 h2 => (fr1 j (by omega) (by omega))))
  have hm15 := (zWJ_at hWJ (fun j h1 h2 => (fr1 j (by omega) (by omega))))
  have hm16 := (zq_OV_at hOV (fr1 452 (by decide) (by decide)) (fr1 453 (by decide) (by decide)))
  have hGz17 : zG φ1 1 tpq1 lf mi made sv svm comb hm sc sm mh noted verd ins ver sz bw := ⟨⟨_, _, hH1, (x_hw_at hhw (fun j hj hne => by have hj2 := x_some_lt hlt0 hne; exact (fr1 j (by omega) (by omega))))⟩, hB1, hm2, hm3, hm4, ⟨_, ⟨_, _, _, _, _, _, _, _, _, _, hm5⟩, hco⟩, ⟨_, _, _, hm6, hm8⟩, hm9, hm10, ⟨_, hm11⟩, hm12, hm13, hm14, hm15, ⟨_, _, hm16, hovn, hovh⟩⟩
  refine q_callrB (xs := [(0, 0, 0), (0, i, 0), (6, 0, 0)]) (p2 := 53) rfl rfl rfl rfl (x_rcv_s 0 hH1) rfl (zc_set0_1 (x := i) (w1 := v) hGz17 (by omega) hpv (by omega) (by omega) hisA (hq1_0) (by omega) (by omega) (by omega)) rfl (fun w17 φ17 n17 sl17 hn17 hN17 hs17 hT17 hR17 => ?_)
  obtain ⟨hwz17, hGr17⟩ := hR17
  subst hwz17
  have hG := hGr17
  skip
  obtain ⟨⟨hand, ie, hH, hhw⟩, hB, hTJ, hEJ, hN, hKJ, ⟨A, B, s9, hPS, hLK0⟩, hSP, hV5, ⟨slq, hSL⟩, hRW, hJ, hFJ, hWJ, ⟨ovn, ovh, hOV, hovn, hovh⟩⟩ := hG
  refine x_n_lt (fun hlt0 => ?_)
  have hmade := x_PS_lt hPS
  obtain ⟨co, ⟨top_, fr_, pc_, mm, st, lo, re, rs, fl, se, hKS⟩, hco⟩ := hKJ
  refine q_goto rfl ?_
  refine q_callrE (xs := [(0, 1, 0), (6, 0, 0)]) (p2 := 56) rfl rfl rfl rfl (fun _ _ => rfl) rfl (zc_done hH hPS (by omega)) (Nat.le_refl _) (Nat.le_refl _) rfl (fun φ19 hR19 => ?_)
  obtain ⟨hs19_0, fr19⟩ := hR19
  have hm20 := (zq_tp_at hB (fr19 1 (by decide)))
  have hm21 := (zTJ_at hTJ (fun j h1 h2 => (fr19 j (by omega))))
  have hm22 := (zEJ_at hEJ (fun j h1 h2 => (fr19 j (by omega))))
  have hm23 := (zq_nm_at hN (fr19 239 (by decide)) (fr19 242 (by decide)) (fr19 244 (by decide)))
  have hm24 := (x_KS_at2 hKS (fun j h1 h2 h3 h4 => (fr19 j (by omega))))
  refine x_n_lt (fun hlt26 => ?_)
  have hm25 := (x_PS_at hPS (fun j hj hne => by have hj2 := x_some_lt hlt0 hne; exact (fr19 j (by omega))))
  have hm27 := (x_LK_at2 hLK0 (fun j h1 h2 => (fr19 j (by omega))))
  have hm28 := (x_SP_at hSP (fun j hj hne => by have hj2 := x_some_lt hlt0 hne; exact (fr19 j (by omega))))
  have hm29 := (zq_V5_at hV5 (fr19 485 (by decide)))
  have hm30 := (zq_SL_at hSL (fr19 482 (by decide)))
  have hm31 := (zq_RW_at hRW (fr19 483 (by decide)))
  have hm32 := (zq_J_at hJ (fr19 468 (by decide)) (fr19 469 (by decide)) (fr19 470 (by decide)))
  have hm33 := (zFJ_at hFJ (fun j h1 h2 => (fr19 j (by omega))))
  have hm34 := (zWJ_at hWJ (fun j h1 h2 => (fr19 j (by omega))))
  have hm35 := (zq_OV_at hOV (fr19 452 (by decide)) (fr19 453 (by decide)))
  exact q_retv (v := (0, 1, 0)) rfl rfl (⟨rfl, ⟨by omega, by omega⟩, ⟨by omega, by omega⟩, _, rfl, ⟨⟨_, _, hs19_0, (x_hw_at hhw (fun j hj hne => by have hj2 := x_some_lt hlt0 hne; exact (fr19 j (by omega))))⟩, hm20, hm21, hm22, hm23, ⟨_, ⟨_, _, _, _, _, _, _, _, _, _, hm24⟩, hco⟩, ⟨_, _, _, hm25, hm27⟩, hm28, hm29, ⟨_, hm30⟩, hm31, hm32, hm33, hm34, ⟨_, _, hm35, hovn, hovh⟩⟩⟩)
set_option maxHeartbeats 1000000 in
theorem zc_call_4_bad2 {d n sl : Nat} {φ : FH} {tp : Nat → Nat} {lf : Nat} {mi : Nat} {made : Nat} {sv : Nat} {svm : Nat} {comb : Nat → Nat} {hm : Nat → MV} {sc : Nat → Nat} {sm : Nat → MV} {mh : MV} {noted : Nat} {verd : Nat} {ins : Nat → Nat} {ver : Nat → Nat} {sz : Nat} {bw : Nat → Nat} {x : Nat} {s4 s7 i j : Nat} {s10 v : Nat} (hG : zG φ 0 tp lf mi made sv svm comb hm sc sm mh noted verd ins ver sz bw) (hn0 : 486 ≤ n) (hpv : ∀ i, x_pv2 (hm i)) (hmi : mi + 300 ≤ 20000) (hx32 : x < 4294967296) (hf0 : x >>> 4 = s4) (hf1 : s4 &&& 7 = i) (hf2 : x >>> 7 = s7) (hf3 : s7 &&& 7 = j) (hf4 : x &&& 15 = 4) (hf5 : x >>> 10 = s10) (hf6 : s10 &&& 1023 = v) (hi : i < 8) (hj : j < 8) (hv : 10 ≤ v ∧ v ≤ 99) (hna : ¬ x_isA made comb i 0) : x_f x_P (d + 5) 4 [(6, 0, 0), (0, x, 0), (11, 0, 0), (11, 0, 0), (11, 0, 0)] φ n sl (x_bR n sl 0 0 (fun zw φ2 => ∃ tpZ : Nat → Nat, zw = (0, 4294967295, 0) ∧ zG φ2 0 tpZ lf mi made sv svm comb hm sc sm mh noted verd ins ver sz bw)) := by
  refine x_f_of rfl ?_
  have hG0 := hG
  obtain ⟨⟨hand, ie, hH, hhw⟩, hB, hTJ, hEJ, hN, hKJ, ⟨A, B, s9, hPS, hLK0⟩, hSP, hV5, ⟨slq, hSL⟩, hRW, hJ, hFJ, hWJ, ⟨ovn, ovh, hOV, hovn, hovh⟩⟩ := hG
  refine x_n_lt (fun hlt0 => ?_)
  have hmade := x_PS_lt hPS
  obtain ⟨co, ⟨top_, fr_, pc_, mm, st, lo, re, rs, fl, se, hKS⟩, hco⟩ := hKJ
  refine q_load (v := (0, x, 0)) (p2 := 1) rfl rfl rfl rfl ?_
  refine q_const (p2 := 2) rfl rfl ?_
  refine q_iushrz (z := s4) (p2 := 3) rfl (by omega) hf0 rfl ?_
  refine q_const (p2 := 4) rfl rfl ?_
  refine q_iandz (z := i) (p2 := 5) rfl hf1 (by omega) rfl ?_
  refine q_store (loc2 := [(6, 0, 0), (0, x, 0), (0, i, 0), (11, 0, 0), (11, 0, 0)]) (p2 := 6) rfl rfl rfl rfl rfl ?_
  refine q_load (v := (0, x, 0)) (p2 := 7) rfl rfl rfl rfl ?_
  refine q_const (p2 := 8) rfl rfl ?_
  refine q_iushrz (z := s7) (p2 := 9) rfl (by omega) hf2 rfl ?_
  refine q_const (p2 := 10) rfl rfl ?_
  refine q_iandz (z := j) (p2 := 11) rfl hf3 (by omega) rfl ?_
  refine q_store (loc2 := [(6, 0, 0), (0, x, 0), (0, i, 0), (0, j, 0), (11, 0, 0)]) (p2 := 12) rfl rfl rfl rfl rfl ?_
  refine q_const (p2 := 13) rfl rfl ?_
  refine q_store (loc2 := [(6, 0, 0), (0, x, 0), (0, i, 0), (0, j, 0), (0, 1, 0)]) (p2 := 14) rfl rfl rfl rfl rfl ?_
  refine q_load (v := (0, x, 0)) (p2 := 15) rfl rfl rfl rfl ?_
  refine q_const (p2 := 16) rfl rfl ?_
  refine q_iandz (z := 4) (p2 := 17) rfl hf4 (by omega) rfl ?_
  refine q_switch (tgt := 38) rfl (by decide) rfl ?_
  refine q_load (v := (6, 0, 0)) (p2 := 39) rfl rfl rfl rfl ?_
  refine q_load (v := (0, x, 0)) (p2 := 40) rfl rfl rfl rfl ?_
  refine q_const (p2 := 41) rfl rfl ?_
  refine q_iushrz (z := s10) (p2 := 42) rfl (by omega) hf5 rfl ?_
  refine q_const (p2 := 43) rfl rfl ?_
  refine q_iandz (z := v) (p2 := 44) rfl hf6 (by omega) rfl ?_
  refine q_callrE (xs := [(0, v, 0), (6, 0, 0)]) (p2 := 45) rfl rfl rfl rfl (fun _ _ => rfl) rfl (zc_pn_2_0 hH hB (by omega) ) (Nat.le_refl _) (Nat.le_refl _) rfl (fun φ1 hR1 => ?_)
  obtain ⟨tpq1, hH1, hB1, hq1_0, hq1_1, fr1⟩ := hR1
  refine q_store (loc2 := [(6, 0, 0), (0, x, 0), (0, i, 0), (0, j, 0), (0, 1, 0)]) (p2 := 46) rfl rfl rfl rfl rfl ?_
  refine q_load (v := (6, 0, 0)) (p2 := 47) rfl rfl rfl rfl ?_
  refine q_load (v := (0, 1, 0)) (p2 := 48) rfl rfl rfl rfl ?_
  refine q_if0_s (p2 := 49) rfl (by decide) (by omega) rfl (fun hb => absurd hb (show ¬ (1 = 0) by omega)) (fun _ => ?_)
  refine q_load (v := (6, 0, 0)) (p2 := 50) rfl rfl rfl rfl ?_
  refine q_load (v := (0, i, 0)) (p2 := 51) rfl rfl rfl rfl ?_
  refine q_const (p2 := 52) rfl rfl ?_
  have hm2 := (zTJ_at hTJ (fun j h1 h2 => (fr1 j (by omega) (by omega))))
  have hm3 := (zEJ_at hEJ (fun j h1 h2 => (fr1 j (by omega) (by omega))))
  have hm4 := (zq_nm_at hN (fr1 239 (by decide) (by decide)) (fr1 242 (by decide) (by decide)) (fr1 244 (by decide) (by decide)))
  have hm5 := (x_KS_at2 hKS (fun j h1 h2 h3 h4 => (fr1 j (by omega) (by omega))))
  refine x_n_lt (fun hlt7 => ?_)
  have hm6 := (x_PS_at hPS (fun j hj hne => by have hj2 := x_some_lt hlt0 hne; exact (fr1 j (by omega) (by omega))))
  have hm8 := (x_LK_at2 hLK0 (fun j h1 h2 => (fr1 j (by omega) (by omega))))
  have hm9 := (x_SP_at hSP (fun j hj hne => by have hj2 := x_some_lt hlt0 hne; exact (fr1 j (by omega) (by omega))))
  have hm10 := (zq_V5_at hV5 (fr1 485 (by decide) (by decide)))
  have hm11 := (zq_SL_at hSL (fr1 482 (by decide) (by decide)))
  have hm12 := (zq_RW_at hRW (fr1 483 (by decide) (by decide)))
  have hm13 := (zq_J_at hJ (fr1 468 (by decide) (by decide)) (fr1 469 (by decide) (by decide)) (fr1 470 (by decide) (by decide)))
  have hm14 := (zFJ_at hFJ (fun j h1 h2 => (fr1 j (by omega) (by omega))))
  have hm15 := (zWJ_at hWJ (fun j h1 h2 => (fr1 j (by omega) (by omega))))
  have hm16 := (zq_OV_at hOV (fr1 452 (by decide) (by decide)) (fr1 453 (by decide) (by decide)))
  have hGz17 : zG φ1 2 tpq1 lf mi made sv svm comb hm sc sm mh noted verd ins ver sz bw := ⟨⟨_, _, hH1, (x_hw_at hhw (fun j hj hne => by have hj2 := x_some_lt hlt0 hne; exact (fr1 j (by omega) (by omega))))⟩, hB1, hm2, hm3, hm4, ⟨_, ⟨_, _, _, _, _, _, _, _, _, _, hm5⟩, hco⟩, ⟨_, _, _, hm6, hm8⟩, hm9, hm10, ⟨_, hm11⟩, hm12, hm13, hm14, hm15, ⟨_, _, hm16, hovn, hovh⟩⟩
  refine q_callrB (xs := [(0, 0, 0), (0, i, 0), (6, 0, 0)]) (p2 := 53) rfl rfl rfl rfl (x_rcv_s 0 hH1) rfl (zc_set0_bad (x := i) hGz17 (by omega) hpv (by omega) (by omega) hna) rfl (fun w17 φ17 n17 sl17 hn17 hN17 hs17 hT17 hR17 => ?_)
  obtain ⟨hwz17, hGr17⟩ := hR17
  subst hwz17
  have hG := hGr17
  skip
  obtain ⟨⟨hand, ie, hH, hhw⟩, hB, hTJ, hEJ, hN, hKJ, ⟨A, B, s9, hPS, hLK0⟩, hSP, hV5, ⟨slq, hSL⟩, hRW, hJ, hFJ, hWJ, ⟨ovn, ovh, hOV, hovn, hovh⟩⟩ := hG
  refine x_n_lt (fun hlt0 => ?_)
  have hmade := x_PS_lt hPS
  obtain ⟨co, ⟨top_, fr_, pc_, mm, st, lo, re, rs, fl, se, hKS⟩, hco⟩ := hKJ
  refine q_goto rfl ?_
  refine q_callrE (xs := [(0, 4294967295, 0), (6, 0, 0)]) (p2 := 56) rfl rfl rfl rfl (fun _ _ => rfl) rfl (zc_done hH hPS (by omega)) (Nat.le_refl _) (Nat.le_refl _) rfl (fun φ19 hR19 => ?_)
  obtain ⟨hs19_0, fr19⟩ := hR19
  have hm20 := (zq_tp_at hB (fr19 1 (by decide)))
  have hm21 := (zTJ_at hTJ (fun j h1 h2 => (fr19 j (by omega))))
  have hm22 := (zEJ_at hEJ (fun j h1 h2 => (fr19 j (by omega))))
  have hm23 := (zq_nm_at hN (fr19 239 (by decide)) (fr19 242 (by decide)) (fr19 244 (by decide)))
  have hm24 := (x_KS_at2 hKS (fun j h1 h2 h3 h4 => (fr19 j (by omega))))
  refine x_n_lt (fun hlt26 => ?_)
  have hm25 := (x_PS_at hPS (fun j hj hne => by have hj2 := x_some_lt hlt0 hne; exact (fr19 j (by omega))))
  have hm27 := (x_LK_at2 hLK0 (fun j h1 h2 => (fr19 j (by omega))))
  have hm28 := (x_SP_at hSP (fun j hj hne => by have hj2 := x_some_lt hlt0 hne; exact (fr19 j (by omega))))
  have hm29 := (zq_V5_at hV5 (fr19 485 (by decide)))
  have hm30 := (zq_SL_at hSL (fr19 482 (by decide)))
  have hm31 := (zq_RW_at hRW (fr19 483 (by decide)))
  have hm32 := (zq_J_at hJ (fr19 468 (by decide)) (fr19 469 (by decide)) (fr19 470 (by decide)))
  have hm33 := (zFJ_at hFJ (fun j h1 h2 => (fr19 j (by omega))))
  have hm34 := (zWJ_at hWJ (fun j h1 h2 => (fr19 j (by omega))))
  have hm35 := (zq_OV_at hOV (fr19 452 (by decide)) (fr19 453 (by decide)))
  exact q_retv (v := (0, 4294967295, 0)) rfl rfl (⟨rfl, ⟨by omega, by omega⟩, ⟨by omega, by omega⟩, _, rfl, ⟨⟨_, _, hs19_0, (x_hw_at hhw (fun j hj hne => by have hj2 := x_some_lt hlt0 hne; exact (fr19 j (by omega))))⟩, hm20, hm21, hm22, hm23, ⟨_, ⟨_, _, _, _, _, _, _, _, _, _, hm24⟩, hco⟩, ⟨_, _, _, hm25, hm27⟩, hm28, hm29, ⟨_, hm30⟩, hm31, hm32, hm33, hm34, ⟨_, _, hm35, hovn, hovh⟩⟩⟩)
set_option maxHeartbeats 1000000 in
theorem zc_call_4_2 {d n sl : Nat} {φ : FH} {tp : Nat → Nat} {lf : Nat} {mi : Nat} {made : Nat} {sv : Nat} {svm : Nat} {comb : Nat → Nat} {hm : Nat → MV} {sc : Nat → Nat} {sm : Nat → MV} {mh : MV} {noted : Nat} {verd : Nat} {ins : Nat → Nat} {ver : Nat → Nat} {sz : Nat} {bw : Nat → Nat} {x : Nat} {s4 s7 i j : Nat} {s10 v : Nat} (hG : zG φ 0 tp lf mi made sv svm comb hm sc sm mh noted verd ins ver sz bw) (hn0 : 486 ≤ n) (hpv : ∀ i, x_pv2 (hm i)) (hmi : mi + 300 ≤ 20000) (hx32 : x < 4294967296) (hf0 : x >>> 4 = s4) (hf1 : s4 &&& 7 = i) (hf2 : x >>> 7 = s7) (hf3 : s7 &&& 7 = j) (hf4 : x &&& 15 = 4) (hf5 : x >>> 10 = s10) (hf6 : s10 &&& 1023 = v) (hi : i < 8) (hj : j < 8) (hv : 10 ≤ v ∧ v ≤ 99) (hisA : x_isA made comb i 0) : x_f x_P (d + 12) 4 [(6, 0, 0), (0, x, 0), (11, 0, 0), (11, 0, 0), (11, 0, 0)] φ n sl (x_bR n sl 1 7 (fun zw φ2 => ∃ tpZ : Nat → Nat, zw = (0, 1, 0) ∧ zG φ2 0 tpZ 0 (mi + 1) made sv svm comb (zhm hm (i * 40 + 0) (1, v, 0, 0, [])) sc sm mh noted verd ins ver sz bw)) := by
  refine x_f_of rfl ?_
  have hG0 := hG
  obtain ⟨⟨hand, ie, hH, hhw⟩, hB, hTJ, hEJ, hN, hKJ, ⟨A, B, s9, hPS, hLK0⟩, hSP, hV5, ⟨slq, hSL⟩, hRW, hJ, hFJ, hWJ, ⟨ovn, ovh, hOV, hovn, hovh⟩⟩ := hG
  refine x_n_lt (fun hlt0 => ?_)
  have hmade := x_PS_lt hPS
  obtain ⟨co, ⟨top_, fr_, pc_, mm, st, lo, re, rs, fl, se, hKS⟩, hco⟩ := hKJ
  refine q_load (v := (0, x, 0)) (p2 := 1) rfl rfl rfl rfl ?_
  refine q_const (p2 := 2) rfl rfl ?_
  refine q_iushrz (z := s4) (p2 := 3) rfl (by omega) hf0 rfl ?_
  refine q_const (p2 := 4) rfl rfl ?_
  refine q_iandz (z := i) (p2 := 5) rfl hf1 (by omega) rfl ?_
  refine q_store (loc2 := [(6, 0, 0), (0, x, 0), (0, i, 0), (11, 0, 0), (11, 0, 0)]) (p2 := 6) rfl rfl rfl rfl rfl ?_
  refine q_load (v := (0, x, 0)) (p2 := 7) rfl rfl rfl rfl ?_
  refine q_const (p2 := 8) rfl rfl ?_
  refine q_iushrz (z := s7) (p2 := 9) rfl (by omega) hf2 rfl ?_
  refine q_const (p2 := 10) rfl rfl ?_
  refine q_iandz (z := j) (p2 := 11) rfl hf3 (by omega) rfl ?_
  refine q_store (loc2 := [(6, 0, 0), (0, x, 0), (0, i, 0), (0, j, 0), (11, 0, 0)]) (p2 := 12) rfl rfl rfl rfl rfl ?_
  refine q_const (p2 := 13) rfl rfl ?_
  refine q_store (loc2 := [(6, 0, 0), (0, x, 0), (0, i, 0), (0, j, 0), (0, 1, 0)]) (p2 := 14) rfl rfl rfl rfl rfl ?_
  refine q_load (v := (0, x, 0)) (p2 := 15) rfl rfl rfl rfl ?_
  refine q_const (p2 := 16) rfl rfl ?_
  refine q_iandz (z := 4) (p2 := 17) rfl hf4 (by omega) rfl ?_
  refine q_switch (tgt := 38) rfl (by decide) rfl ?_
  refine q_load (v := (6, 0, 0)) (p2 := 39) rfl rfl rfl rfl ?_
  refine q_load (v := (0, x, 0)) (p2 := 40) rfl rfl rfl rfl ?_
  refine q_const (p2 := 41) rfl rfl ?_
  refine q_iushrz (z := s10) (p2 := 42) rfl (by omega) hf5 rfl ?_
  refine q_const (p2 := 43) rfl rfl ?_
  refine q_iandz (z := v) (p2 := 44) rfl hf6 (by omega) rfl ?_
  refine q_callrE (xs := [(0, v, 0), (6, 0, 0)]) (p2 := 45) rfl rfl rfl rfl (fun _ _ => rfl) rfl (zc_pn_2_0 hH hB (by omega) ) (Nat.le_refl _) (Nat.le_refl _) rfl (fun φ1 hR1 => ?_)
  obtain ⟨tpq1, hH1, hB1, hq1_0, hq1_1, fr1⟩ := hR1
  refine q_store (loc2 := [(6, 0, 0), (0, x, 0), (0, i, 0), (0, j, 0), (0, 1, 0)]) (p2 := 46) rfl rfl rfl rfl rfl ?_
  refine q_load (v := (6, 0, 0)) (p2 := 47) rfl rfl rfl rfl ?_
  refine q_load (v := (0, 1, 0)) (p2 := 48) rfl rfl rfl rfl ?_
  refine q_if0_s (p2 := 49) rfl (by decide) (by omega) rfl (fun hb => absurd hb (show ¬ (1 = 0) by omega)) (fun _ => ?_)
  refine q_load (v := (6, 0, 0)) (p2 := 50) rfl rfl rfl rfl ?_
  refine q_load (v := (0, i, 0)) (p2 := 51) rfl rfl rfl rfl ?_
  refine q_const (p2 := 52) rfl rfl ?_
  have hm2 := (zTJ_at hTJ (fun j h1 h2 => (fr1 j (by omega) (by omega))))
  have hm3 := (zEJ_at hEJ (fun j h1 h2 => (fr1 j (by omega) (by omega))))
  have hm4 := (zq_nm_at hN (fr1 239 (by decide) (by decide)) (fr1 242 (by decide) (by decide)) (fr1 244 (by decide) (by decide)))
  have hm5 := (x_KS_at2 hKS (fun j h1 h2 h3 h4 => (fr1 j (by omega) (by omega))))
  refine x_n_lt (fun hlt7 => ?_)
  have hm6 := (x_PS_at hPS (fun j hj hne => by have hj2 := x_some_lt hlt0 hne; exact (fr1 j (by omega) (by omega))))
  have hm8 := (x_LK_at2 hLK0 (fun j h1 h2 => (fr1 j (by omega) (by omega))))
  have hm9 := (x_SP_at hSP (fun j hj hne => by have hj2 := x_some_lt hlt0 hne; exact (fr1 j (by omega) (by omega))))
  have hm10 := (zq_V5_at hV5 (fr1 485 (by decide) (by decide)))
  have hm11 := (zq_SL_at hSL (fr1 482 (by decide) (by decide)))
  have hm12 := (zq_RW_at hRW (fr1 483 (by decide) (by decide)))
  have hm13 := (zq_J_at hJ (fr1 468 (by decide) (by decide)) (fr1 469 (by decide) (by decide)) (fr1 470 (by decide) (by decide)))
  have hm14 := (zFJ_at hFJ (fun j h1 h2 => (fr1 j (by omega) (by omega))))
  have hm15 := (zWJ_at hWJ (fun j h1 h2 => (fr1 j (by omega) (by omega))))
  have hm16 := (zq_OV_at hOV (fr1 452 (by decide) (by decide)) (fr1 453 (by decide) (by decide)))
  have hGz17 : zG φ1 2 tpq1 lf mi made sv svm comb hm sc sm mh noted verd ins ver sz bw := ⟨⟨_, _, hH1, (x_hw_at hhw (fun j hj hne => by have hj2 := x_some_lt hlt0 hne; exact (fr1 j (by omega) (by omega))))⟩, hB1, hm2, hm3, hm4, ⟨_, ⟨_, _, _, _, _, _, _, _, _, _, hm5⟩, hco⟩, ⟨_, _, _, hm6, hm8⟩, hm9, hm10, ⟨_, hm11⟩, hm12, hm13, hm14, hm15, ⟨_, _, hm16, hovn, hovh⟩⟩
  refine q_callrB (xs := [(0, 0, 0), (0, i, 0), (6, 0, 0)]) (p2 := 53) rfl rfl rfl rfl (x_rcv_s 0 hH1) rfl (zc_set0_2 (x := i) (w1 := v) hGz17 (by omega) hpv (by omega) (by omega) hisA (hq1_0) (hq1_1) (by omega) (by omega) (by omega) (by omega)) rfl (fun w17 φ17 n17 sl17 hn17 hN17 hs17 hT17 hR17 => ?_)
  obtain ⟨hwz17, hGr17⟩ := hR17
  subst hwz17
  have hG := hGr17
  skip
  obtain ⟨⟨hand, ie, hH, hhw⟩, hB, hTJ, hEJ, hN, hKJ, ⟨A, B, s9, hPS, hLK0⟩, hSP, hV5, ⟨slq, hSL⟩, hRW, hJ, hFJ, hWJ, ⟨ovn, ovh, hOV, hovn, hovh⟩⟩ := hG
  refine x_n_lt (fun hlt0 => ?_)
  have hmade := x_PS_lt hPS
  obtain ⟨co, ⟨top_, fr_, pc_, mm, st, lo, re, rs, fl, se, hKS⟩, hco⟩ := hKJ
  refine q_goto rfl ?_
  refine q_callrE (xs := [(0, 1, 0), (6, 0, 0)]) (p2 := 56) rfl rfl rfl rfl (fun _ _ => rfl) rfl (zc_done hH hPS (by omega)) (Nat.le_refl _) (Nat.le_refl _) rfl (fun φ19 hR19 => ?_)
  obtain ⟨hs19_0, fr19⟩ := hR19
  have hm20 := (zq_tp_at hB (fr19 1 (by decide)))
  have hm21 := (zTJ_at hTJ (fun j h1 h2 => (fr19 j (by omega))))
  have hm22 := (zEJ_at hEJ (fun j h1 h2 => (fr19 j (by omega))))
  have hm23 := (zq_nm_at hN (fr19 239 (by decide)) (fr19 242 (by decide)) (fr19 244 (by decide)))
  have hm24 := (x_KS_at2 hKS (fun j h1 h2 h3 h4 => (fr19 j (by omega))))
  refine x_n_lt (fun hlt26 => ?_)
  have hm25 := (x_PS_at hPS (fun j hj hne => by have hj2 := x_some_lt hlt0 hne; exact (fr19 j (by omega))))
  have hm27 := (x_LK_at2 hLK0 (fun j h1 h2 => (fr19 j (by omega))))
  have hm28 := (x_SP_at hSP (fun j hj hne => by have hj2 := x_some_lt hlt0 hne; exact (fr19 j (by omega))))
  have hm29 := (zq_V5_at hV5 (fr19 485 (by decide)))
  have hm30 := (zq_SL_at hSL (fr19 482 (by decide)))
  have hm31 := (zq_RW_at hRW (fr19 483 (by decide)))
  have hm32 := (zq_J_at hJ (fr19 468 (by decide)) (fr19 469 (by decide)) (fr19 470 (by decide)))
  have hm33 := (zFJ_at hFJ (fun j h1 h2 => (fr19 j (by omega))))
  have hm34 := (zWJ_at hWJ (fun j h1 h2 => (fr19 j (by omega))))
  have hm35 := (zq_OV_at hOV (fr19 452 (by decide)) (fr19 453 (by decide)))
  exact q_retv (v := (0, 1, 0)) rfl rfl (⟨rfl, ⟨by omega, by omega⟩, ⟨by omega, by omega⟩, _, rfl, ⟨⟨_, _, hs19_0, (x_hw_at hhw (fun j hj hne => by have hj2 := x_some_lt hlt0 hne; exact (fr19 j (by omega))))⟩, hm20, hm21, hm22, hm23, ⟨_, ⟨_, _, _, _, _, _, _, _, _, _, hm24⟩, hco⟩, ⟨_, _, _, hm25, hm27⟩, hm28, hm29, ⟨_, hm30⟩, hm31, hm32, hm33, hm34, ⟨_, _, hm35, hovn, hovh⟩⟩⟩)
set_option maxHeartbeats 1000000 in
theorem zc_call_4_bad3 {d n sl : Nat} {φ : FH} {tp : Nat → Nat} {lf : Nat} {mi : Nat} {made : Nat} {sv : Nat} {svm : Nat} {comb : Nat → Nat} {hm : Nat → MV} {sc : Nat → Nat} {sm : Nat → MV} {mh : MV} {noted : Nat} {verd : Nat} {ins : Nat → Nat} {ver : Nat → Nat} {sz : Nat} {bw : Nat → Nat} {x : Nat} {s4 s7 i j : Nat} {s10 v : Nat} (hG : zG φ 0 tp lf mi made sv svm comb hm sc sm mh noted verd ins ver sz bw) (hn0 : 486 ≤ n) (hpv : ∀ i, x_pv2 (hm i)) (hmi : mi + 300 ≤ 20000) (hx32 : x < 4294967296) (hf0 : x >>> 4 = s4) (hf1 : s4 &&& 7 = i) (hf2 : x >>> 7 = s7) (hf3 : s7 &&& 7 = j) (hf4 : x &&& 15 = 4) (hf5 : x >>> 10 = s10) (hf6 : s10 &&& 1023 = v) (hi : i < 8) (hj : j < 8) (hv : 100 ≤ v ∧ v ≤ 999) (hna : ¬ x_isA made comb i 0) : x_f x_P (d + 5) 4 [(6, 0, 0), (0, x, 0), (11, 0, 0), (11, 0, 0), (11, 0, 0)] φ n sl (x_bR n sl 0 0 (fun zw φ2 => ∃ tpZ : Nat → Nat, zw = (0, 4294967295, 0) ∧ zG φ2 0 tpZ lf mi made sv svm comb hm sc sm mh noted verd ins ver sz bw)) := by
  refine x_f_of rfl ?_
  have hG0 := hG
  obtain ⟨⟨hand, ie, hH, hhw⟩, hB, hTJ, hEJ, hN, hKJ, ⟨A, B, s9, hPS, hLK0⟩, hSP, hV5, ⟨slq, hSL⟩, hRW, hJ, hFJ, hWJ, ⟨ovn, ovh, hOV, hovn, hovh⟩⟩ := hG
  refine x_n_lt (fun hlt0 => ?_)
  have hmade := x_PS_lt hPS
  obtain ⟨co, ⟨top_, fr_, pc_, mm, st, lo, re, rs, fl, se, hKS⟩, hco⟩ := hKJ
  refine q_load (v := (0, x, 0)) (p2 := 1) rfl rfl rfl rfl ?_
  refine q_const (p2 := 2) rfl rfl ?_
  refine q_iushrz (z := s4) (p2 := 3) rfl (by omega) hf0 rfl ?_
  refine q_const (p2 := 4) rfl rfl ?_
  refine q_iandz (z := i) (p2 := 5) rfl hf1 (by omega) rfl ?_
  refine q_store (loc2 := [(6, 0, 0), (0, x, 0), (0, i, 0), (11, 0, 0), (11, 0, 0)]) (p2 := 6) rfl rfl rfl rfl rfl ?_
  refine q_load (v := (0, x, 0)) (p2 := 7) rfl rfl rfl rfl ?_
  refine q_const (p2 := 8) rfl rfl ?_
  refine q_iushrz (z := s7) (p2 := 9) rfl (by omega) hf2 rfl ?_
  refine q_const (p2 := 10) rfl rfl ?_
  refine q_iandz (z := j) (p2 := 11) rfl hf3 (by omega) rfl ?_
  refine q_store (loc2 := [(6, 0, 0), (0, x, 0), (0, i, 0), (0, j, 0), (11, 0, 0)]) (p2 := 12) rfl rfl rfl rfl rfl ?_
  refine q_const (p2 := 13) rfl rfl ?_
  refine q_store (loc2 := [(6, 0, 0), (0, x, 0), (0, i, 0), (0, j, 0), (0, 1, 0)]) (p2 := 14) rfl rfl rfl rfl rfl ?_
  refine q_load (v := (0, x, 0)) (p2 := 15) rfl rfl rfl rfl ?_
  refine q_const (p2 := 16) rfl rfl ?_
  refine q_iandz (z := 4) (p2 := 17) rfl hf4 (by omega) rfl ?_
  refine q_switch (tgt := 38) rfl (by decide) rfl ?_
  refine q_load (v := (6, 0, 0)) (p2 := 39) rfl rfl rfl rfl ?_
  refine q_load (v := (0, x, 0)) (p2 := 40) rfl rfl rfl rfl ?_
  refine q_const (p2 := 41) rfl rfl ?_
  refine q_iushrz (z := s10) (p2 := 42) rfl (by omega) hf5 rfl ?_
  refine q_const (p2 := 43) rfl rfl ?_
  refine q_iandz (z := v) (p2 := 44) rfl hf6 (by omega) rfl ?_
  refine q_callrE (xs := [(0, v, 0), (6, 0, 0)]) (p2 := 45) rfl rfl rfl rfl (fun _ _ => rfl) rfl (zc_pn_3_0 hH hB (by omega) ) (Nat.le_refl _) (Nat.le_refl _) rfl (fun φ1 hR1 => ?_)
  obtain ⟨tpq1, hH1, hB1, hq1_0, hq1_1, hq1_2, fr1⟩ := hR1
  refine q_store (loc2 := [(6, 0, 0), (0, x, 0), (0, i, 0), (0, j, 0), (0, 1, 0)]) (p2 := 46) rfl rfl rfl rfl rfl ?_
  refine q_load (v := (6, 0, 0)) (p2 := 47) rfl rfl rfl rfl ?_
  refine q_load (v := (0, 1, 0)) (p2 := 48) rfl rfl rfl rfl ?_
  refine q_if0_s (p2 := 49) rfl (by decide) (by omega) rfl (fun hb => absurd hb (show ¬ (1 = 0) by omega)) (fun _ => ?_)
  refine q_load (v := (6, 0, 0)) (p2 := 50) rfl rfl rfl rfl ?_
  refine q_load (v := (0, i, 0)) (p2 := 51) rfl rfl rfl rfl ?_
  refine q_const (p2 := 52) rfl rfl ?_
  have hm2 := (zTJ_at hTJ (fun j h1 h2 => (fr1 j (by omega) (by omega))))
  have hm3 := (zEJ_at hEJ (fun j h1 h2 => (fr1 j (by omega) (by omega))))
  have hm4 := (zq_nm_at hN (fr1 239 (by decide) (by decide)) (fr1 242 (by decide) (by decide)) (fr1 244 (by decide) (by decide)))
  have hm5 := (x_KS_at2 hKS (fun j h1 h2 h3 h4 => (fr1 j (by omega) (by omega))))
  refine x_n_lt (fun hlt7 => ?_)
  have hm6 := (x_PS_at hPS (fun j hj hne => by have hj2 := x_some_lt hlt0 hne; exact (fr1 j (by omega) (by omega))))
  have hm8 := (x_LK_at2 hLK0 (fun j h1 h2 => (fr1 j (by omega) (by omega))))
  have hm9 := (x_SP_at hSP (fun j hj hne => by have hj2 := x_some_lt hlt0 hne; exact (fr1 j (by omega) (by omega))))
  have hm10 := (zq_V5_at hV5 (fr1 485 (by decide) (by decide)))
  have hm11 := (zq_SL_at hSL (fr1 482 (by decide) (by decide)))
  have hm12 := (zq_RW_at hRW (fr1 483 (by decide) (by decide)))
  have hm13 := (zq_J_at hJ (fr1 468 (by decide) (by decide)) (fr1 469 (by decide) (by decide)) (fr1 470 (by decide) (by decide)))
  have hm14 := (zFJ_at hFJ (fun j h1 h2 => (fr1 j (by omega) (by omega))))
  have hm15 := (zWJ_at hWJ (fun j h1 h2 => (fr1 j (by omega) (by omega))))
  have hm16 := (zq_OV_at hOV (fr1 452 (by decide) (by decide)) (fr1 453 (by decide) (by decide)))
  have hGz17 : zG φ1 3 tpq1 lf mi made sv svm comb hm sc sm mh noted verd ins ver sz bw := ⟨⟨_, _, hH1, (x_hw_at hhw (fun j hj hne => by have hj2 := x_some_lt hlt0 hne; exact (fr1 j (by omega) (by omega))))⟩, hB1, hm2, hm3, hm4, ⟨_, ⟨_, _, _, _, _, _, _, _, _, _, hm5⟩, hco⟩, ⟨_, _, _, hm6, hm8⟩, hm9, hm10, ⟨_, hm11⟩, hm12, hm13, hm14, hm15, ⟨_, _, hm16, hovn, hovh⟩⟩
  refine q_callrB (xs := [(0, 0, 0), (0, i, 0), (6, 0, 0)]) (p2 := 53) rfl rfl rfl rfl (x_rcv_s 0 hH1) rfl (zc_set0_bad (x := i) hGz17 (by omega) hpv (by omega) (by omega) hna) rfl (fun w17 φ17 n17 sl17 hn17 hN17 hs17 hT17 hR17 => ?_)
  obtain ⟨hwz17, hGr17⟩ := hR17
  subst hwz17
  have hG := hGr17
  skip
  obtain ⟨⟨hand, ie, hH, hhw⟩, hB, hTJ, hEJ, hN, hKJ, ⟨A, B, s9, hPS, hLK0⟩, hSP, hV5, ⟨slq, hSL⟩, hRW, hJ, hFJ, hWJ, ⟨ovn, ovh, hOV, hovn, hovh⟩⟩ := hG
  refine x_n_lt (fun hlt0 => ?_)
  have hmade := x_PS_lt hPS
  obtain ⟨co, ⟨top_, fr_, pc_, mm, st, lo, re, rs, fl, se, hKS⟩, hco⟩ := hKJ
  refine q_goto rfl ?_
  refine q_callrE (xs := [(0, 4294967295, 0), (6, 0, 0)]) (p2 := 56) rfl rfl rfl rfl (fun _ _ => rfl) rfl (zc_done hH hPS (by omega)) (Nat.le_refl _) (Nat.le_refl _) rfl (fun φ19 hR19 => ?_)
  obtain ⟨hs19_0, fr19⟩ := hR19
  have hm20 := (zq_tp_at hB (fr19 1 (by decide)))
  have hm21 := (zTJ_at hTJ (fun j h1 h2 => (fr19 j (by omega))))
  have hm22 := (zEJ_at hEJ (fun j h1 h2 => (fr19 j (by omega))))
  have hm23 := (zq_nm_at hN (fr19 239 (by decide)) (fr19 242 (by decide)) (fr19 244 (by decide)))
  have hm24 := (x_KS_at2 hKS (fun j h1 h2 h3 h4 => (fr19 j (by omega))))
  refine x_n_lt (fun hlt26 => ?_)
  have hm25 := (x_PS_at hPS (fun j hj hne => by have hj2 := x_some_lt hlt0 hne; exact (fr19 j (by omega))))
  have hm27 := (x_LK_at2 hLK0 (fun j h1 h2 => (fr19 j (by omega))))
  have hm28 := (x_SP_at hSP (fun j hj hne => by have hj2 := x_some_lt hlt0 hne; exact (fr19 j (by omega))))
  have hm29 := (zq_V5_at hV5 (fr19 485 (by decide)))
  have hm30 := (zq_SL_at hSL (fr19 482 (by decide)))
  have hm31 := (zq_RW_at hRW (fr19 483 (by decide)))
  have hm32 := (zq_J_at hJ (fr19 468 (by decide)) (fr19 469 (by decide)) (fr19 470 (by decide)))
  have hm33 := (zFJ_at hFJ (fun j h1 h2 => (fr19 j (by omega))))
  have hm34 := (zWJ_at hWJ (fun j h1 h2 => (fr19 j (by omega))))
  have hm35 := (zq_OV_at hOV (fr19 452 (by decide)) (fr19 453 (by decide)))
  exact q_retv (v := (0, 4294967295, 0)) rfl rfl (⟨rfl, ⟨by omega, by omega⟩, ⟨by omega, by omega⟩, _, rfl, ⟨⟨_, _, hs19_0, (x_hw_at hhw (fun j hj hne => by have hj2 := x_some_lt hlt0 hne; exact (fr19 j (by omega))))⟩, hm20, hm21, hm22, hm23, ⟨_, ⟨_, _, _, _, _, _, _, _, _, _, hm24⟩, hco⟩, ⟨_, _, _, hm25, hm27⟩, hm28, hm29, ⟨_, hm30⟩, hm31, hm32, hm33, hm34, ⟨_, _, hm35, hovn, hovh⟩⟩⟩)
set_option maxHeartbeats 1000000 in
theorem zc_call_4_3 {d n sl : Nat} {φ : FH} {tp : Nat → Nat} {lf : Nat} {mi : Nat} {made : Nat} {sv : Nat} {svm : Nat} {comb : Nat → Nat} {hm : Nat → MV} {sc : Nat → Nat} {sm : Nat → MV} {mh : MV} {noted : Nat} {verd : Nat} {ins : Nat → Nat} {ver : Nat → Nat} {sz : Nat} {bw : Nat → Nat} {x : Nat} {s4 s7 i j : Nat} {s10 v : Nat} (hG : zG φ 0 tp lf mi made sv svm comb hm sc sm mh noted verd ins ver sz bw) (hn0 : 486 ≤ n) (hpv : ∀ i, x_pv2 (hm i)) (hmi : mi + 300 ≤ 20000) (hx32 : x < 4294967296) (hf0 : x >>> 4 = s4) (hf1 : s4 &&& 7 = i) (hf2 : x >>> 7 = s7) (hf3 : s7 &&& 7 = j) (hf4 : x &&& 15 = 4) (hf5 : x >>> 10 = s10) (hf6 : s10 &&& 1023 = v) (hi : i < 8) (hj : j < 8) (hv : 100 ≤ v ∧ v ≤ 999) (hisA : x_isA made comb i 0) : x_f x_P (d + 12) 4 [(6, 0, 0), (0, x, 0), (11, 0, 0), (11, 0, 0), (11, 0, 0)] φ n sl (x_bR n sl 1 7 (fun zw φ2 => ∃ tpZ : Nat → Nat, zw = (0, 1, 0) ∧ zG φ2 0 tpZ 0 (mi + 1) made sv svm comb (zhm hm (i * 40 + 0) (1, v, 0, 0, [])) sc sm mh noted verd ins ver sz bw)) := by
  refine x_f_of rfl ?_
  have hG0 := hG
  obtain ⟨⟨hand, ie, hH, hhw⟩, hB, hTJ, hEJ, hN, hKJ, ⟨A, B, s9, hPS, hLK0⟩, hSP, hV5, ⟨slq, hSL⟩, hRW, hJ, hFJ, hWJ, ⟨ovn, ovh, hOV, hovn, hovh⟩⟩ := hG
  refine x_n_lt (fun hlt0 => ?_)
  have hmade := x_PS_lt hPS
  obtain ⟨co, ⟨top_, fr_, pc_, mm, st, lo, re, rs, fl, se, hKS⟩, hco⟩ := hKJ
  refine q_load (v := (0, x, 0)) (p2 := 1) rfl rfl rfl rfl ?_
  refine q_const (p2 := 2) rfl rfl ?_
  refine q_iushrz (z := s4) (p2 := 3) rfl (by omega) hf0 rfl ?_
  refine q_const (p2 := 4) rfl rfl ?_
  refine q_iandz (z := i) (p2 := 5) rfl hf1 (by omega) rfl ?_
  refine q_store (loc2 := [(6, 0, 0), (0, x, 0), (0, i, 0), (11, 0, 0), (11, 0, 0)]) (p2 := 6) rfl rfl rfl rfl rfl ?_
  refine q_load (v := (0, x, 0)) (p2 := 7) rfl rfl rfl rfl ?_
  refine q_const (p2 := 8) rfl rfl ?_
  refine q_iushrz (z := s7) (p2 := 9) rfl (by omega) hf2 rfl ?_
  refine q_const (p2 := 10) rfl rfl ?_
  refine q_iandz (z := j) (p2 := 11) rfl hf3 (by omega) rfl ?_
  refine q_store (loc2 := [(6, 0, 0), (0, x, 0), (0, i, 0), (0, j, 0), (11, 0, 0)]) (p2 := 12) rfl rfl rfl rfl rfl ?_
  refine q_const (p2 := 13) rfl rfl ?_
  refine q_store (loc2 := [(6, 0, 0), (0, x, 0), (0, i, 0), (0, j, 0), (0, 1, 0)]) (p2 := 14) rfl rfl rfl rfl rfl ?_
  refine q_load (v := (0, x, 0)) (p2 := 15) rfl rfl rfl rfl ?_
  refine q_const (p2 := 16) rfl rfl ?_
  refine q_iandz (z := 4) (p2 := 17) rfl hf4 (by omega) rfl ?_
  refine q_switch (tgt := 38) rfl (by decide) rfl ?_
  refine q_load (v := (6, 0, 0)) (p2 := 39) rfl rfl rfl rfl ?_
  refine q_load (v := (0, x, 0)) (p2 := 40) rfl rfl rfl rfl ?_
  refine q_const (p2 := 41) rfl rfl ?_
  refine q_iushrz (z := s10) (p2 := 42) rfl (by omega) hf5 rfl ?_
  refine q_const (p2 := 43) rfl rfl ?_
  refine q_iandz (z := v) (p2 := 44) rfl hf6 (by omega) rfl ?_
  refine q_callrE (xs := [(0, v, 0), (6, 0, 0)]) (p2 := 45) rfl rfl rfl rfl (fun _ _ => rfl) rfl (zc_pn_3_0 hH hB (by omega) ) (Nat.le_refl _) (Nat.le_refl _) rfl (fun φ1 hR1 => ?_)
  obtain ⟨tpq1, hH1, hB1, hq1_0, hq1_1, hq1_2, fr1⟩ := hR1
  refine q_store (loc2 := [(6, 0, 0), (0, x, 0), (0, i, 0), (0, j, 0), (0, 1, 0)]) (p2 := 46) rfl rfl rfl rfl rfl ?_
  refine q_load (v := (6, 0, 0)) (p2 := 47) rfl rfl rfl rfl ?_
  refine q_load (v := (0, 1, 0)) (p2 := 48) rfl rfl rfl rfl ?_
  refine q_if0_s (p2 := 49) rfl (by decide) (by omega) rfl (fun hb => absurd hb (show ¬ (1 = 0) by omega)) (fun _ => ?_)
  refine q_load (v := (6, 0, 0)) (p2 := 50) rfl rfl rfl rfl ?_
  refine q_load (v := (0, i, 0)) (p2 := 51) rfl rfl rfl rfl ?_
  refine q_const (p2 := 52) rfl rfl ?_
  have hm2 := (zTJ_at hTJ (fun j h1 h2 => (fr1 j (by omega) (by omega))))
  have hm3 := (zEJ_at hEJ (fun j h1 h2 => (fr1 j (by omega) (by omega))))
  have hm4 := (zq_nm_at hN (fr1 239 (by decide) (by decide)) (fr1 242 (by decide) (by decide)) (fr1 244 (by decide) (by decide)))
  have hm5 := (x_KS_at2 hKS (fun j h1 h2 h3 h4 => (fr1 j (by omega) (by omega))))
  refine x_n_lt (fun hlt7 => ?_)
  have hm6 := (x_PS_at hPS (fun j hj hne => by have hj2 := x_some_lt hlt0 hne; exact (fr1 j (by omega) (by omega))))
  have hm8 := (x_LK_at2 hLK0 (fun j h1 h2 => (fr1 j (by omega) (by omega))))
  have hm9 := (x_SP_at hSP (fun j hj hne => by have hj2 := x_some_lt hlt0 hne; exact (fr1 j (by omega) (by omega))))
  have hm10 := (zq_V5_at hV5 (fr1 485 (by decide) (by decide)))
  have hm11 := (zq_SL_at hSL (fr1 482 (by decide) (by decide)))
  have hm12 := (zq_RW_at hRW (fr1 483 (by decide) (by decide)))
  have hm13 := (zq_J_at hJ (fr1 468 (by decide) (by decide)) (fr1 469 (by decide) (by decide)) (fr1 470 (by decide) (by decide)))
  have hm14 := (zFJ_at hFJ (fun j h1 h2 => (fr1 j (by omega) (by omega))))
  have hm15 := (zWJ_at hWJ (fun j h1 h2 => (fr1 j (by omega) (by omega))))
  have hm16 := (zq_OV_at hOV (fr1 452 (by decide) (by decide)) (fr1 453 (by decide) (by decide)))
  have hGz17 : zG φ1 3 tpq1 lf mi made sv svm comb hm sc sm mh noted verd ins ver sz bw := ⟨⟨_, _, hH1, (x_hw_at hhw (fun j hj hne => by have hj2 := x_some_lt hlt0 hne; exact (fr1 j (by omega) (by omega))))⟩, hB1, hm2, hm3, hm4, ⟨_, ⟨_, _, _, _, _, _, _, _, _, _, hm5⟩, hco⟩, ⟨_, _, _, hm6, hm8⟩, hm9, hm10, ⟨_, hm11⟩, hm12, hm13, hm14, hm15, ⟨_, _, hm16, hovn, hovh⟩⟩
  refine q_callrB (xs := [(0, 0, 0), (0, i, 0), (6, 0, 0)]) (p2 := 53) rfl rfl rfl rfl (x_rcv_s 0 hH1) rfl (zc_set0_3 (x := i) (w1 := v) hGz17 (by omega) hpv (by omega) (by omega) hisA (hq1_0) (hq1_1) (hq1_2) (by omega) (by omega) (by omega) (by omega) (by omega)) rfl (fun w17 φ17 n17 sl17 hn17 hN17 hs17 hT17 hR17 => ?_)
  obtain ⟨hwz17, hGr17⟩ := hR17
  subst hwz17
  have hG := hGr17
  skip
  obtain ⟨⟨hand, ie, hH, hhw⟩, hB, hTJ, hEJ, hN, hKJ, ⟨A, B, s9, hPS, hLK0⟩, hSP, hV5, ⟨slq, hSL⟩, hRW, hJ, hFJ, hWJ, ⟨ovn, ovh, hOV, hovn, hovh⟩⟩ := hG
  refine x_n_lt (fun hlt0 => ?_)
  have hmade := x_PS_lt hPS
  obtain ⟨co, ⟨top_, fr_, pc_, mm, st, lo, re, rs, fl, se, hKS⟩, hco⟩ := hKJ
  refine q_goto rfl ?_
  refine q_callrE (xs := [(0, 1, 0), (6, 0, 0)]) (p2 := 56) rfl rfl rfl rfl (fun _ _ => rfl) rfl (zc_done hH hPS (by omega)) (Nat.le_refl _) (Nat.le_refl _) rfl (fun φ19 hR19 => ?_)
  obtain ⟨hs19_0, fr19⟩ := hR19
  have hm20 := (zq_tp_at hB (fr19 1 (by decide)))
  have hm21 := (zTJ_at hTJ (fun j h1 h2 => (fr19 j (by omega))))
  have hm22 := (zEJ_at hEJ (fun j h1 h2 => (fr19 j (by omega))))
  have hm23 := (zq_nm_at hN (fr19 239 (by decide)) (fr19 242 (by decide)) (fr19 244 (by decide)))
  have hm24 := (x_KS_at2 hKS (fun j h1 h2 h3 h4 => (fr19 j (by omega))))
  refine x_n_lt (fun hlt26 => ?_)
  have hm25 := (x_PS_at hPS (fun j hj hne => by have hj2 := x_some_lt hlt0 hne; exact (fr19 j (by omega))))
  have hm27 := (x_LK_at2 hLK0 (fun j h1 h2 => (fr19 j (by omega))))
  have hm28 := (x_SP_at hSP (fun j hj hne => by have hj2 := x_some_lt hlt0 hne; exact (fr19 j (by omega))))
  have hm29 := (zq_V5_at hV5 (fr19 485 (by decide)))
  have hm30 := (zq_SL_at hSL (fr19 482 (by decide)))
  have hm31 := (zq_RW_at hRW (fr19 483 (by decide)))
  have hm32 := (zq_J_at hJ (fr19 468 (by decide)) (fr19 469 (by decide)) (fr19 470 (by decide)))
  have hm33 := (zFJ_at hFJ (fun j h1 h2 => (fr19 j (by omega))))
  have hm34 := (zWJ_at hWJ (fun j h1 h2 => (fr19 j (by omega))))
  have hm35 := (zq_OV_at hOV (fr19 452 (by decide)) (fr19 453 (by decide)))
  exact q_retv (v := (0, 1, 0)) rfl rfl (⟨rfl, ⟨by omega, by omega⟩, ⟨by omega, by omega⟩, _, rfl, ⟨⟨_, _, hs19_0, (x_hw_at hhw (fun j hj hne => by have hj2 := x_some_lt hlt0 hne; exact (fr19 j (by omega))))⟩, hm20, hm21, hm22, hm23, ⟨_, ⟨_, _, _, _, _, _, _, _, _, _, hm24⟩, hco⟩, ⟨_, _, _, hm25, hm27⟩, hm28, hm29, ⟨_, hm30⟩, hm31, hm32, hm33, hm34, ⟨_, _, hm35, hovn, hovh⟩⟩⟩)
set_option maxHeartbeats 1000000 in
theorem zc_call_4_bad4 {d n sl : Nat} {φ : FH} {tp : Nat → Nat} {lf : Nat} {mi : Nat} {made : Nat} {sv : Nat} {svm : Nat} {comb : Nat → Nat} {hm : Nat → MV} {sc : Nat → Nat} {sm : Nat → MV} {mh : MV} {noted : Nat} {verd : Nat} {ins : Nat → Nat} {ver : Nat → Nat} {sz : Nat} {bw : Nat → Nat} {x : Nat} {s4 s7 i j : Nat} {s10 v : Nat} (hG : zG φ 0 tp lf mi made sv svm comb hm sc sm mh noted verd ins ver sz bw) (hn0 : 486 ≤ n) (hpv : ∀ i, x_pv2 (hm i)) (hmi : mi + 300 ≤ 20000) (hx32 : x < 4294967296) (hf0 : x >>> 4 = s4) (hf1 : s4 &&& 7 = i) (hf2 : x >>> 7 = s7) (hf3 : s7 &&& 7 = j) (hf4 : x &&& 15 = 4) (hf5 : x >>> 10 = s10) (hf6 : s10 &&& 1023 = v) (hi : i < 8) (hj : j < 8) (hv : 1000 ≤ v ∧ v ≤ 1023) (hna : ¬ x_isA made comb i 0) : x_f x_P (d + 5) 4 [(6, 0, 0), (0, x, 0), (11, 0, 0), (11, 0, 0), (11, 0, 0)] φ n sl (x_bR n sl 0 0 (fun zw φ2 => ∃ tpZ : Nat → Nat, zw = (0, 4294967295, 0) ∧ zG φ2 0 tpZ lf mi made sv svm comb hm sc sm mh noted verd ins ver sz bw)) := by
  refine x_f_of rfl ?_
  have hG0 := hG
  obtain ⟨⟨hand, ie, hH, hhw⟩, hB, hTJ, hEJ, hN, hKJ, ⟨A, B, s9, hPS, hLK0⟩, hSP, hV5, ⟨slq, hSL⟩, hRW, hJ, hFJ, hWJ, ⟨ovn, ovh, hOV, hovn, hovh⟩⟩ := hG
  refine x_n_lt (fun hlt0 => ?_)
  have hmade := x_PS_lt hPS
  obtain ⟨co, ⟨top_, fr_, pc_, mm, st, lo, re, rs, fl, se, hKS⟩, hco⟩ := hKJ
  refine q_load (v := (0, x, 0)) (p2 := 1) rfl rfl rfl rfl ?_
  refine q_const (p2 := 2) rfl rfl ?_
  refine q_iushrz (z := s4) (p2 := 3) rfl (by omega) hf0 rfl ?_
  refine q_const (p2 := 4) rfl rfl ?_
  refine q_iandz (z := i) (p2 := 5) rfl hf1 (by omega) rfl ?_
  refine q_store (loc2 := [(6, 0, 0), (0, x, 0), (0, i, 0), (11, 0, 0), (11, 0, 0)]) (p2 := 6) rfl rfl rfl rfl rfl ?_
  refine q_load (v := (0, x, 0)) (p2 := 7) rfl rfl rfl rfl ?_
  refine q_const (p2 := 8) rfl rfl ?_
  refine q_iushrz (z := s7) (p2 := 9) rfl (by omega) hf2 rfl ?_
  refine q_const (p2 := 10) rfl rfl ?_
  refine q_iandz (z := j) (p2 := 11) rfl hf3 (by omega) rfl ?_
  refine q_store (loc2 := [(6, 0, 0), (0, x, 0), (0, i, 0), (0, j, 0), (11, 0, 0)]) (p2 := 12) rfl rfl rfl rfl rfl ?_
  refine q_const (p2 := 13) rfl rfl ?_
  refine q_store (loc2 := [(6, 0, 0), (0, x, 0), (0, i, 0), (0, j, 0), (0, 1, 0)]) (p2 := 14) rfl rfl rfl rfl rfl ?_
  refine q_load (v := (0, x, 0)) (p2 := 15) rfl rfl rfl rfl ?_
  refine q_const (p2 := 16) rfl rfl ?_
  refine q_iandz (z := 4) (p2 := 17) rfl hf4 (by omega) rfl ?_
  refine q_switch (tgt := 38) rfl (by decide) rfl ?_
  refine q_load (v := (6, 0, 0)) (p2 := 39) rfl rfl rfl rfl ?_
  refine q_load (v := (0, x, 0)) (p2 := 40) rfl rfl rfl rfl ?_
  refine q_const (p2 := 41) rfl rfl ?_
  refine q_iushrz (z := s10) (p2 := 42) rfl (by omega) hf5 rfl ?_
  refine q_const (p2 := 43) rfl rfl ?_
  refine q_iandz (z := v) (p2 := 44) rfl hf6 (by omega) rfl ?_
  refine q_callrE (xs := [(0, v, 0), (6, 0, 0)]) (p2 := 45) rfl rfl rfl rfl (fun _ _ => rfl) rfl (zc_pn_4_0 hH hB (by omega) ) (Nat.le_refl _) (Nat.le_refl _) rfl (fun φ1 hR1 => ?_)
  obtain ⟨tpq1, hH1, hB1, hq1_0, hq1_1, hq1_2, hq1_3, fr1⟩ := hR1
  refine q_store (loc2 := [(6, 0, 0), (0, x, 0), (0, i, 0), (0, j, 0), (0, 1, 0)]) (p2 := 46) rfl rfl rfl rfl rfl ?_
  refine q_load (v := (6, 0, 0)) (p2 := 47) rfl rfl rfl rfl ?_
  refine q_load (v := (0, 1, 0)) (p2 := 48) rfl rfl rfl rfl ?_
  refine q_if0_s (p2 := 49) rfl (by decide) (by omega) rfl (fun hb => absurd hb (show ¬ (1 = 0) by omega)) (fun _ => ?_)
  refine q_load (v := (6, 0, 0)) (p2 := 50) rfl rfl rfl rfl ?_
  refine q_load (v := (0, i, 0)) (p2 := 51) rfl rfl rfl rfl ?_
  refine q_const (p2 := 52) rfl rfl ?_
  have hm2 := (zTJ_at hTJ (fun j h1 h2 => (fr1 j (by omega) (by omega))))
  have hm3 := (zEJ_at hEJ (fun j h1 h2 => (fr1 j (by omega) (by omega))))
  have hm4 := (zq_nm_at hN (fr1 239 (by decide) (by decide)) (fr1 242 (by decide) (by decide)) (fr1 244 (by decide) (by decide)))
  have hm5 := (x_KS_at2 hKS (fun j h1 h2 h3 h4 => (fr1 j (by omega) (by omega))))
  refine x_n_lt (fun hlt7 => ?_)
  have hm6 := (x_PS_at hPS (fun j hj hne => by have hj2 := x_some_lt hlt0 hne; exact (fr1 j (by omega) (by omega))))
  have hm8 := (x_LK_at2 hLK0 (fun j h1 h2 => (fr1 j (by omega) (by omega))))
  have hm9 := (x_SP_at hSP (fun j hj hne => by have hj2 := x_some_lt hlt0 hne; exact (fr1 j (by omega) (by omega))))
  have hm10 := (zq_V5_at hV5 (fr1 485 (by decide) (by decide)))
  have hm11 := (zq_SL_at hSL (fr1 482 (by decide) (by decide)))
  have hm12 := (zq_RW_at hRW (fr1 483 (by decide) (by decide)))
  have hm13 := (zq_J_at hJ (fr1 468 (by decide) (by decide)) (fr1 469 (by decide) (by decide)) (fr1 470 (by decide) (by decide)))
  have hm14 := (zFJ_at hFJ (fun j h1 h2 => (fr1 j (by omega) (by omega))))
  have hm15 := (zWJ_at hWJ (fun j h1 h2 => (fr1 j (by omega) (by omega))))
  have hm16 := (zq_OV_at hOV (fr1 452 (by decide) (by decide)) (fr1 453 (by decide) (by decide)))
  have hGz17 : zG φ1 4 tpq1 lf mi made sv svm comb hm sc sm mh noted verd ins ver sz bw := ⟨⟨_, _, hH1, (x_hw_at hhw (fun j hj hne => by have hj2 := x_some_lt hlt0 hne; exact (fr1 j (by omega) (by omega))))⟩, hB1, hm2, hm3, hm4, ⟨_, ⟨_, _, _, _, _, _, _, _, _, _, hm5⟩, hco⟩, ⟨_, _, _, hm6, hm8⟩, hm9, hm10, ⟨_, hm11⟩, hm12, hm13, hm14, hm15, ⟨_, _, hm16, hovn, hovh⟩⟩
  refine q_callrB (xs := [(0, 0, 0), (0, i, 0), (6, 0, 0)]) (p2 := 53) rfl rfl rfl rfl (x_rcv_s 0 hH1) rfl (zc_set0_bad (x := i) hGz17 (by omega) hpv (by omega) (by omega) hna) rfl (fun w17 φ17 n17 sl17 hn17 hN17 hs17 hT17 hR17 => ?_)
  obtain ⟨hwz17, hGr17⟩ := hR17
  subst hwz17
  have hG := hGr17
  skip
  obtain ⟨⟨hand, ie, hH, hhw⟩, hB, hTJ, hEJ, hN, hKJ, ⟨A, B, s9, hPS, hLK0⟩, hSP, hV5, ⟨slq, hSL⟩, hRW, hJ, hFJ, hWJ, ⟨ovn, ovh, hOV, hovn, hovh⟩⟩ := hG
  refine x_n_lt (fun hlt0 => ?_)
  have hmade := x_PS_lt hPS
  obtain ⟨co, ⟨top_, fr_, pc_, mm, st, lo, re, rs, fl, se, hKS⟩, hco⟩ := hKJ
  refine q_goto rfl ?_
  refine q_callrE (xs := [(0, 4294967295, 0), (6, 0, 0)]) (p2 := 56) rfl rfl rfl rfl (fun _ _ => rfl) rfl (zc_done hH hPS (by omega)) (Nat.le_refl _) (Nat.le_refl _) rfl (fun φ19 hR19 => ?_)
  obtain ⟨hs19_0, fr19⟩ := hR19
  have hm20 := (zq_tp_at hB (fr19 1 (by decide)))
  have hm21 := (zTJ_at hTJ (fun j h1 h2 => (fr19 j (by omega))))
  have hm22 := (zEJ_at hEJ (fun j h1 h2 => (fr19 j (by omega))))
  have hm23 := (zq_nm_at hN (fr19 239 (by decide)) (fr19 242 (by decide)) (fr19 244 (by decide)))
  have hm24 := (x_KS_at2 hKS (fun j h1 h2 h3 h4 => (fr19 j (by omega))))
  refine x_n_lt (fun hlt26 => ?_)
  have hm25 := (x_PS_at hPS (fun j hj hne => by have hj2 := x_some_lt hlt0 hne; exact (fr19 j (by omega))))
  have hm27 := (x_LK_at2 hLK0 (fun j h1 h2 => (fr19 j (by omega))))
  have hm28 := (x_SP_at hSP (fun j hj hne => by have hj2 := x_some_lt hlt0 hne; exact (fr19 j (by omega))))
  have hm29 := (zq_V5_at hV5 (fr19 485 (by decide)))
  have hm30 := (zq_SL_at hSL (fr19 482 (by decide)))
  have hm31 := (zq_RW_at hRW (fr19 483 (by decide)))
  have hm32 := (zq_J_at hJ (fr19 468 (by decide)) (fr19 469 (by decide)) (fr19 470 (by decide)))
  have hm33 := (zFJ_at hFJ (fun j h1 h2 => (fr19 j (by omega))))
  have hm34 := (zWJ_at hWJ (fun j h1 h2 => (fr19 j (by omega))))
  have hm35 := (zq_OV_at hOV (fr19 452 (by decide)) (fr19 453 (by decide)))
  exact q_retv (v := (0, 4294967295, 0)) rfl rfl (⟨rfl, ⟨by omega, by omega⟩, ⟨by omega, by omega⟩, _, rfl, ⟨⟨_, _, hs19_0, (x_hw_at hhw (fun j hj hne => by have hj2 := x_some_lt hlt0 hne; exact (fr19 j (by omega))))⟩, hm20, hm21, hm22, hm23, ⟨_, ⟨_, _, _, _, _, _, _, _, _, _, hm24⟩, hco⟩, ⟨_, _, _, hm25, hm27⟩, hm28, hm29, ⟨_, hm30⟩, hm31, hm32, hm33, hm34, ⟨_, _, hm35, hovn, hovh⟩⟩⟩)
set_option maxHeartbeats 1000000 in
theorem zc_call_4_4 {d n sl : Nat} {φ : FH} {tp : Nat → Nat} {lf : Nat} {mi : Nat} {made : Nat} {sv : Nat} {svm : Nat} {comb : Nat → Nat} {hm : Nat → MV} {sc : Nat → Nat} {sm : Nat → MV} {mh : MV} {noted : Nat} {verd : Nat} {ins : Nat → Nat} {ver : Nat → Nat} {sz : Nat} {bw : Nat → Nat} {x : Nat} {s4 s7 i j : Nat} {s10 v : Nat} (hG : zG φ 0 tp lf mi made sv svm comb hm sc sm mh noted verd ins ver sz bw) (hn0 : 486 ≤ n) (hpv : ∀ i, x_pv2 (hm i)) (hmi : mi + 300 ≤ 20000) (hx32 : x < 4294967296) (hf0 : x >>> 4 = s4) (hf1 : s4 &&& 7 = i) (hf2 : x >>> 7 = s7) (hf3 : s7 &&& 7 = j) (hf4 : x &&& 15 = 4) (hf5 : x >>> 10 = s10) (hf6 : s10 &&& 1023 = v) (hi : i < 8) (hj : j < 8) (hv : 1000 ≤ v ∧ v ≤ 1023) (hisA : x_isA made comb i 0) : x_f x_P (d + 12) 4 [(6, 0, 0), (0, x, 0), (11, 0, 0), (11, 0, 0), (11, 0, 0)] φ n sl (x_bR n sl 1 7 (fun zw φ2 => ∃ tpZ : Nat → Nat, zw = (0, 1, 0) ∧ zG φ2 0 tpZ 0 (mi + 1) made sv svm comb (zhm hm (i * 40 + 0) (1, v, 0, 0, [])) sc sm mh noted verd ins ver sz bw)) := by
  refine x_f_of rfl ?_
  have hG0 := hG
  obtain ⟨⟨hand, ie, hH, hhw⟩, hB, hTJ, hEJ, hN, hKJ, ⟨A, B, s9, hPS, hLK0⟩, hSP, hV5, ⟨slq, hSL⟩, hRW, hJ, hFJ, hWJ, ⟨ovn, ovh, hOV, hovn, hovh⟩⟩ := hG
  refine x_n_lt (fun hlt0 => ?_)
  have hmade := x_PS_lt hPS
  obtain ⟨co, ⟨top_, fr_, pc_, mm, st, lo, re, rs, fl, se, hKS⟩, hco⟩ := hKJ
  refine q_load (v := (0, x, 0)) (p2 := 1) rfl rfl rfl rfl ?_
  refine q_const (p2 := 2) rfl rfl ?_
  refine q_iushrz (z := s4) (p2 := 3) rfl (by omega) hf0 rfl ?_
  refine q_const (p2 := 4) rfl rfl ?_
  refine q_iandz (z := i) (p2 := 5) rfl hf1 (by omega) rfl ?_
  refine q_store (loc2 := [(6, 0, 0), (0, x, 0), (0, i, 0), (11, 0, 0), (11, 0, 0)]) (p2 := 6) rfl rfl rfl rfl rfl ?_
  refine q_load (v := (0, x, 0)) (p2 := 7) rfl rfl rfl rfl ?_
  refine q_const (p2 := 8) rfl rfl ?_
  refine q_iushrz (z := s7) (p2 := 9) rfl (by omega) hf2 rfl ?_
  refine q_const (p2 := 10) rfl rfl ?_
  refine q_iandz (z := j) (p2 := 11) rfl hf3 (by omega) rfl ?_
  refine q_store (loc2 := [(6, 0, 0), (0, x, 0), (0, i, 0), (0, j, 0), (11, 0, 0)]) (p2 := 12) rfl rfl rfl rfl rfl ?_
  refine q_const (p2 := 13) rfl rfl ?_
  refine q_store (loc2 := [(6, 0, 0), (0, x, 0), (0, i, 0), (0, j, 0), (0, 1, 0)]) (p2 := 14) rfl rfl rfl rfl rfl ?_
  refine q_load (v := (0, x, 0)) (p2 := 15) rfl rfl rfl rfl ?_
  refine q_const (p2 := 16) rfl rfl ?_
  refine q_iandz (z := 4) (p2 := 17) rfl hf4 (by omega) rfl ?_
  refine q_switch (tgt := 38) rfl (by decide) rfl ?_
  refine q_load (v := (6, 0, 0)) (p2 := 39) rfl rfl rfl rfl ?_
  refine q_load (v := (0, x, 0)) (p2 := 40) rfl rfl rfl rfl ?_
  refine q_const (p2 := 41) rfl rfl ?_
  refine q_iushrz (z := s10) (p2 := 42) rfl (by omega) hf5 rfl ?_
  refine q_const (p2 := 43) rfl rfl ?_
  refine q_iandz (z := v) (p2 := 44) rfl hf6 (by omega) rfl ?_
  refine q_callrE (xs := [(0, v, 0), (6, 0, 0)]) (p2 := 45) rfl rfl rfl rfl (fun _ _ => rfl) rfl (zc_pn_4_0 hH hB (by omega) ) (Nat.le_refl _) (Nat.le_refl _) rfl (fun φ1 hR1 => ?_)
  obtain ⟨tpq1, hH1, hB1, hq1_0, hq1_1, hq1_2, hq1_3, fr1⟩ := hR1
  refine q_store (loc2 := [(6, 0, 0), (0, x, 0), (0, i, 0), (0, j, 0), (0, 1, 0)]) (p2 := 46) rfl rfl rfl rfl rfl ?_
  refine q_load (v := (6, 0, 0)) (p2 := 47) rfl rfl rfl rfl ?_
  refine q_load (v := (0, 1, 0)) (p2 := 48) rfl rfl rfl rfl ?_
  refine q_if0_s (p2 := 49) rfl (by decide) (by omega) rfl (fun hb => absurd hb (show ¬ (1 = 0) by omega)) (fun _ => ?_)
  refine q_load (v := (6, 0, 0)) (p2 := 50) rfl rfl rfl rfl ?_
  refine q_load (v := (0, i, 0)) (p2 := 51) rfl rfl rfl rfl ?_
  refine q_const (p2 := 52) rfl rfl ?_
  have hm2 := (zTJ_at hTJ (fun j h1 h2 => (fr1 j (by omega) (by omega))))
  have hm3 := (zEJ_at hEJ (fun j h1 h2 => (fr1 j (by omega) (by omega))))
  have hm4 := (zq_nm_at hN (fr1 239 (by decide) (by decide)) (fr1 242 (by decide) (by decide)) (fr1 244 (by decide) (by decide)))
  have hm5 := (x_KS_at2 hKS (fun j h1 h2 h3 h4 => (fr1 j (by omega) (by omega))))
  refine x_n_lt (fun hlt7 => ?_)
  have hm6 := (x_PS_at hPS (fun j hj hne => by have hj2 := x_some_lt hlt0 hne; exact (fr1 j (by omega) (by omega))))
  have hm8 := (x_LK_at2 hLK0 (fun j h1 h2 => (fr1 j (by omega) (by omega))))
  have hm9 := (x_SP_at hSP (fun j hj hne => by have hj2 := x_some_lt hlt0 hne; exact (fr1 j (by omega) (by omega))))
  have hm10 := (zq_V5_at hV5 (fr1 485 (by decide) (by decide)))
  have hm11 := (zq_SL_at hSL (fr1 482 (by decide) (by decide)))
  have hm12 := (zq_RW_at hRW (fr1 483 (by decide) (by decide)))
  have hm13 := (zq_J_at hJ (fr1 468 (by decide) (by decide)) (fr1 469 (by decide) (by decide)) (fr1 470 (by decide) (by decide)))
  have hm14 := (zFJ_at hFJ (fun j h1 h2 => (fr1 j (by omega) (by omega))))
  have hm15 := (zWJ_at hWJ (fun j h1 h2 => (fr1 j (by omega) (by omega))))
  have hm16 := (zq_OV_at hOV (fr1 452 (by decide) (by decide)) (fr1 453 (by decide) (by decide)))
  have hGz17 : zG φ1 4 tpq1 lf mi made sv svm comb hm sc sm mh noted verd ins ver sz bw := ⟨⟨_, _, hH1, (x_hw_at hhw (fun j hj hne => by have hj2 := x_some_lt hlt0 hne; exact (fr1 j (by omega) (by omega))))⟩, hB1, hm2, hm3, hm4, ⟨_, ⟨_, _, _, _, _, _, _, _, _, _, hm5⟩, hco⟩, ⟨_, _, _, hm6, hm8⟩, hm9, hm10, ⟨_, hm11⟩, hm12, hm13, hm14, hm15, ⟨_, _, hm16, hovn, hovh⟩⟩
  refine q_callrB (xs := [(0, 0, 0), (0, i, 0), (6, 0, 0)]) (p2 := 53) rfl rfl rfl rfl (x_rcv_s 0 hH1) rfl (zc_set0_4 (x := i) (w1 := v) hGz17 (by omega) hpv (by omega) (by omega) hisA (hq1_0) (hq1_1) (hq1_2) (hq1_3) (by omega) (by omega) (by omega) (by omega) (by omega) (by omega)) rfl (fun w17 φ17 n17 sl17 hn17 hN17 hs17 hT17 hR17 => ?_)
  obtain ⟨hwz17, hGr17⟩ := hR17
  subst hwz17
  have hG := hGr17
  skip
  obtain ⟨⟨hand, ie, hH, hhw⟩, hB, hTJ, hEJ, hN, hKJ, ⟨A, B, s9, hPS, hLK0⟩, hSP, hV5, ⟨slq, hSL⟩, hRW, hJ, hFJ, hWJ, ⟨ovn, ovh, hOV, hovn, hovh⟩⟩ := hG
  refine x_n_lt (fun hlt0 => ?_)
  have hmade := x_PS_lt hPS
  obtain ⟨co, ⟨top_, fr_, pc_, mm, st, lo, re, rs, fl, se, hKS⟩, hco⟩ := hKJ
  refine q_goto rfl ?_
  refine q_callrE (xs := [(0, 1, 0), (6, 0, 0)]) (p2 := 56) rfl rfl rfl rfl (fun _ _ => rfl) rfl (zc_done hH hPS (by omega)) (Nat.le_refl _) (Nat.le_refl _) rfl (fun φ19 hR19 => ?_)
  obtain ⟨hs19_0, fr19⟩ := hR19
  have hm20 := (zq_tp_at hB (fr19 1 (by decide)))
  have hm21 := (zTJ_at hTJ (fun j h1 h2 => (fr19 j (by omega))))
  have hm22 := (zEJ_at hEJ (fun j h1 h2 => (fr19 j (by omega))))
  have hm23 := (zq_nm_at hN (fr19 239 (by decide)) (fr19 242 (by decide)) (fr19 244 (by decide)))
  have hm24 := (x_KS_at2 hKS (fun j h1 h2 h3 h4 => (fr19 j (by omega))))
  refine x_n_lt (fun hlt26 => ?_)
  have hm25 := (x_PS_at hPS (fun j hj hne => by have hj2 := x_some_lt hlt0 hne; exact (fr19 j (by omega))))
  have hm27 := (x_LK_at2 hLK0 (fun j h1 h2 => (fr19 j (by omega))))
  have hm28 := (x_SP_at hSP (fun j hj hne => by have hj2 := x_some_lt hlt0 hne; exact (fr19 j (by omega))))
  have hm29 := (zq_V5_at hV5 (fr19 485 (by decide)))
  have hm30 := (zq_SL_at hSL (fr19 482 (by decide)))
  have hm31 := (zq_RW_at hRW (fr19 483 (by decide)))
  have hm32 := (zq_J_at hJ (fr19 468 (by decide)) (fr19 469 (by decide)) (fr19 470 (by decide)))
  have hm33 := (zFJ_at hFJ (fun j h1 h2 => (fr19 j (by omega))))
  have hm34 := (zWJ_at hWJ (fun j h1 h2 => (fr19 j (by omega))))
  have hm35 := (zq_OV_at hOV (fr19 452 (by decide)) (fr19 453 (by decide)))
  exact q_retv (v := (0, 1, 0)) rfl rfl (⟨rfl, ⟨by omega, by omega⟩, ⟨by omega, by omega⟩, _, rfl, ⟨⟨_, _, hs19_0, (x_hw_at hhw (fun j hj hne => by have hj2 := x_some_lt hlt0 hne; exact (fr19 j (by omega))))⟩, hm20, hm21, hm22, hm23, ⟨_, ⟨_, _, _, _, _, _, _, _, _, _, hm24⟩, hco⟩, ⟨_, _, _, hm25, hm27⟩, hm28, hm29, ⟨_, hm30⟩, hm31, hm32, hm33, hm34, ⟨_, _, hm35, hovn, hovh⟩⟩⟩)
set_option maxHeartbeats 1000000 in
theorem zc_call_5_bad {d n sl : Nat} {φ : FH} {tp : Nat → Nat} {lf : Nat} {mi : Nat} {made : Nat} {sv : Nat} {svm : Nat} {comb : Nat → Nat} {hm : Nat → MV} {sc : Nat → Nat} {sm : Nat → MV} {mh : MV} {noted : Nat} {verd : Nat} {ins : Nat → Nat} {ver : Nat → Nat} {sz : Nat} {bw : Nat → Nat} {x : Nat} {s4 s7 i j : Nat}  (hG : zG φ 0 tp lf mi made sv svm comb hm sc sm mh noted verd ins ver sz bw) (hn0 : 486 ≤ n) (hpv : ∀ i, x_pv2 (hm i)) (hmi : mi + 300 ≤ 20000) (hx32 : x < 4294967296) (hf0 : x >>> 4 = s4) (hf1 : s4 &&& 7 = i) (hf2 : x >>> 7 = s7) (hf3 : s7 &&& 7 = j) (hf4 : x &&& 15 = 5) (hi : i < 8) (hj : j < 8) (hna : ¬ x_isA made comb j 0) : x_f x_P (d + 5) 4 [(6, 0, 0), (0, x, 0), (11, 0, 0), (11, 0, 0), (11, 0, 0)] φ n sl (x_bR n sl 0 0 (fun zw φ2 => ∃ tpZ : Nat → Nat, zw = (0, 4294967295, 0) ∧ zG φ2 0 tpZ lf mi made sv svm comb hm sc sm mh noted verd ins ver sz bw)) := by
  refine x_f_of rfl ?_
  have hG0 := hG
  obtain ⟨⟨hand, ie, hH, hhw⟩, hB, hTJ, hEJ, hN, hKJ, ⟨A, B, s9, hPS, hLK0⟩, hSP, hV5, ⟨slq, hSL⟩, hRW, hJ, hFJ, hWJ, ⟨ovn, ovh, hOV, hovn, hovh⟩⟩ := hG
  refine x_n_lt (fun hlt0 => ?_)
  have hmade := x_PS_lt hPS
  obtain ⟨co, ⟨top_, fr_, pc_, mm, st, lo, re, rs, fl, se, hKS⟩, hco⟩ := hKJ
  refine q_load (v := (0, x, 0)) (p2 := 1) rfl rfl rfl rfl ?_
  refine q_const (p2 := 2) rfl rfl ?_
  refine q_iushrz (z := s4) (p2 := 3) rfl (by omega) hf0 rfl ?_
  refine q_const (p2 := 4) rfl rfl ?_
  refine q_iandz (z := i) (p2 := 5) rfl hf1 (by omega) rfl ?_
  refine q_store (loc2 := [(6, 0, 0), (0, x, 0), (0, i, 0), (11, 0, 0), (11, 0, 0)]) (p2 := 6) rfl rfl rfl rfl rfl ?_
  refine q_load (v := (0, x, 0)) (p2 := 7) rfl rfl rfl rfl ?_
  refine q_const (p2 := 8) rfl rfl ?_
  refine q_iushrz (z := s7) (p2 := 9) rfl (by omega) hf2 rfl ?_
  refine q_const (p2 := 10) rfl rfl ?_
  refine q_iandz (z := j) (p2 := 11) rfl hf3 (by omega) rfl ?_
  refine q_store (loc2 := [(6, 0, 0), (0, x, 0), (0, i, 0), (0, j, 0), (11, 0, 0)]) (p2 := 12) rfl rfl rfl rfl rfl ?_
  refine q_const (p2 := 13) rfl rfl ?_
  refine q_store (loc2 := [(6, 0, 0), (0, x, 0), (0, i, 0), (0, j, 0), (0, 1, 0)]) (p2 := 14) rfl rfl rfl rfl rfl ?_
  refine q_load (v := (0, x, 0)) (p2 := 15) rfl rfl rfl rfl ?_
  refine q_const (p2 := 16) rfl rfl ?_
  refine q_iandz (z := 5) (p2 := 17) rfl hf4 (by omega) rfl ?_
  refine q_switch (tgt := 57) rfl (by decide) rfl ?_
  refine q_load (v := (6, 0, 0)) (p2 := 58) rfl rfl rfl rfl ?_
  refine q_const (p2 := 59) rfl rfl ?_
  refine q_callrE (xs := [(0, 91, 0), (6, 0, 0)]) (p2 := 60) rfl rfl rfl rfl (fun _ _ => rfl) rfl (zc_put hH hB (by omega) (by omega)) (Nat.le_refl _) (Nat.le_refl _) rfl (fun φ1 hR1 => ?_)
  obtain ⟨tpq1, hH1, hB1, hc1, hq1, fr1⟩ := hR1
  refine q_if0_s (p2 := 61) rfl (by decide) (by omega) rfl (fun hb => absurd hb (show ¬ (1 = 0) by omega)) (fun _ => ?_)
  refine q_load (v := (6, 0, 0)) (p2 := 62) rfl rfl rfl rfl ?_
  refine q_const (p2 := 63) rfl rfl ?_
  refine q_callrE (xs := [(0, 35, 0), (6, 0, 0)]) (p2 := 64) rfl rfl rfl rfl (fun _ _ => rfl) rfl (zc_put hH1 hB1 (by omega) (by omega)) (Nat.le_refl _) (Nat.le_refl _) rfl (fun φ2 hR2 => ?_)
  obtain ⟨tpq2, hH2, hB2, hc2, hq2, fr2⟩ := hR2
  refine q_if0_s (p2 := 65) rfl (by decide) (by omega) rfl (fun hb => absurd hb (show ¬ (1 = 0) by omega)) (fun _ => ?_)
  refine q_load (v := (6, 0, 0)) (p2 := 66) rfl rfl rfl rfl ?_
  refine q_load (v := (0, i, 0)) (p2 := 67) rfl rfl rfl rfl ?_
  refine q_callrE (xs := [(0, i, 0), (6, 0, 0)]) (p2 := 68) rfl rfl rfl rfl (fun _ _ => rfl) rfl (zc_pn_1_2 hH2 hB2 (by omega) ((hq2 0 (by omega)).trans hc1) hc2) (Nat.le_refl _) (Nat.le_refl _) rfl (fun φ3 hR3 => ?_)
  obtain ⟨tpq3, hH3, hB3, hq3_0, hq3_1, hq3_2, fr3⟩ := hR3
  refine q_if0_s (p2 := 69) rfl (by decide) (by omega) rfl (fun hb => absurd hb (show ¬ (1 = 0) by omega)) (fun _ => ?_)
  refine q_load (v := (6, 0, 0)) (p2 := 70) rfl rfl rfl rfl ?_
  refine q_const (p2 := 71) rfl rfl ?_
  refine q_callrE (xs := [(0, 44, 0), (6, 0, 0)]) (p2 := 72) rfl rfl rfl rfl (fun _ _ => rfl) rfl (zc_put hH3 hB3 (by omega) (by omega)) (Nat.le_refl _) (Nat.le_refl _) rfl (fun φ4 hR4 => ?_)
  obtain ⟨tpq4, hH4, hB4, hc4, hq4, fr4⟩ := hR4
  refine q_if0_s (p2 := 73) rfl (by decide) (by omega) rfl (fun hb => absurd hb (show ¬ (1 = 0) by omega)) (fun _ => ?_)
  refine q_load (v := (6, 0, 0)) (p2 := 74) rfl rfl rfl rfl ?_
  refine q_const (p2 := 75) rfl rfl ?_
  refine q_callrE (xs := [(0, 35, 0), (6, 0, 0)]) (p2 := 76) rfl rfl rfl rfl (fun _ _ => rfl) rfl (zc_put hH4 hB4 (by omega) (by omega)) (Nat.le_refl _) (Nat.le_refl _) rfl (fun φ5 hR5 => ?_)
  obtain ⟨tpq5, hH5, hB5, hc5, hq5, fr5⟩ := hR5
  refine q_if0_s (p2 := 77) rfl (by decide) (by omega) rfl (fun hb => absurd hb (show ¬ (1 = 0) by omega)) (fun _ => ?_)
  refine q_load (v := (6, 0, 0)) (p2 := 78) rfl rfl rfl rfl ?_
  refine q_load (v := (0, j, 0)) (p2 := 79) rfl rfl rfl rfl ?_
  refine q_callrE (xs := [(0, j, 0), (6, 0, 0)]) (p2 := 80) rfl rfl rfl rfl (fun _ _ => rfl) rfl (zc_pn_1_5 hH5 hB5 (by omega) ((hq5 0 (by omega)).trans ((hq4 0 (by omega)).trans hq3_0)) ((hq5 1 (by omega)).trans ((hq4 1 (by omega)).trans hq3_1)) ((hq5 2 (by omega)).trans ((hq4 2 (by omega)).trans hq3_2)) ((hq5 3 (by omega)).trans hc4) hc5) (Nat.le_refl _) (Nat.le_refl _) rfl (fun φ6 hR6 => ?_)
  obtain ⟨tpq6, hH6, hB6, hq6_0, hq6_1, hq6_2, hq6_3, hq6_4, hq6_5, fr6⟩ := hR6
  refine q_if0_s (p2 := 81) rfl (by decide) (by omega) rfl (fun hb => absurd hb (show ¬ (1 = 0) by omega)) (fun _ => ?_)
  refine q_load (v := (6, 0, 0)) (p2 := 82) rfl rfl rfl rfl ?_
  refine q_const (p2 := 83) rfl rfl ?_
  refine q_callrE (xs := [(0, 93, 0), (6, 0, 0)]) (p2 := 84) rfl rfl rfl rfl (fun _ _ => rfl) rfl (zc_put hH6 hB6 (by omega) (by omega)) (Nat.le_refl _) (Nat.le_refl _) rfl (fun φ7 hR7 => ?_)
  obtain ⟨tpq7, hH7, hB7, hc7, hq7, fr7⟩ := hR7
  refine q_if0_s (p2 := 85) rfl (by decide) (by omega) rfl (fun hb => absurd hb (show ¬ (1 = 0) by omega)) (fun _ => ?_)
  refine q_const (p2 := 86) rfl rfl ?_
  refine q_goto rfl ?_
  refine q_store (loc2 := [(6, 0, 0), (0, x, 0), (0, i, 0), (0, j, 0), (0, 1, 0)]) (p2 := 89) rfl rfl rfl rfl rfl ?_
  refine q_load (v := (6, 0, 0)) (p2 := 90) rfl rfl rfl rfl ?_
  refine q_load (v := (0, 1, 0)) (p2 := 91) rfl rfl rfl rfl ?_
  refine q_if0_s (p2 := 92) rfl (by decide) (by omega) rfl (fun hb => absurd hb (show ¬ (1 = 0) by omega)) (fun _ => ?_)
  refine q_load (v := (6, 0, 0)) (p2 := 93) rfl rfl rfl rfl ?_
  refine q_load (v := (0, j, 0)) (p2 := 94) rfl rfl rfl rfl ?_
  refine q_const (p2 := 95) rfl rfl ?_
  have hm8 := (zTJ_at hTJ (fun j h1 h2 => ((fr7 j (by omega) (by omega)).trans ((fr6 j (by omega) (by omega)).trans ((fr5 j (by omega) (by omega)).trans ((fr4 j (by omega) (by omega)).trans ((fr3 j (by omega) (by omega)).trans ((fr2 j (by omega) (by omega)).trans (fr1 j (by omega) (by omega))))))))))
  have hm9 := (zEJ_at hEJ (fun j h1 h2 => ((fr7 j (by omega) (by omega)).trans ((fr6 j (by omega) (by omega)).trans ((fr5 j (by omega) (by omega)).trans ((fr4 j (by omega) (by omega)).trans ((fr3 j (by omega) (by omega)).trans ((fr2 j (by omega) (by omega)).trans (fr1 j (by omega) (by omega))))))))))
  have hm10 := (zq_nm_at hN ((fr7 239 (by decide) (by decide)).trans ((fr6 239 (by decide) (by decide)).trans ((fr5 239 (by decide) (by decide)).trans ((fr4 239 (by decide) (by decide)).trans ((fr3 239 (by decide) (by decide)).trans ((fr2 239 (by decide) (by decide)).trans (fr1 239 (by decide) (by decide)))))))) ((fr7 242 (by decide) (by decide)).trans ((fr6 242 (by decide) (by decide)).trans ((fr5 242 (by decide) (by decide)).trans ((fr4 242 (by decide) (by decide)).trans ((fr3 242 (by decide) (by decide)).trans ((fr2 242 (by decide) (by decide)).trans (fr1 242 (by decide) (by decide)))))))) ((fr7 244 (by decide) (by decide)).trans ((fr6 244 (by decide) (by decide)).trans ((fr5 244 (by decide) (by decide)).trans ((fr4 244 (by decide) (by decide)).trans ((fr3 244 (by decide) (by decide)).trans ((fr2 244 (by decide) (by decide)).trans (fr1 244 (by decide) (by decide)))))))))
  have hm11 := (x_KS_at2 hKS (fun j h1 h2 h3 h4 => ((fr7 j (by omega) (by omega)).trans ((fr6 j (by omega) (by omega)).trans ((fr5 j (by omega) (by omega)).trans ((fr4 j (by omega) (by omega)).trans ((fr3 j (by omega) (by omega)).trans ((fr2 j (by omega) (by omega)).trans (fr1 j (by omega) (by omega))))))))))
  refine x_n_lt (fun hlt13 => ?_)
  have hm12 := (x_PS_at hPS (fun j hj hne => by have hj2 := x_some_lt hlt0 hne; exact ((fr7 j (by omega) (by omega)).trans ((fr6 j (by omega) (by omega)).trans ((fr5 j (by omega) (by omega)).trans ((fr4 j (by omega) (by omega)).trans ((fr3 j (by omega) (by omega)).trans ((fr2 j (by omega) (by omega)).trans (fr1 j (by omega) (by omega))))))))))
  have hm14 := (x_LK_at2 hLK0 (fun j h1 h2 => ((fr7 j (by omega) (by omega)).trans ((fr6 j (by omega) (by omega)).trans ((fr5 j (by omega) (by omega)).trans ((fr4 j (by omega) (by omega)).trans ((fr3 j (by omega) (by omega)).trans ((fr2 j (by omega) (by omega)).trans (fr1 j (by omega) (by omega))))))))))
  have hm15 := (x_SP_at hSP (fun j hj hne => by have hj2 := x_some_lt hlt0 hne; exact ((fr7 j (by omega) (by omega)).trans ((fr6 j (by omega) (by omega)).trans ((fr5 j (by omega) (by omega)).trans ((fr4 j (by omega) (by omega)).trans ((fr3 j (by omega) (by omega)).trans ((fr2 j (by omega) (by omega)).trans (fr1 j (by omega) (by omega))))))))))
  have hm16 := (zq_V5_at hV5 ((fr7 485 (by decide) (by decide)).trans ((fr6 485 (by decide) (by decide)).trans ((fr5 485 (by decide) (by decide)).trans ((fr4 485 (by decide) (by decide)).trans ((fr3 485 (by decide) (by decide)).trans ((fr2 485 (by decide) (by decide)).trans (fr1 485 (by decide) (by decide)))))))))
  have hm17 := (zq_SL_at hSL ((fr7 482 (by decide) (by decide)).trans ((fr6 482 (by decide) (by decide)).trans ((fr5 482 (by decide) (by decide)).trans ((fr4 482 (by decide) (by decide)).trans ((fr3 482 (by decide) (by decide)).trans ((fr2 482 (by decide) (by decide)).trans (fr1 482 (by decide) (by decide)))))))))
  have hm18 := (zq_RW_at hRW ((fr7 483 (by decide) (by decide)).trans ((fr6 483 (by decide) (by decide)).trans ((fr5 483 (by decide) (by decide)).trans ((fr4 483 (by decide) (by decide)).trans ((fr3 483 (by decide) (by decide)).trans ((fr2 483 (by decide) (by decide)).trans (fr1 483 (by decide) (by decide)))))))))
  have hm19 := (zq_J_at hJ ((fr7 468 (by decide) (by decide)).trans ((fr6 468 (by decide) (by decide)).trans ((fr5 468 (by decide) (by decide)).trans ((fr4 468 (by decide) (by decide)).trans ((fr3 468 (by decide) (by decide)).trans ((fr2 468 (by decide) (by decide)).trans (fr1 468 (by decide) (by decide)))))))) ((fr7 469 (by decide) (by decide)).trans ((fr6 469 (by decide) (by decide)).trans ((fr5 469 (by decide) (by decide)).trans ((fr4 469 (by decide) (by decide)).trans ((fr3 469 (by decide) (by decide)).trans ((fr2 469 (by decide) (by decide)).trans (fr1 469 (by decide) (by decide)))))))) ((fr7 470 (by decide) (by decide)).trans ((fr6 470 (by decide) (by decide)).trans ((fr5 470 (by decide) (by decide)).trans ((fr4 470 (by decide) (by decide)).trans ((fr3 470 (by decide) (by decide)).trans ((fr2 470 (by decide) (by decide)).trans (fr1 470 (by decide) (by decide)))))))))
  have hm20 := (zFJ_at hFJ (fun j h1 h2 => ((fr7 j (by omega) (by omega)).trans ((fr6 j (by omega) (by omega)).trans ((fr5 j (by omega) (by omega)).trans ((fr4 j (by omega) (by omega)).trans ((fr3 j (by omega) (by omega)).trans ((fr2 j (by omega) (by omega)).trans (fr1 j (by omega) (by omega))))))))))
  have hm21 := (zWJ_at hWJ (fun j h1 h2 => ((fr7 j (by omega) (by omega)).trans ((fr6 j (by omega) (by omega)).trans ((fr5 j (by omega) (by omega)).trans ((fr4 j (by omega) (by omega)).trans ((fr3 j (by omega) (by omega)).trans ((fr2 j (by omega) (by omega)).trans (fr1 j (by omega) (by omega))))))))))
  have hm22 := (zq_OV_at hOV ((fr7 452 (by decide) (by decide)).trans ((fr6 452 (by decide) (by decide)).trans ((fr5 452 (by decide) (by decide)).trans ((fr4 452 (by decide) (by decide)).trans ((fr3 452 (by decide) (by decide)).trans ((fr2 452 (by decide) (by decide)).trans (fr1 452 (by decide) (by decide)))))))) ((fr7 453 (by decide) (by decide)).trans ((fr6 453 (by decide) (by decide)).trans ((fr5 453 (by decide) (by decide)).trans ((fr4 453 (by decide) (by decide)).trans ((fr3 453 (by decide) (by decide)).trans ((fr2 453 (by decide) (by decide)).trans (fr1 453 (by decide) (by decide)))))))))
  have hGz23 : zG φ7 7 tpq7 lf mi made sv svm comb hm sc sm mh noted verd ins ver sz bw := ⟨⟨_, _, hH7, (x_hw_at hhw (fun j hj hne => by have hj2 := x_some_lt hlt0 hne; exact ((fr7 j (by omega) (by omega)).trans ((fr6 j (by omega) (by omega)).trans ((fr5 j (by omega) (by omega)).trans ((fr4 j (by omega) (by omega)).trans ((fr3 j (by omega) (by omega)).trans ((fr2 j (by omega) (by omega)).trans (fr1 j (by omega) (by omega))))))))))⟩, hB7, hm8, hm9, hm10, ⟨_, ⟨_, _, _, _, _, _, _, _, _, _, hm11⟩, hco⟩, ⟨_, _, _, hm12, hm14⟩, hm15, hm16, ⟨_, hm17⟩, hm18, hm19, hm20, hm21, ⟨_, _, hm22, hovn, hovh⟩⟩
  refine q_callrB (xs := [(0, 1, 0), (0, j, 0), (6, 0, 0)]) (p2 := 96) rfl rfl rfl rfl (x_rcv_s 0 hH7) rfl (zc_set1_bad (x := j) hGz23 (by omega) hpv (by omega) (by omega) hna) rfl (fun w23 φ23 n23 sl23 hn23 hN23 hs23 hT23 hR23 => ?_)
  obtain ⟨hwz23, hGr23⟩ := hR23
  subst hwz23
  have hG := hGr23
  skip
  obtain ⟨⟨hand, ie, hH, hhw⟩, hB, hTJ, hEJ, hN, hKJ, ⟨A, B, s9, hPS, hLK0⟩, hSP, hV5, ⟨slq, hSL⟩, hRW, hJ, hFJ, hWJ, ⟨ovn, ovh, hOV, hovn, hovh⟩⟩ := hG
  refine x_n_lt (fun hlt0 => ?_)
  have hmade := x_PS_lt hPS
  obtain ⟨co, ⟨top_, fr_, pc_, mm, st, lo, re, rs, fl, se, hKS⟩, hco⟩ := hKJ
  refine q_goto rfl ?_
  refine q_callrE (xs := [(0, 4294967295, 0), (6, 0, 0)]) (p2 := 99) rfl rfl rfl rfl (fun _ _ => rfl) rfl (zc_done hH hPS (by omega)) (Nat.le_refl _) (Nat.le_refl _) rfl (fun φ25 hR25 => ?_)
  obtain ⟨hs25_0, fr25⟩ := hR25
  have hm26 := (zq_tp_at hB (fr25 1 (by decide)))
  have hm27 := (zTJ_at hTJ (fun j h1 h2 => (fr25 j (by omega))))
  have hm28 := (zEJ_at hEJ (fun j h1 h2 => (fr25 j (by omega))))
  have hm29 := (zq_nm_at hN (fr25 239 (by decide)) (fr25 242 (by decide)) (fr25 244 (by decide)))
  have hm30 := (x_KS_at2 hKS (fun j h1 h2 h3 h4 => (fr25 j (by omega))))
  refine x_n_lt (fun hlt32 => ?_)
  have hm31 := (x_PS_at hPS (fun j hj hne => by have hj2 := x_some_lt hlt0 hne; exact (fr25 j (by omega))))
  have hm33 := (x_LK_at2 hLK0 (fun j h1 h2 => (fr25 j (by omega))))
  have hm34 := (x_SP_at hSP (fun j hj hne => by have hj2 := x_some_lt hlt0 hne; exact (fr25 j (by omega))))
  have hm35 := (zq_V5_at hV5 (fr25 485 (by decide)))
  have hm36 := (zq_SL_at hSL (fr25 482 (by decide)))
  have hm37 := (zq_RW_at hRW (fr25 483 (by decide)))
  have hm38 := (zq_J_at hJ (fr25 468 (by decide)) (fr25 469 (by decide)) (fr25 470 (by decide)))
  have hm39 := (zFJ_at hFJ (fun j h1 h2 => (fr25 j (by omega))))
  have hm40 := (zWJ_at hWJ (fun j h1 h2 => (fr25 j (by omega))))
  have hm41 := (zq_OV_at hOV (fr25 452 (by decide)) (fr25 453 (by decide)))
  exact q_retv (v := (0, 4294967295, 0)) rfl rfl (⟨rfl, ⟨by omega, by omega⟩, ⟨by omega, by omega⟩, _, rfl, ⟨⟨_, _, hs25_0, (x_hw_at hhw (fun j hj hne => by have hj2 := x_some_lt hlt0 hne; exact (fr25 j (by omega))))⟩, hm26, hm27, hm28, hm29, ⟨_, ⟨_, _, _, _, _, _, _, _, _, _, hm30⟩, hco⟩, ⟨_, _, _, hm31, hm33⟩, hm34, hm35, ⟨_, hm36⟩, hm37, hm38, hm39, hm40, ⟨_, _, hm41, hovn, hovh⟩⟩⟩)
set_option maxHeartbeats 1000000 in
theorem zc_call_5_yy {d n sl : Nat} {φ : FH} {tp : Nat → Nat} {lf : Nat} {mi : Nat} {made : Nat} {sv : Nat} {svm : Nat} {comb : Nat → Nat} {hm : Nat → MV} {sc : Nat → Nat} {sm : Nat → MV} {mh : MV} {noted : Nat} {verd : Nat} {ins : Nat → Nat} {ver : Nat → Nat} {sz : Nat} {bw : Nat → Nat} {x : Nat} {s4 s7 i j : Nat}  (hG : zG φ 0 tp lf mi made sv svm comb hm sc sm mh noted verd ins ver sz bw) (hn0 : 486 ≤ n) (hpv : ∀ i, x_pv2 (hm i)) (hmi : mi + 300 ≤ 20000) (hx32 : x < 4294967296) (hf0 : x >>> 4 = s4) (hf1 : s4 &&& 7 = i) (hf2 : x >>> 7 = s7) (hf3 : s7 &&& 7 = j) (hf4 : x &&& 15 = 5) (hi : i < 8) (hj : j < 8) (hisA : x_isA made comb j 0) (h1 : (i < made ∧ comb i ≠ 0)) (h2 : (j < made ∧ comb j ≠ 0)) (hb1 : 1 &&& comb i ≠ 0) (hb2 : 1 &&& comb j ≠ 0) : x_f x_P (d + 20) 4 [(6, 0, 0), (0, x, 0), (11, 0, 0), (11, 0, 0), (11, 0, 0)] φ n sl (x_bR n sl 10 116 (fun zw φ2 => ∃ tpZ : Nat → Nat, zw = (0, 6, 0) ∧ zG φ2 0 tpZ 0 (mi + 3) made sv svm comb (zhm hm (j * 40 + 1) (6, 0, 3, 5, x_dd (x_lks made comb hm) made [] [i, j])) sc sm mh noted verd ins ver sz bw)) := by
  refine x_f_of rfl ?_
  have hG0 := hG
  obtain ⟨⟨hand, ie, hH, hhw⟩, hB, hTJ, hEJ, hN, hKJ, ⟨A, B, s9, hPS, hLK0⟩, hSP, hV5, ⟨slq, hSL⟩, hRW, hJ, hFJ, hWJ, ⟨ovn, ovh, hOV, hovn, hovh⟩⟩ := hG
  refine x_n_lt (fun hlt0 => ?_)
  have hmade := x_PS_lt hPS
  obtain ⟨co, ⟨top_, fr_, pc_, mm, st, lo, re, rs, fl, se, hKS⟩, hco⟩ := hKJ
  refine q_load (v := (0, x, 0)) (p2 := 1) rfl rfl rfl rfl ?_
  refine q_const (p2 := 2) rfl rfl ?_
  refine q_iushrz (z := s4) (p2 := 3) rfl (by omega) hf0 rfl ?_
  refine q_const (p2 := 4) rfl rfl ?_
  refine q_iandz (z := i) (p2 := 5) rfl hf1 (by omega) rfl ?_
  refine q_store (loc2 := [(6, 0, 0), (0, x, 0), (0, i, 0), (11, 0, 0), (11, 0, 0)]) (p2 := 6) rfl rfl rfl rfl rfl ?_
  refine q_load (v := (0, x, 0)) (p2 := 7) rfl rfl rfl rfl ?_
  refine q_const (p2 := 8) rfl rfl ?_
  refine q_iushrz (z := s7) (p2 := 9) rfl (by omega) hf2 rfl ?_
  refine q_const (p2 := 10) rfl rfl ?_
  refine q_iandz (z := j) (p2 := 11) rfl hf3 (by omega) rfl ?_
  refine q_store (loc2 := [(6, 0, 0), (0, x, 0), (0, i, 0), (0, j, 0), (11, 0, 0)]) (p2 := 12) rfl rfl rfl rfl rfl ?_
  refine q_const (p2 := 13) rfl rfl ?_
  refine q_store (loc2 := [(6, 0, 0), (0, x, 0), (0, i, 0), (0, j, 0), (0, 1, 0)]) (p2 := 14) rfl rfl rfl rfl rfl ?_
  refine q_load (v := (0, x, 0)) (p2 := 15) rfl rfl rfl rfl ?_
  refine q_const (p2 := 16) rfl rfl ?_
  refine q_iandz (z := 5) (p2 := 17) rfl hf4 (by omega) rfl ?_
  refine q_switch (tgt := 57) rfl (by decide) rfl ?_
  refine q_load (v := (6, 0, 0)) (p2 := 58) rfl rfl rfl rfl ?_
  refine q_const (p2 := 59) rfl rfl ?_
  refine q_callrE (xs := [(0, 91, 0), (6, 0, 0)]) (p2 := 60) rfl rfl rfl rfl (fun _ _ => rfl) rfl (zc_put hH hB (by omega) (by omega)) (Nat.le_refl _) (Nat.le_refl _) rfl (fun φ1 hR1 => ?_)
  obtain ⟨tpq1, hH1, hB1, hc1, hq1, fr1⟩ := hR1
  refine q_if0_s (p2 := 61) rfl (by decide) (by omega) rfl (fun hb => absurd hb (show ¬ (1 = 0) by omega)) (fun _ => ?_)
  refine q_load (v := (6, 0, 0)) (p2 := 62) rfl rfl rfl rfl ?_
  refine q_const (p2 := 63) rfl rfl ?_
  refine q_callrE (xs := [(0, 35, 0), (6, 0, 0)]) (p2 := 64) rfl rfl rfl rfl (fun _ _ => rfl) rfl (zc_put hH1 hB1 (by omega) (by omega)) (Nat.le_refl _) (Nat.le_refl _) rfl (fun φ2 hR2 => ?_)
  obtain ⟨tpq2, hH2, hB2, hc2, hq2, fr2⟩ := hR2
  refine q_if0_s (p2 := 65) rfl (by decide) (by omega) rfl (fun hb => absurd hb (show ¬ (1 = 0) by omega)) (fun _ => ?_)
  refine q_load (v := (6, 0, 0)) (p2 := 66) rfl rfl rfl rfl ?_
  refine q_load (v := (0, i, 0)) (p2 := 67) rfl rfl rfl rfl ?_
  refine q_callrE (xs := [(0, i, 0), (6, 0, 0)]) (p2 := 68) rfl rfl rfl rfl (fun _ _ => rfl) rfl (zc_pn_1_2 hH2 hB2 (by omega) ((hq2 0 (by omega)).trans hc1) hc2) (Nat.le_refl _) (Nat.le_refl _) rfl (fun φ3 hR3 => ?_)
  obtain ⟨tpq3, hH3, hB3, hq3_0, hq3_1, hq3_2, fr3⟩ := hR3
  refine q_if0_s (p2 := 69) rfl (by decide) (by omega) rfl (fun hb => absurd hb (show ¬ (1 = 0) by omega)) (fun _ => ?_)
  refine q_load (v := (6, 0, 0)) (p2 := 70) rfl rfl rfl rfl ?_
  refine q_const (p2 := 71) rfl rfl ?_
  refine q_callrE (xs := [(0, 44, 0), (6, 0, 0)]) (p2 := 72) rfl rfl rfl rfl (fun _ _ => rfl) rfl (zc_put hH3 hB3 (by omega) (by omega)) (Nat.le_refl _) (Nat.le_refl _) rfl (fun φ4 hR4 => ?_)
  obtain ⟨tpq4, hH4, hB4, hc4, hq4, fr4⟩ := hR4
  refine q_if0_s (p2 := 73) rfl (by decide) (by omega) rfl (fun hb => absurd hb (show ¬ (1 = 0) by omega)) (fun _ => ?_)
  refine q_load (v := (6, 0, 0)) (p2 := 74) rfl rfl rfl rfl ?_
  refine q_const (p2 := 75) rfl rfl ?_
  refine q_callrE (xs := [(0, 35, 0), (6, 0, 0)]) (p2 := 76) rfl rfl rfl rfl (fun _ _ => rfl) rfl (zc_put hH4 hB4 (by omega) (by omega)) (Nat.le_refl _) (Nat.le_refl _) rfl (fun φ5 hR5 => ?_)
  obtain ⟨tpq5, hH5, hB5, hc5, hq5, fr5⟩ := hR5
  refine q_if0_s (p2 := 77) rfl (by decide) (by omega) rfl (fun hb => absurd hb (show ¬ (1 = 0) by omega)) (fun _ => ?_)
  refine q_load (v := (6, 0, 0)) (p2 := 78) rfl rfl rfl rfl ?_
  refine q_load (v := (0, j, 0)) (p2 := 79) rfl rfl rfl rfl ?_
  refine q_callrE (xs := [(0, j, 0), (6, 0, 0)]) (p2 := 80) rfl rfl rfl rfl (fun _ _ => rfl) rfl (zc_pn_1_5 hH5 hB5 (by omega) ((hq5 0 (by omega)).trans ((hq4 0 (by omega)).trans hq3_0)) ((hq5 1 (by omega)).trans ((hq4 1 (by omega)).trans hq3_1)) ((hq5 2 (by omega)).trans ((hq4 2 (by omega)).trans hq3_2)) ((hq5 3 (by omega)).trans hc4) hc5) (Nat.le_refl _) (Nat.le_refl _) rfl (fun φ6 hR6 => ?_)
  obtain ⟨tpq6, hH6, hB6, hq6_0, hq6_1, hq6_2, hq6_3, hq6_4, hq6_5, fr6⟩ := hR6
  refine q_if0_s (p2 := 81) rfl (by decide) (by omega) rfl (fun hb => absurd hb (show ¬ (1 = 0) by omega)) (fun _ => ?_)
  refine q_load (v := (6, 0, 0)) (p2 := 82) rfl rfl rfl rfl ?_
  refine q_const (p2 := 83) rfl rfl ?_
  refine q_callrE (xs := [(0, 93, 0), (6, 0, 0)]) (p2 := 84) rfl rfl rfl rfl (fun _ _ => rfl) rfl (zc_put hH6 hB6 (by omega) (by omega)) (Nat.le_refl _) (Nat.le_refl _) rfl (fun φ7 hR7 => ?_)
  obtain ⟨tpq7, hH7, hB7, hc7, hq7, fr7⟩ := hR7
  refine q_if0_s (p2 := 85) rfl (by decide) (by omega) rfl (fun hb => absurd hb (show ¬ (1 = 0) by omega)) (fun _ => ?_)
  refine q_const (p2 := 86) rfl rfl ?_
  refine q_goto rfl ?_
  refine q_store (loc2 := [(6, 0, 0), (0, x, 0), (0, i, 0), (0, j, 0), (0, 1, 0)]) (p2 := 89) rfl rfl rfl rfl rfl ?_
  refine q_load (v := (6, 0, 0)) (p2 := 90) rfl rfl rfl rfl ?_
  refine q_load (v := (0, 1, 0)) (p2 := 91) rfl rfl rfl rfl ?_
  refine q_if0_s (p2 := 92) rfl (by decide) (by omega) rfl (fun hb => absurd hb (show ¬ (1 = 0) by omega)) (fun _ => ?_)
  refine q_load (v := (6, 0, 0)) (p2 := 93) rfl rfl rfl rfl ?_
  refine q_load (v := (0, j, 0)) (p2 := 94) rfl rfl rfl rfl ?_
  refine q_const (p2 := 95) rfl rfl ?_
  have hm8 := (zTJ_at hTJ (fun j h1 h2 => ((fr7 j (by omega) (by omega)).trans ((fr6 j (by omega) (by omega)).trans ((fr5 j (by omega) (by omega)).trans ((fr4 j (by omega) (by omega)).trans ((fr3 j (by omega) (by omega)).trans ((fr2 j (by omega) (by omega)).trans (fr1 j (by omega) (by omega))))))))))
  have hm9 := (zEJ_at hEJ (fun j h1 h2 => ((fr7 j (by omega) (by omega)).trans ((fr6 j (by omega) (by omega)).trans ((fr5 j (by omega) (by omega)).trans ((fr4 j (by omega) (by omega)).trans ((fr3 j (by omega) (by omega)).trans ((fr2 j (by omega) (by omega)).trans (fr1 j (by omega) (by omega))))))))))
  have hm10 := (zq_nm_at hN ((fr7 239 (by decide) (by decide)).trans ((fr6 239 (by decide) (by decide)).trans ((fr5 239 (by decide) (by decide)).trans ((fr4 239 (by decide) (by decide)).trans ((fr3 239 (by decide) (by decide)).trans ((fr2 239 (by decide) (by decide)).trans (fr1 239 (by decide) (by decide)))))))) ((fr7 242 (by decide) (by decide)).trans ((fr6 242 (by decide) (by decide)).trans ((fr5 242 (by decide) (by decide)).trans ((fr4 242 (by decide) (by decide)).trans ((fr3 242 (by decide) (by decide)).trans ((fr2 242 (by decide) (by decide)).trans (fr1 242 (by decide) (by decide)))))))) ((fr7 244 (by decide) (by decide)).trans ((fr6 244 (by decide) (by decide)).trans ((fr5 244 (by decide) (by decide)).trans ((fr4 244 (by decide) (by decide)).trans ((fr3 244 (by decide) (by decide)).trans ((fr2 244 (by decide) (by decide)).trans (fr1 244 (by decide) (by decide)))))))))
  have hm11 := (x_KS_at2 hKS (fun j h1 h2 h3 h4 => ((fr7 j (by omega) (by omega)).trans ((fr6 j (by omega) (by omega)).trans ((fr5 j (by omega) (by omega)).trans ((fr4 j (by omega) (by omega)).trans ((fr3 j (by omega) (by omega)).trans ((fr2 j (by omega) (by omega)).trans (fr1 j (by omega) (by omega))))))))))
  refine x_n_lt (fun hlt13 => ?_)
  have hm12 := (x_PS_at hPS (fun j hj hne => by have hj2 := x_some_lt hlt0 hne; exact ((fr7 j (by omega) (by omega)).trans ((fr6 j (by omega) (by omega)).trans ((fr5 j (by omega) (by omega)).trans ((fr4 j (by omega) (by omega)).trans ((fr3 j (by omega) (by omega)).trans ((fr2 j (by omega) (by omega)).trans (fr1 j (by omega) (by omega))))))))))
  have hm14 := (x_LK_at2 hLK0 (fun j h1 h2 => ((fr7 j (by omega) (by omega)).trans ((fr6 j (by omega) (by omega)).trans ((fr5 j (by omega) (by omega)).trans ((fr4 j (by omega) (by omega)).trans ((fr3 j (by omega) (by omega)).trans ((fr2 j (by omega) (by omega)).trans (fr1 j (by omega) (by omega))))))))))
  have hm15 := (x_SP_at hSP (fun j hj hne => by have hj2 := x_some_lt hlt0 hne; exact ((fr7 j (by omega) (by omega)).trans ((fr6 j (by omega) (by omega)).trans ((fr5 j (by omega) (by omega)).trans ((fr4 j (by omega) (by omega)).trans ((fr3 j (by omega) (by omega)).trans ((fr2 j (by omega) (by omega)).trans (fr1 j (by omega) (by omega))))))))))
  have hm16 := (zq_V5_at hV5 ((fr7 485 (by decide) (by decide)).trans ((fr6 485 (by decide) (by decide)).trans ((fr5 485 (by decide) (by decide)).trans ((fr4 485 (by decide) (by decide)).trans ((fr3 485 (by decide) (by decide)).trans ((fr2 485 (by decide) (by decide)).trans (fr1 485 (by decide) (by decide)))))))))
  have hm17 := (zq_SL_at hSL ((fr7 482 (by decide) (by decide)).trans ((fr6 482 (by decide) (by decide)).trans ((fr5 482 (by decide) (by decide)).trans ((fr4 482 (by decide) (by decide)).trans ((fr3 482 (by decide) (by decide)).trans ((fr2 482 (by decide) (by decide)).trans (fr1 482 (by decide) (by decide)))))))))
  have hm18 := (zq_RW_at hRW ((fr7 483 (by decide) (by decide)).trans ((fr6 483 (by decide) (by decide)).trans ((fr5 483 (by decide) (by decide)).trans ((fr4 483 (by decide) (by decide)).trans ((fr3 483 (by decide) (by decide)).trans ((fr2 483 (by decide) (by decide)).trans (fr1 483 (by decide) (by decide)))))))))
  have hm19 := (zq_J_at hJ ((fr7 468 (by decide) (by decide)).trans ((fr6 468 (by decide) (by decide)).trans ((fr5 468 (by decide) (by decide)).trans ((fr4 468 (by decide) (by decide)).trans ((fr3 468 (by decide) (by decide)).trans ((fr2 468 (by decide) (by decide)).trans (fr1 468 (by decide) (by decide)))))))) ((fr7 469 (by decide) (by decide)).trans ((fr6 469 (by decide) (by decide)).trans ((fr5 469 (by decide) (by decide)).trans ((fr4 469 (by decide) (by decide)).trans ((fr3 469 (by decide) (by decide)).trans ((fr2 469 (by decide) (by decide)).trans (fr1 469 (by decide) (by decide)))))))) ((fr7 470 (by decide) (by decide)).trans ((fr6 470 (by decide) (by decide)).trans ((fr5 470 (by decide) (by decide)).trans ((fr4 470 (by decide) (by decide)).trans ((fr3 470 (by decide) (by decide)).trans ((fr2 470 (by decide) (by decide)).trans (fr1 470 (by decide) (by decide)))))))))
  have hm20 := (zFJ_at hFJ (fun j h1 h2 => ((fr7 j (by omega) (by omega)).trans ((fr6 j (by omega) (by omega)).trans ((fr5 j (by omega) (by omega)).trans ((fr4 j (by omega) (by omega)).trans ((fr3 j (by omega) (by omega)).trans ((fr2 j (by omega) (by omega)).trans (fr1 j (by omega) (by omega))))))))))
  have hm21 := (zWJ_at hWJ (fun j h1 h2 => ((fr7 j (by omega) (by omega)).trans ((fr6 j (by omega) (by omega)).trans ((fr5 j (by omega) (by omega)).trans ((fr4 j (by omega) (by omega)).trans ((fr3 j (by omega) (by omega)).trans ((fr2 j (by omega) (by omega)).trans (fr1 j (by omega) (by omega))))))))))
  have hm22 := (zq_OV_at hOV ((fr7 452 (by decide) (by decide)).trans ((fr6 452 (by decide) (by decide)).trans ((fr5 452 (by decide) (by decide)).trans ((fr4 452 (by decide) (by decide)).trans ((fr3 452 (by decide) (by decide)).trans ((fr2 452 (by decide) (by decide)).trans (fr1 452 (by decide) (by decide)))))))) ((fr7 453 (by decide) (by decide)).trans ((fr6 453 (by decide) (by decide)).trans ((fr5 453 (by decide) (by decide)).trans ((fr4 453 (by decide) (by decide)).trans ((fr3 453 (by decide) (by decide)).trans ((fr2 453 (by decide) (by decide)).trans (fr1 453 (by decide) (by decide)))))))))
  have hGz23 : zG φ7 7 tpq7 lf mi made sv svm comb hm sc sm mh noted verd ins ver sz bw := ⟨⟨_, _, hH7, (x_hw_at hhw (fun j hj hne => by have hj2 := x_some_lt hlt0 hne; exact ((fr7 j (by omega) (by omega)).trans ((fr6 j (by omega) (by omega)).trans ((fr5 j (by omega) (by omega)).trans ((fr4 j (by omega) (by omega)).trans ((fr3 j (by omega) (by omega)).trans ((fr2 j (by omega) (by omega)).trans (fr1 j (by omega) (by omega))))))))))⟩, hB7, hm8, hm9, hm10, ⟨_, ⟨_, _, _, _, _, _, _, _, _, _, hm11⟩, hco⟩, ⟨_, _, _, hm12, hm14⟩, hm15, hm16, ⟨_, hm17⟩, hm18, hm19, hm20, hm21, ⟨_, _, hm22, hovn, hovh⟩⟩
  refine q_callrB (xs := [(0, 1, 0), (0, j, 0), (6, 0, 0)]) (p2 := 96) rfl rfl rfl rfl (x_rcv_s 0 hH7) rfl (zc_set1_yy (x := j) (w1 := i) (w2 := j) hGz23 (by omega) hpv (by omega) (by omega) hisA (((hq7 0 (by omega)).trans hq6_0)) (((hq7 1 (by omega)).trans hq6_1)) (((hq7 2 (by omega)).trans hq6_2)) (((hq7 3 (by omega)).trans hq6_3)) (((hq7 4 (by omega)).trans hq6_4)) (((hq7 5 (by omega)).trans hq6_5)) (hc7) (by omega) (by omega) (by omega) (by omega) (by omega) (by omega) h1 h2 hb1 hb2) rfl (fun w23 φ23 n23 sl23 hn23 hN23 hs23 hT23 hR23 => ?_)
  obtain ⟨hwz23, hGr23⟩ := hR23
  subst hwz23
  have hG := hGr23
  skip
  obtain ⟨⟨hand, ie, hH, hhw⟩, hB, hTJ, hEJ, hN, hKJ, ⟨A, B, s9, hPS, hLK0⟩, hSP, hV5, ⟨slq, hSL⟩, hRW, hJ, hFJ, hWJ, ⟨ovn, ovh, hOV, hovn, hovh⟩⟩ := hG
  refine x_n_lt (fun hlt0 => ?_)
  have hmade := x_PS_lt hPS
  obtain ⟨co, ⟨top_, fr_, pc_, mm, st, lo, re, rs, fl, se, hKS⟩, hco⟩ := hKJ
  refine q_goto rfl ?_
  refine q_callrE (xs := [(0, 6, 0), (6, 0, 0)]) (p2 := 99) rfl rfl rfl rfl (fun _ _ => rfl) rfl (zc_done hH hPS (by omega)) (Nat.le_refl _) (Nat.le_refl _) rfl (fun φ25 hR25 => ?_)
  obtain ⟨hs25_0, fr25⟩ := hR25
  have hm26 := (zq_tp_at hB (fr25 1 (by decide)))
  have hm27 := (zTJ_at hTJ (fun j h1 h2 => (fr25 j (by omega))))
  have hm28 := (zEJ_at hEJ (fun j h1 h2 => (fr25 j (by omega))))
  have hm29 := (zq_nm_at hN (fr25 239 (by decide)) (fr25 242 (by decide)) (fr25 244 (by decide)))
  have hm30 := (x_KS_at2 hKS (fun j h1 h2 h3 h4 => (fr25 j (by omega))))
  refine x_n_lt (fun hlt32 => ?_)
  have hm31 := (x_PS_at hPS (fun j hj hne => by have hj2 := x_some_lt hlt0 hne; exact (fr25 j (by omega))))
  have hm33 := (x_LK_at2 hLK0 (fun j h1 h2 => (fr25 j (by omega))))
  have hm34 := (x_SP_at hSP (fun j hj hne => by have hj2 := x_some_lt hlt0 hne; exact (fr25 j (by omega))))
  have hm35 := (zq_V5_at hV5 (fr25 485 (by decide)))
  have hm36 := (zq_SL_at hSL (fr25 482 (by decide)))
  have hm37 := (zq_RW_at hRW (fr25 483 (by decide)))
  have hm38 := (zq_J_at hJ (fr25 468 (by decide)) (fr25 469 (by decide)) (fr25 470 (by decide)))
  have hm39 := (zFJ_at hFJ (fun j h1 h2 => (fr25 j (by omega))))
  have hm40 := (zWJ_at hWJ (fun j h1 h2 => (fr25 j (by omega))))
  have hm41 := (zq_OV_at hOV (fr25 452 (by decide)) (fr25 453 (by decide)))
  exact q_retv (v := (0, 6, 0)) rfl rfl (⟨rfl, ⟨by omega, by omega⟩, ⟨by omega, by omega⟩, _, rfl, ⟨⟨_, _, hs25_0, (x_hw_at hhw (fun j hj hne => by have hj2 := x_some_lt hlt0 hne; exact (fr25 j (by omega))))⟩, hm26, hm27, hm28, hm29, ⟨_, ⟨_, _, _, _, _, _, _, _, _, _, hm30⟩, hco⟩, ⟨_, _, _, hm31, hm33⟩, hm34, hm35, ⟨_, hm36⟩, hm37, hm38, hm39, hm40, ⟨_, _, hm41, hovn, hovh⟩⟩⟩)
set_option maxHeartbeats 1000000 in
theorem zc_call_12_yy {d n sl : Nat} {φ : FH} {tp : Nat → Nat} {lf : Nat} {mi : Nat} {made : Nat} {sv : Nat} {svm : Nat} {comb : Nat → Nat} {hm : Nat → MV} {sc : Nat → Nat} {sm : Nat → MV} {mh : MV} {noted : Nat} {verd : Nat} {ins : Nat → Nat} {ver : Nat → Nat} {sz : Nat} {bw : Nat → Nat} {x : Nat} {s4 s7 i j : Nat}  (hG : zG φ 0 tp lf mi made sv svm comb hm sc sm mh noted verd ins ver sz bw) (hn0 : 486 ≤ n) (hpv : ∀ i, x_pv2 (hm i)) (hmi : mi + 300 ≤ 20000) (hx32 : x < 4294967296) (hf0 : x >>> 4 = s4) (hf1 : s4 &&& 7 = i) (hf2 : x >>> 7 = s7) (hf3 : s7 &&& 7 = j) (hf4 : x &&& 15 = 12) (hi : i < 8) (hj : j < 8) (h1 : (i < made ∧ comb i ≠ 0)) (h2 : (j < made ∧ comb j ≠ 0)) : x_f x_P (d + 13) 4 [(6, 0, 0), (0, x, 0), (11, 0, 0), (11, 0, 0), (11, 0, 0)] φ n sl (x_bR n sl 3 21 (fun zw φ2 => ∃ tpZ : Nat → Nat, zw = (0, (if x_lk (x_lks made comb hm) made (5, i, 0, 0, []) (5, j, 0, 0, []) then (3, 2, 0, 0, []) else (3, 0, 0, 0, []) : MV).1, 0) ∧ zG φ2 0 tpZ 0 (mi + 3) made sv svm comb hm sc sm (if x_lk (x_lks made comb hm) made (5, i, 0, 0, []) (5, j, 0, 0, []) then (3, 2, 0, 0, []) else (3, 0, 0, 0, [])) noted verd ins ver sz bw)) := by
  refine x_f_of rfl ?_
  have hG0 := hG
  obtain ⟨⟨hand, ie, hH, hhw⟩, hB, hTJ, hEJ, hN, hKJ, ⟨A, B, s9, hPS, hLK0⟩, hSP, hV5, ⟨slq, hSL⟩, hRW, hJ, hFJ, hWJ, ⟨ovn, ovh, hOV, hovn, hovh⟩⟩ := hG
  refine x_n_lt (fun hlt0 => ?_)
  have hmade := x_PS_lt hPS
  obtain ⟨co, ⟨top_, fr_, pc_, mm, st, lo, re, rs, fl, se, hKS⟩, hco⟩ := hKJ
  refine q_load (v := (0, x, 0)) (p2 := 1) rfl rfl rfl rfl ?_
  refine q_const (p2 := 2) rfl rfl ?_
  refine q_iushrz (z := s4) (p2 := 3) rfl (by omega) hf0 rfl ?_
  refine q_const (p2 := 4) rfl rfl ?_
  refine q_iandz (z := i) (p2 := 5) rfl hf1 (by omega) rfl ?_
  refine q_store (loc2 := [(6, 0, 0), (0, x, 0), (0, i, 0), (11, 0, 0), (11, 0, 0)]) (p2 := 6) rfl rfl rfl rfl rfl ?_
  refine q_load (v := (0, x, 0)) (p2 := 7) rfl rfl rfl rfl ?_
  refine q_const (p2 := 8) rfl rfl ?_
  refine q_iushrz (z := s7) (p2 := 9) rfl (by omega) hf2 rfl ?_
  refine q_const (p2 := 10) rfl rfl ?_
  refine q_iandz (z := j) (p2 := 11) rfl hf3 (by omega) rfl ?_
  refine q_store (loc2 := [(6, 0, 0), (0, x, 0), (0, i, 0), (0, j, 0), (11, 0, 0)]) (p2 := 12) rfl rfl rfl rfl rfl ?_
  refine q_const (p2 := 13) rfl rfl ?_
  refine q_store (loc2 := [(6, 0, 0), (0, x, 0), (0, i, 0), (0, j, 0), (0, 1, 0)]) (p2 := 14) rfl rfl rfl rfl rfl ?_
  refine q_load (v := (0, x, 0)) (p2 := 15) rfl rfl rfl rfl ?_
  refine q_const (p2 := 16) rfl rfl ?_
  refine q_iandz (z := 12) (p2 := 17) rfl hf4 (by omega) rfl ?_
  refine q_switch (tgt := 212) rfl (by decide) rfl ?_
  refine q_load (v := (6, 0, 0)) (p2 := 213) rfl rfl rfl rfl ?_
  refine q_const (p2 := 214) rfl rfl ?_
  refine q_callrE (xs := [(0, 35, 0), (6, 0, 0)]) (p2 := 215) rfl rfl rfl rfl (fun _ _ => rfl) rfl (zc_put hH hB (by omega) (by omega)) (Nat.le_refl _) (Nat.le_refl _) rfl (fun φ1 hR1 => ?_)
  obtain ⟨tpq1, hH1, hB1, hc1, hq1, fr1⟩ := hR1
  refine q_if0_s (p2 := 216) rfl (by decide) (by omega) rfl (fun hb => absurd hb (show ¬ (1 = 0) by omega)) (fun _ => ?_)
  refine q_load (v := (6, 0, 0)) (p2 := 217) rfl rfl rfl rfl ?_
  refine q_load (v := (0, i, 0)) (p2 := 218) rfl rfl rfl rfl ?_
  refine q_callrE (xs := [(0, i, 0), (6, 0, 0)]) (p2 := 219) rfl rfl rfl rfl (fun _ _ => rfl) rfl (zc_pn_1_1 hH1 hB1 (by omega) hc1) (Nat.le_refl _) (Nat.le_refl _) rfl (fun φ2 hR2 => ?_)
  obtain ⟨tpq2, hH2, hB2, hq2_0, hq2_1, fr2⟩ := hR2
  refine q_if0_s (p2 := 220) rfl (by decide) (by omega) rfl (fun hb => absurd hb (show ¬ (1 = 0) by omega)) (fun _ => ?_)
  refine q_load (v := (6, 0, 0)) (p2 := 221) rfl rfl rfl rfl ?_
  refine q_const (p2 := 222) rfl rfl ?_
  refine q_callrE (xs := [(0, 61, 0), (6, 0, 0)]) (p2 := 223) rfl rfl rfl rfl (fun _ _ => rfl) rfl (zc_put hH2 hB2 (by omega) (by omega)) (Nat.le_refl _) (Nat.le_refl _) rfl (fun φ3 hR3 => ?_)
  obtain ⟨tpq3, hH3, hB3, hc3, hq3, fr3⟩ := hR3
  refine q_if0_s (p2 := 224) rfl (by decide) (by omega) rfl (fun hb => absurd hb (show ¬ (1 = 0) by omega)) (fun _ => ?_)
  refine q_load (v := (6, 0, 0)) (p2 := 225) rfl rfl rfl rfl ?_
  refine q_const (p2 := 226) rfl rfl ?_
  refine q_callrE (xs := [(0, 35, 0), (6, 0, 0)]) (p2 := 227) rfl rfl rfl rfl (fun _ _ => rfl) rfl (zc_put hH3 hB3 (by omega) (by omega)) (Nat.le_refl _) (Nat.le_refl _) rfl (fun φ4 hR4 => ?_)
  obtain ⟨tpq4, hH4, hB4, hc4, hq4, fr4⟩ := hR4
  refine q_if0_s (p2 := 228) rfl (by decide) (by omega) rfl (fun hb => absurd hb (show ¬ (1 = 0) by omega)) (fun _ => ?_)
  refine q_load (v := (6, 0, 0)) (p2 := 229) rfl rfl rfl rfl ?_
  refine q_load (v := (0, j, 0)) (p2 := 230) rfl rfl rfl rfl ?_
  refine q_callrE (xs := [(0, j, 0), (6, 0, 0)]) (p2 := 231) rfl rfl rfl rfl (fun _ _ => rfl) rfl (zc_pn_1_4 hH4 hB4 (by omega) ((hq4 0 (by omega)).trans ((hq3 0 (by omega)).trans hq2_0)) ((hq4 1 (by omega)).trans ((hq3 1 (by omega)).trans hq2_1)) ((hq4 2 (by omega)).trans hc3) hc4) (Nat.le_refl _) (Nat.le_refl _) rfl (fun φ5 hR5 => ?_)
  obtain ⟨tpq5, hH5, hB5, hq5_0, hq5_1, hq5_2, hq5_3, hq5_4, fr5⟩ := hR5
  refine q_if0_s (p2 := 232) rfl (by decide) (by omega) rfl (fun hb => absurd hb (show ¬ (1 = 0) by omega)) (fun _ => ?_)
  refine q_const (p2 := 233) rfl rfl ?_
  refine q_goto rfl ?_
  refine q_store (loc2 := [(6, 0, 0), (0, x, 0), (0, i, 0), (0, j, 0), (0, 1, 0)]) (p2 := 236) rfl rfl rfl rfl rfl ?_
  refine q_load (v := (6, 0, 0)) (p2 := 237) rfl rfl rfl rfl ?_
  refine q_load (v := (0, 1, 0)) (p2 := 238) rfl rfl rfl rfl ?_
  refine q_if0_s (p2 := 239) rfl (by decide) (by omega) rfl (fun hb => absurd hb (show ¬ (1 = 0) by omega)) (fun _ => ?_)
  refine q_load (v := (6, 0, 0)) (p2 := 240) rfl rfl rfl rfl ?_
  have hm6 := (zTJ_at hTJ (fun j h1 h2 => ((fr5 j (by omega) (by omega)).trans ((fr4 j (by omega) (by omega)).trans ((fr3 j (by omega) (by omega)).trans ((fr2 j (by omega) (by omega)).trans (fr1 j (by omega) (by omega))))))))
  have hm7 := (zEJ_at hEJ (fun j h1 h2 => ((fr5 j (by omega) (by omega)).trans ((fr4 j (by omega) (by omega)).trans ((fr3 j (by omega) (by omega)).trans ((fr2 j (by omega) (by omega)).trans (fr1 j (by omega) (by omega))))))))
  have hm8 := (zq_nm_at hN ((fr5 239 (by decide) (by decide)).trans ((fr4 239 (by decide) (by decide)).trans ((fr3 239 (by decide) (by decide)).trans ((fr2 239 (by decide) (by decide)).trans (fr1 239 (by decide) (by decide)))))) ((fr5 242 (by decide) (by decide)).trans ((fr4 242 (by decide) (by decide)).trans ((fr3 242 (by decide) (by decide)).trans ((fr2 242 (by decide) (by decide)).trans (fr1 242 (by decide) (by decide)))))) ((fr5 244 (by decide) (by decide)).trans ((fr4 244 (by decide) (by decide)).trans ((fr3 244 (by decide) (by decide)).trans ((fr2 244 (by decide) (by decide)).trans (fr1 244 (by decide) (by decide)))))))
  have hm9 := (x_KS_at2 hKS (fun j h1 h2 h3 h4 => ((fr5 j (by omega) (by omega)).trans ((fr4 j (by omega) (by omega)).trans ((fr3 j (by omega) (by omega)).trans ((fr2 j (by omega) (by omega)).trans (fr1 j (by omega) (by omega))))))))
  refine x_n_lt (fun hlt11 => ?_)
  have hm10 := (x_PS_at hPS (fun j hj hne => by have hj2 := x_some_lt hlt0 hne; exact ((fr5 j (by omega) (by omega)).trans ((fr4 j (by omega) (by omega)).trans ((fr3 j (by omega) (by omega)).trans ((fr2 j (by omega) (by omega)).trans (fr1 j (by omega) (by omega))))))))
  have hm12 := (x_LK_at2 hLK0 (fun j h1 h2 => ((fr5 j (by omega) (by omega)).trans ((fr4 j (by omega) (by omega)).trans ((fr3 j (by omega) (by omega)).trans ((fr2 j (by omega) (by omega)).trans (fr1 j (by omega) (by omega))))))))
  have hm13 := (x_SP_at hSP (fun j hj hne => by have hj2 := x_some_lt hlt0 hne; exact ((fr5 j (by omega) (by omega)).trans ((fr4 j (by omega) (by omega)).trans ((fr3 j (by omega) (by omega)).trans ((fr2 j (by omega) (by omega)).trans (fr1 j (by omega) (by omega))))))))
  have hm14 := (zq_V5_at hV5 ((fr5 485 (by decide) (by decide)).trans ((fr4 485 (by decide) (by decide)).trans ((fr3 485 (by decide) (by decide)).trans ((fr2 485 (by decide) (by decide)).trans (fr1 485 (by decide) (by decide)))))))
  have hm15 := (zq_SL_at hSL ((fr5 482 (by decide) (by decide)).trans ((fr4 482 (by decide) (by decide)).trans ((fr3 482 (by decide) (by decide)).trans ((fr2 482 (by decide) (by decide)).trans (fr1 482 (by decide) (by decide)))))))
  have hm16 := (zq_RW_at hRW ((fr5 483 (by decide) (by decide)).trans ((fr4 483 (by decide) (by decide)).trans ((fr3 483 (by decide) (by decide)).trans ((fr2 483 (by decide) (by decide)).trans (fr1 483 (by decide) (by decide)))))))
  have hm17 := (zq_J_at hJ ((fr5 468 (by decide) (by decide)).trans ((fr4 468 (by decide) (by decide)).trans ((fr3 468 (by decide) (by decide)).trans ((fr2 468 (by decide) (by decide)).trans (fr1 468 (by decide) (by decide)))))) ((fr5 469 (by decide) (by decide)).trans ((fr4 469 (by decide) (by decide)).trans ((fr3 469 (by decide) (by decide)).trans ((fr2 469 (by decide) (by decide)).trans (fr1 469 (by decide) (by decide)))))) ((fr5 470 (by decide) (by decide)).trans ((fr4 470 (by decide) (by decide)).trans ((fr3 470 (by decide) (by decide)).trans ((fr2 470 (by decide) (by decide)).trans (fr1 470 (by decide) (by decide)))))))
  have hm18 := (zFJ_at hFJ (fun j h1 h2 => ((fr5 j (by omega) (by omega)).trans ((fr4 j (by omega) (by omega)).trans ((fr3 j (by omega) (by omega)).trans ((fr2 j (by omega) (by omega)).trans (fr1 j (by omega) (by omega))))))))
  have hm19 := (zWJ_at hWJ (fun j h1 h2 => ((fr5 j (by omega) (by omega)).trans ((fr4 j (by omega) (by omega)).trans ((fr3 j (by omega) (by omega)).trans ((fr2 j (by omega) (by omega)).trans (fr1 j (by omega) (by omega))))))))
  have hm20 := (zq_OV_at hOV ((fr5 452 (by decide) (by decide)).trans ((fr4 452 (by decide) (by decide)).trans ((fr3 452 (by decide) (by decide)).trans ((fr2 452 (by decide) (by decide)).trans (fr1 452 (by decide) (by decide)))))) ((fr5 453 (by decide) (by decide)).trans ((fr4 453 (by decide) (by decide)).trans ((fr3 453 (by decide) (by decide)).trans ((fr2 453 (by decide) (by decide)).trans (fr1 453 (by decide) (by decide)))))))
  have hGz21 : zG φ5 5 tpq5 lf mi made sv svm comb hm sc sm mh noted verd ins ver sz bw := ⟨⟨_, _, hH5, (x_hw_at hhw (fun j hj hne => by have hj2 := x_some_lt hlt0 hne; exact ((fr5 j (by omega) (by omega)).trans ((fr4 j (by omega) (by omega)).trans ((fr3 j (by omega) (by omega)).trans ((fr2 j (by omega) (by omega)).trans (fr1 j (by omega) (by omega))))))))⟩, hB5, hm6, hm7, hm8, ⟨_, ⟨_, _, _, _, _, _, _, _, _, _, hm9⟩, hco⟩, ⟨_, _, _, hm10, hm12⟩, hm13, hm14, ⟨_, hm15⟩, hm16, hm17, hm18, hm19, ⟨_, _, hm20, hovn, hovh⟩⟩
  refine q_callrB (xs := [(6, 0, 0)]) (p2 := 241) rfl rfl rfl rfl (x_rcv_s 0 hH5) rfl (zc_work_eq_yy (w1 := i) (w2 := j) hGz21 (by omega) hpv (by omega) (hq5_0) (hq5_1) (hq5_2) (hq5_3) (hq5_4) (by omega) (by omega) (by omega) (by omega) (by omega) (by omega) h1 h2) rfl (fun w21 φ21 n21 sl21 hn21 hN21 hs21 hT21 hR21 => ?_)
  obtain ⟨hwz21, hGr21⟩ := hR21
  subst hwz21
  have hG := hGr21
  skip
  obtain ⟨⟨hand, ie, hH, hhw⟩, hB, hTJ, hEJ, hN, hKJ, ⟨A, B, s9, hPS, hLK0⟩, hSP, hV5, ⟨slq, hSL⟩, hRW, hJ, hFJ, hWJ, ⟨ovn, ovh, hOV, hovn, hovh⟩⟩ := hG
  refine x_n_lt (fun hlt0 => ?_)
  have hmade := x_PS_lt hPS
  obtain ⟨co, ⟨top_, fr_, pc_, mm, st, lo, re, rs, fl, se, hKS⟩, hco⟩ := hKJ
  refine q_goto rfl ?_
  refine q_callrE (xs := [(0, (if x_lk (x_lks made comb hm) made (5, i, 0, 0, []) (5, j, 0, 0, []) then (3, 2, 0, 0, []) else (3, 0, 0, 0, []) : MV).1, 0), (6, 0, 0)]) (p2 := 244) rfl rfl rfl rfl (fun _ _ => rfl) rfl (zc_done hH hPS (by omega)) (Nat.le_refl _) (Nat.le_refl _) rfl (fun φ23 hR23 => ?_)
  obtain ⟨hs23_0, fr23⟩ := hR23
  have hm24 := (zq_tp_at hB (fr23 1 (by decide)))
  have hm25 := (zTJ_at hTJ (fun j h1 h2 => (fr23 j (by omega))))
  have hm26 := (zEJ_at hEJ (fun j h1 h2 => (fr23 j (by omega))))
  have hm27 := (zq_nm_at hN (fr23 239 (by decide)) (fr23 242 (by decide)) (fr23 244 (by decide)))
  have hm28 := (x_KS_at2 hKS (fun j h1 h2 h3 h4 => (fr23 j (by omega))))
  refine x_n_lt (fun hlt30 => ?_)
  have hm29 := (x_PS_at hPS (fun j hj hne => by have hj2 := x_some_lt hlt0 hne; exact (fr23 j (by omega))))
  have hm31 := (x_LK_at2 hLK0 (fun j h1 h2 => (fr23 j (by omega))))
  have hm32 := (x_SP_at hSP (fun j hj hne => by have hj2 := x_some_lt hlt0 hne; exact (fr23 j (by omega))))
  have hm33 := (zq_V5_at hV5 (fr23 485 (by decide)))
  have hm34 := (zq_SL_at hSL (fr23 482 (by decide)))
  have hm35 := (zq_RW_at hRW (fr23 483 (by decide)))
  have hm36 := (zq_J_at hJ (fr23 468 (by decide)) (fr23 469 (by decide)) (fr23 470 (by decide)))
  have hm37 := (zFJ_at hFJ (fun j h1 h2 => (fr23 j (by omega))))
  have hm38 := (zWJ_at hWJ (fun j h1 h2 => (fr23 j (by omega))))
  have hm39 := (zq_OV_at hOV (fr23 452 (by decide)) (fr23 453 (by decide)))
  exact q_retv (v := (0, (if x_lk (x_lks made comb hm) made (5, i, 0, 0, []) (5, j, 0, 0, []) then (3, 2, 0, 0, []) else (3, 0, 0, 0, []) : MV).1, 0)) rfl rfl (⟨rfl, ⟨by omega, by omega⟩, ⟨by omega, by omega⟩, _, rfl, ⟨⟨_, _, hs23_0, (x_hw_at hhw (fun j hj hne => by have hj2 := x_some_lt hlt0 hne; exact (fr23 j (by omega))))⟩, hm24, hm25, hm26, hm27, ⟨_, ⟨_, _, _, _, _, _, _, _, _, _, hm28⟩, hco⟩, ⟨_, _, _, hm29, hm31⟩, hm32, hm33, ⟨_, hm34⟩, hm35, hm36, hm37, hm38, ⟨_, _, hm39, hovn, hovh⟩⟩⟩)
set_option maxHeartbeats 1000000 in
theorem zc_call_5_yn {d n sl : Nat} {φ : FH} {tp : Nat → Nat} {lf : Nat} {mi : Nat} {made : Nat} {sv : Nat} {svm : Nat} {comb : Nat → Nat} {hm : Nat → MV} {sc : Nat → Nat} {sm : Nat → MV} {mh : MV} {noted : Nat} {verd : Nat} {ins : Nat → Nat} {ver : Nat → Nat} {sz : Nat} {bw : Nat → Nat} {x : Nat} {s4 s7 i j : Nat}  (hG : zG φ 0 tp lf mi made sv svm comb hm sc sm mh noted verd ins ver sz bw) (hn0 : 486 ≤ n) (hpv : ∀ i, x_pv2 (hm i)) (hmi : mi + 300 ≤ 20000) (hx32 : x < 4294967296) (hf0 : x >>> 4 = s4) (hf1 : s4 &&& 7 = i) (hf2 : x >>> 7 = s7) (hf3 : s7 &&& 7 = j) (hf4 : x &&& 15 = 5) (hi : i < 8) (hj : j < 8) (hisA : x_isA made comb j 0) (h1 : (i < made ∧ comb i ≠ 0)) (h2 : ¬ (j < made ∧ comb j ≠ 0))  : x_f x_P (d + 20) 4 [(6, 0, 0), (0, x, 0), (11, 0, 0), (11, 0, 0), (11, 0, 0)] φ n sl (x_bR n sl 5 52 (fun zw φ2 => ∃ tpZ : Nat → Nat, zw = (0, 0, 0) ∧ zG φ2 0 tpZ 0 (mi + 3) made sv svm comb (zhm hm (j * 40 + 1) MV0) sc sm mh noted verd ins ver sz bw)) := by
  refine x_f_of rfl ?_
  have hG0 := hG
  obtain ⟨⟨hand, ie, hH, hhw⟩, hB, hTJ, hEJ, hN, hKJ, ⟨A, B, s9, hPS, hLK0⟩, hSP, hV5, ⟨slq, hSL⟩, hRW, hJ, hFJ, hWJ, ⟨ovn, ovh, hOV, hovn, hovh⟩⟩ := hG
  refine x_n_lt (fun hlt0 => ?_)
  have hmade := x_PS_lt hPS
  obtain ⟨co, ⟨top_, fr_, pc_, mm, st, lo, re, rs, fl, se, hKS⟩, hco⟩ := hKJ
  refine q_load (v := (0, x, 0)) (p2 := 1) rfl rfl rfl rfl ?_
  refine q_const (p2 := 2) rfl rfl ?_
  refine q_iushrz (z := s4) (p2 := 3) rfl (by omega) hf0 rfl ?_
  refine q_const (p2 := 4) rfl rfl ?_
  refine q_iandz (z := i) (p2 := 5) rfl hf1 (by omega) rfl ?_
  refine q_store (loc2 := [(6, 0, 0), (0, x, 0), (0, i, 0), (11, 0, 0), (11, 0, 0)]) (p2 := 6) rfl rfl rfl rfl rfl ?_
  refine q_load (v := (0, x, 0)) (p2 := 7) rfl rfl rfl rfl ?_
  refine q_const (p2 := 8) rfl rfl ?_
  refine q_iushrz (z := s7) (p2 := 9) rfl (by omega) hf2 rfl ?_
  refine q_const (p2 := 10) rfl rfl ?_
  refine q_iandz (z := j) (p2 := 11) rfl hf3 (by omega) rfl ?_
  refine q_store (loc2 := [(6, 0, 0), (0, x, 0), (0, i, 0), (0, j, 0), (11, 0, 0)]) (p2 := 12) rfl rfl rfl rfl rfl ?_
  refine q_const (p2 := 13) rfl rfl ?_
  refine q_store (loc2 := [(6, 0, 0), (0, x, 0), (0, i, 0), (0, j, 0), (0, 1, 0)]) (p2 := 14) rfl rfl rfl rfl rfl ?_
  refine q_load (v := (0, x, 0)) (p2 := 15) rfl rfl rfl rfl ?_
  refine q_const (p2 := 16) rfl rfl ?_
  refine q_iandz (z := 5) (p2 := 17) rfl hf4 (by omega) rfl ?_
  refine q_switch (tgt := 57) rfl (by decide) rfl ?_
  refine q_load (v := (6, 0, 0)) (p2 := 58) rfl rfl rfl rfl ?_
  refine q_const (p2 := 59) rfl rfl ?_
  refine q_callrE (xs := [(0, 91, 0), (6, 0, 0)]) (p2 := 60) rfl rfl rfl rfl (fun _ _ => rfl) rfl (zc_put hH hB (by omega) (by omega)) (Nat.le_refl _) (Nat.le_refl _) rfl (fun φ1 hR1 => ?_)
  obtain ⟨tpq1, hH1, hB1, hc1, hq1, fr1⟩ := hR1
  refine q_if0_s (p2 := 61) rfl (by decide) (by omega) rfl (fun hb => absurd hb (show ¬ (1 = 0) by omega)) (fun _ => ?_)
  refine q_load (v := (6, 0, 0)) (p2 := 62) rfl rfl rfl rfl ?_
  refine q_const (p2 := 63) rfl rfl ?_
  refine q_callrE (xs := [(0, 35, 0), (6, 0, 0)]) (p2 := 64) rfl rfl rfl rfl (fun _ _ => rfl) rfl (zc_put hH1 hB1 (by omega) (by omega)) (Nat.le_refl _) (Nat.le_refl _) rfl (fun φ2 hR2 => ?_)
  obtain ⟨tpq2, hH2, hB2, hc2, hq2, fr2⟩ := hR2
  refine q_if0_s (p2 := 65) rfl (by decide) (by omega) rfl (fun hb => absurd hb (show ¬ (1 = 0) by omega)) (fun _ => ?_)
  refine q_load (v := (6, 0, 0)) (p2 := 66) rfl rfl rfl rfl ?_
  refine q_load (v := (0, i, 0)) (p2 := 67) rfl rfl rfl rfl ?_
  refine q_callrE (xs := [(0, i, 0), (6, 0, 0)]) (p2 := 68) rfl rfl rfl rfl (fun _ _ => rfl) rfl (zc_pn_1_2 hH2 hB2 (by omega) ((hq2 0 (by omega)).trans hc1) hc2) (Nat.le_refl _) (Nat.le_refl _) rfl (fun φ3 hR3 => ?_)
  obtain ⟨tpq3, hH3, hB3, hq3_0, hq3_1, hq3_2, fr3⟩ := hR3
  refine q_if0_s (p2 := 69) rfl (by decide) (by omega) rfl (fun hb => absurd hb (show ¬ (1 = 0) by omega)) (fun _ => ?_)
  refine q_load (v := (6, 0, 0)) (p2 := 70) rfl rfl rfl rfl ?_
  refine q_const (p2 := 71) rfl rfl ?_
  refine q_callrE (xs := [(0, 44, 0), (6, 0, 0)]) (p2 := 72) rfl rfl rfl rfl (fun _ _ => rfl) rfl (zc_put hH3 hB3 (by omega) (by omega)) (Nat.le_refl _) (Nat.le_refl _) rfl (fun φ4 hR4 => ?_)
  obtain ⟨tpq4, hH4, hB4, hc4, hq4, fr4⟩ := hR4
  refine q_if0_s (p2 := 73) rfl (by decide) (by omega) rfl (fun hb => absurd hb (show ¬ (1 = 0) by omega)) (fun _ => ?_)
  refine q_load (v := (6, 0, 0)) (p2 := 74) rfl rfl rfl rfl ?_
  refine q_const (p2 := 75) rfl rfl ?_
  refine q_callrE (xs := [(0, 35, 0), (6, 0, 0)]) (p2 := 76) rfl rfl rfl rfl (fun _ _ => rfl) rfl (zc_put hH4 hB4 (by omega) (by omega)) (Nat.le_refl _) (Nat.le_refl _) rfl (fun φ5 hR5 => ?_)
  obtain ⟨tpq5, hH5, hB5, hc5, hq5, fr5⟩ := hR5
  refine q_if0_s (p2 := 77) rfl (by decide) (by omega) rfl (fun hb => absurd hb (show ¬ (1 = 0) by omega)) (fun _ => ?_)
  refine q_load (v := (6, 0, 0)) (p2 := 78) rfl rfl rfl rfl ?_
  refine q_load (v := (0, j, 0)) (p2 := 79) rfl rfl rfl rfl ?_
  refine q_callrE (xs := [(0, j, 0), (6, 0, 0)]) (p2 := 80) rfl rfl rfl rfl (fun _ _ => rfl) rfl (zc_pn_1_5 hH5 hB5 (by omega) ((hq5 0 (by omega)).trans ((hq4 0 (by omega)).trans hq3_0)) ((hq5 1 (by omega)).trans ((hq4 1 (by omega)).trans hq3_1)) ((hq5 2 (by omega)).trans ((hq4 2 (by omega)).trans hq3_2)) ((hq5 3 (by omega)).trans hc4) hc5) (Nat.le_refl _) (Nat.le_refl _) rfl (fun φ6 hR6 => ?_)
  obtain ⟨tpq6, hH6, hB6, hq6_0, hq6_1, hq6_2, hq6_3, hq6_4, hq6_5, fr6⟩ := hR6
  refine q_if0_s (p2 := 81) rfl (by decide) (by omega) rfl (fun hb => absurd hb (show ¬ (1 = 0) by omega)) (fun _ => ?_)
  refine q_load (v := (6, 0, 0)) (p2 := 82) rfl rfl rfl rfl ?_
  refine q_const (p2 := 83) rfl rfl ?_
  refine q_callrE (xs := [(0, 93, 0), (6, 0, 0)]) (p2 := 84) rfl rfl rfl rfl (fun _ _ => rfl) rfl (zc_put hH6 hB6 (by omega) (by omega)) (Nat.le_refl _) (Nat.le_refl _) rfl (fun φ7 hR7 => ?_)
  obtain ⟨tpq7, hH7, hB7, hc7, hq7, fr7⟩ := hR7
  refine q_if0_s (p2 := 85) rfl (by decide) (by omega) rfl (fun hb => absurd hb (show ¬ (1 = 0) by omega)) (fun _ => ?_)
  refine q_const (p2 := 86) rfl rfl ?_
  refine q_goto rfl ?_
  refine q_store (loc2 := [(6, 0, 0), (0, x, 0), (0, i, 0), (0, j, 0), (0, 1, 0)]) (p2 := 89) rfl rfl rfl rfl rfl ?_
  refine q_load (v := (6, 0, 0)) (p2 := 90) rfl rfl rfl rfl ?_
  refine q_load (v := (0, 1, 0)) (p2 := 91) rfl rfl rfl rfl ?_
  refine q_if0_s (p2 := 92) rfl (by decide) (by omega) rfl (fun hb => absurd hb (show ¬ (1 = 0) by omega)) (fun _ => ?_)
  refine q_load (v := (6, 0, 0)) (p2 := 93) rfl rfl rfl rfl ?_
  refine q_load (v := (0, j, 0)) (p2 := 94) rfl rfl rfl rfl ?_
  refine q_const (p2 := 95) rfl rfl ?_
  have hm8 := (zTJ_at hTJ (fun j h1 h2 => ((fr7 j (by omega) (by omega)).trans ((fr6 j (by omega) (by omega)).trans ((fr5 j (by omega) (by omega)).trans ((fr4 j (by omega) (by omega)).trans ((fr3 j (by omega) (by omega)).trans ((fr2 j (by omega) (by omega)).trans (fr1 j (by omega) (by omega))))))))))
  have hm9 := (zEJ_at hEJ (fun j h1 h2 => ((fr7 j (by omega) (by omega)).trans ((fr6 j (by omega) (by omega)).trans ((fr5 j (by omega) (by omega)).trans ((fr4 j (by omega) (by omega)).trans ((fr3 j (by omega) (by omega)).trans ((fr2 j (by omega) (by omega)).trans (fr1 j (by omega) (by omega))))))))))
  have hm10 := (zq_nm_at hN ((fr7 239 (by decide) (by decide)).trans ((fr6 239 (by decide) (by decide)).trans ((fr5 239 (by decide) (by decide)).trans ((fr4 239 (by decide) (by decide)).trans ((fr3 239 (by decide) (by decide)).trans ((fr2 239 (by decide) (by decide)).trans (fr1 239 (by decide) (by decide)))))))) ((fr7 242 (by decide) (by decide)).trans ((fr6 242 (by decide) (by decide)).trans ((fr5 242 (by decide) (by decide)).trans ((fr4 242 (by decide) (by decide)).trans ((fr3 242 (by decide) (by decide)).trans ((fr2 242 (by decide) (by decide)).trans (fr1 242 (by decide) (by decide)))))))) ((fr7 244 (by decide) (by decide)).trans ((fr6 244 (by decide) (by decide)).trans ((fr5 244 (by decide) (by decide)).trans ((fr4 244 (by decide) (by decide)).trans ((fr3 244 (by decide) (by decide)).trans ((fr2 244 (by decide) (by decide)).trans (fr1 244 (by decide) (by decide)))))))))
  have hm11 := (x_KS_at2 hKS (fun j h1 h2 h3 h4 => ((fr7 j (by omega) (by omega)).trans ((fr6 j (by omega) (by omega)).trans ((fr5 j (by omega) (by omega)).trans ((fr4 j (by omega) (by omega)).trans ((fr3 j (by omega) (by omega)).trans ((fr2 j (by omega) (by omega)).trans (fr1 j (by omega) (by omega))))))))))
  refine x_n_lt (fun hlt13 => ?_)
  have hm12 := (x_PS_at hPS (fun j hj hne => by have hj2 := x_some_lt hlt0 hne; exact ((fr7 j (by omega) (by omega)).trans ((fr6 j (by omega) (by omega)).trans ((fr5 j (by omega) (by omega)).trans ((fr4 j (by omega) (by omega)).trans ((fr3 j (by omega) (by omega)).trans ((fr2 j (by omega) (by omega)).trans (fr1 j (by omega) (by omega))))))))))
  have hm14 := (x_LK_at2 hLK0 (fun j h1 h2 => ((fr7 j (by omega) (by omega)).trans ((fr6 j (by omega) (by omega)).trans ((fr5 j (by omega) (by omega)).trans ((fr4 j (by omega) (by omega)).trans ((fr3 j (by omega) (by omega)).trans ((fr2 j (by omega) (by omega)).trans (fr1 j (by omega) (by omega))))))))))
  have hm15 := (x_SP_at hSP (fun j hj hne => by have hj2 := x_some_lt hlt0 hne; exact ((fr7 j (by omega) (by omega)).trans ((fr6 j (by omega) (by omega)).trans ((fr5 j (by omega) (by omega)).trans ((fr4 j (by omega) (by omega)).trans ((fr3 j (by omega) (by omega)).trans ((fr2 j (by omega) (by omega)).trans (fr1 j (by omega) (by omega))))))))))
  have hm16 := (zq_V5_at hV5 ((fr7 485 (by decide) (by decide)).trans ((fr6 485 (by decide) (by decide)).trans ((fr5 485 (by decide) (by decide)).trans ((fr4 485 (by decide) (by decide)).trans ((fr3 485 (by decide) (by decide)).trans ((fr2 485 (by decide) (by decide)).trans (fr1 485 (by decide) (by decide)))))))))
  have hm17 := (zq_SL_at hSL ((fr7 482 (by decide) (by decide)).trans ((fr6 482 (by decide) (by decide)).trans ((fr5 482 (by decide) (by decide)).trans ((fr4 482 (by decide) (by decide)).trans ((fr3 482 (by decide) (by decide)).trans ((fr2 482 (by decide) (by decide)).trans (fr1 482 (by decide) (by decide)))))))))
  have hm18 := (zq_RW_at hRW ((fr7 483 (by decide) (by decide)).trans ((fr6 483 (by decide) (by decide)).trans ((fr5 483 (by decide) (by decide)).trans ((fr4 483 (by decide) (by decide)).trans ((fr3 483 (by decide) (by decide)).trans ((fr2 483 (by decide) (by decide)).trans (fr1 483 (by decide) (by decide)))))))))
  have hm19 := (zq_J_at hJ ((fr7 468 (by decide) (by decide)).trans ((fr6 468 (by decide) (by decide)).trans ((fr5 468 (by decide) (by decide)).trans ((fr4 468 (by decide) (by decide)).trans ((fr3 468 (by decide) (by decide)).trans ((fr2 468 (by decide) (by decide)).trans (fr1 468 (by decide) (by decide)))))))) ((fr7 469 (by decide) (by decide)).trans ((fr6 469 (by decide) (by decide)).trans ((fr5 469 (by decide) (by decide)).trans ((fr4 469 (by decide) (by decide)).trans ((fr3 469 (by decide) (by decide)).trans ((fr2 469 (by decide) (by decide)).trans (fr1 469 (by decide) (by decide)))))))) ((fr7 470 (by decide) (by decide)).trans ((fr6 470 (by decide) (by decide)).trans ((fr5 470 (by decide) (by decide)).trans ((fr4 470 (by decide) (by decide)).trans ((fr3 470 (by decide) (by decide)).trans ((fr2 470 (by decide) (by decide)).trans (fr1 470 (by decide) (by decide)))))))))
  have hm20 := (zFJ_at hFJ (fun j h1 h2 => ((fr7 j (by omega) (by omega)).trans ((fr6 j (by omega) (by omega)).trans ((fr5 j (by omega) (by omega)).trans ((fr4 j (by omega) (by omega)).trans ((fr3 j (by omega) (by omega)).trans ((fr2 j (by omega) (by omega)).trans (fr1 j (by omega) (by omega))))))))))
  have hm21 := (zWJ_at hWJ (fun j h1 h2 => ((fr7 j (by omega) (by omega)).trans ((fr6 j (by omega) (by omega)).trans ((fr5 j (by omega) (by omega)).trans ((fr4 j (by omega) (by omega)).trans ((fr3 j (by omega) (by omega)).trans ((fr2 j (by omega) (by omega)).trans (fr1 j (by omega) (by omega))))))))))
  have hm22 := (zq_OV_at hOV ((fr7 452 (by decide) (by decide)).trans ((fr6 452 (by decide) (by decide)).trans ((fr5 452 (by decide) (by decide)).trans ((fr4 452 (by decide) (by decide)).trans ((fr3 452 (by decide) (by decide)).trans ((fr2 452 (by decide) (by decide)).trans (fr1 452 (by decide) (by decide)))))))) ((fr7 453 (by decide) (by decide)).trans ((fr6 453 (by decide) (by decide)).trans ((fr5 453 (by decide) (by decide)).trans ((fr4 453 (by decide) (by decide)).trans ((fr3 453 (by decide) (by decide)).trans ((fr2 453 (by decide) (by decide)).trans (fr1 453 (by decide) (by decide)))))))))
  have hGz23 : zG φ7 7 tpq7 lf mi made sv svm comb hm sc sm mh noted verd ins ver sz bw := ⟨⟨_, _, hH7, (x_hw_at hhw (fun j hj hne => by have hj2 := x_some_lt hlt0 hne; exact ((fr7 j (by omega) (by omega)).trans ((fr6 j (by omega) (by omega)).trans ((fr5 j (by omega) (by omega)).trans ((fr4 j (by omega) (by omega)).trans ((fr3 j (by omega) (by omega)).trans ((fr2 j (by omega) (by omega)).trans (fr1 j (by omega) (by omega))))))))))⟩, hB7, hm8, hm9, hm10, ⟨_, ⟨_, _, _, _, _, _, _, _, _, _, hm11⟩, hco⟩, ⟨_, _, _, hm12, hm14⟩, hm15, hm16, ⟨_, hm17⟩, hm18, hm19, hm20, hm21, ⟨_, _, hm22, hovn, hovh⟩⟩
  refine q_callrB (xs := [(0, 1, 0), (0, j, 0), (6, 0, 0)]) (p2 := 96) rfl rfl rfl rfl (x_rcv_s 0 hH7) rfl (zc_set1_yn (x := j) (w1 := i) (w2 := j) hGz23 (by omega) hpv (by omega) (by omega) hisA (((hq7 0 (by omega)).trans hq6_0)) (((hq7 1 (by omega)).trans hq6_1)) (((hq7 2 (by omega)).trans hq6_2)) (((hq7 3 (by omega)).trans hq6_3)) (((hq7 4 (by omega)).trans hq6_4)) (((hq7 5 (by omega)).trans hq6_5)) (hc7) (by omega) (by omega) (by omega) (by omega) (by omega) (by omega) h1 h2) rfl (fun w23 φ23 n23 sl23 hn23 hN23 hs23 hT23 hR23 => ?_)
  obtain ⟨hwz23, hGr23⟩ := hR23
  subst hwz23
  have hG := hGr23
  skip
  obtain ⟨⟨hand, ie, hH, hhw⟩, hB, hTJ, hEJ, hN, hKJ, ⟨A, B, s9, hPS, hLK0⟩, hSP, hV5, ⟨slq, hSL⟩, hRW, hJ, hFJ, hWJ, ⟨ovn, ovh, hOV, hovn, hovh⟩⟩ := hG
  refine x_n_lt (fun hlt0 => ?_)
  have hmade := x_PS_lt hPS
  obtain ⟨co, ⟨top_, fr_, pc_, mm, st, lo, re, rs, fl, se, hKS⟩, hco⟩ := hKJ
  refine q_goto rfl ?_
  refine q_callrE (xs := [(0, 0, 0), (6, 0, 0)]) (p2 := 99) rfl rfl rfl rfl (fun _ _ => rfl) rfl (zc_done hH hPS (by omega)) (Nat.le_refl _) (Nat.le_refl _) rfl (fun φ25 hR25 => ?_)
  obtain ⟨hs25_0, fr25⟩ := hR25
  have hm26 := (zq_tp_at hB (fr25 1 (by decide)))
  have hm27 := (zTJ_at hTJ (fun j h1 h2 => (fr25 j (by omega))))
  have hm28 := (zEJ_at hEJ (fun j h1 h2 => (fr25 j (by omega))))
  have hm29 := (zq_nm_at hN (fr25 239 (by decide)) (fr25 242 (by decide)) (fr25 244 (by decide)))
  have hm30 := (x_KS_at2 hKS (fun j h1 h2 h3 h4 => (fr25 j (by omega))))
  refine x_n_lt (fun hlt32 => ?_)
  have hm31 := (x_PS_at hPS (fun j hj hne => by have hj2 := x_some_lt hlt0 hne; exact (fr25 j (by omega))))
  have hm33 := (x_LK_at2 hLK0 (fun j h1 h2 => (fr25 j (by omega))))
  have hm34 := (x_SP_at hSP (fun j hj hne => by have hj2 := x_some_lt hlt0 hne; exact (fr25 j (by omega))))
  have hm35 := (zq_V5_at hV5 (fr25 485 (by decide)))
  have hm36 := (zq_SL_at hSL (fr25 482 (by decide)))
  have hm37 := (zq_RW_at hRW (fr25 483 (by decide)))
  have hm38 := (zq_J_at hJ (fr25 468 (by decide)) (fr25 469 (by decide)) (fr25 470 (by decide)))
  have hm39 := (zFJ_at hFJ (fun j h1 h2 => (fr25 j (by omega))))
  have hm40 := (zWJ_at hWJ (fun j h1 h2 => (fr25 j (by omega))))
  have hm41 := (zq_OV_at hOV (fr25 452 (by decide)) (fr25 453 (by decide)))
  exact q_retv (v := (0, 0, 0)) rfl rfl (⟨rfl, ⟨by omega, by omega⟩, ⟨by omega, by omega⟩, _, rfl, ⟨⟨_, _, hs25_0, (x_hw_at hhw (fun j hj hne => by have hj2 := x_some_lt hlt0 hne; exact (fr25 j (by omega))))⟩, hm26, hm27, hm28, hm29, ⟨_, ⟨_, _, _, _, _, _, _, _, _, _, hm30⟩, hco⟩, ⟨_, _, _, hm31, hm33⟩, hm34, hm35, ⟨_, hm36⟩, hm37, hm38, hm39, hm40, ⟨_, _, hm41, hovn, hovh⟩⟩⟩)
set_option maxHeartbeats 1000000 in
theorem zc_call_12_yn {d n sl : Nat} {φ : FH} {tp : Nat → Nat} {lf : Nat} {mi : Nat} {made : Nat} {sv : Nat} {svm : Nat} {comb : Nat → Nat} {hm : Nat → MV} {sc : Nat → Nat} {sm : Nat → MV} {mh : MV} {noted : Nat} {verd : Nat} {ins : Nat → Nat} {ver : Nat → Nat} {sz : Nat} {bw : Nat → Nat} {x : Nat} {s4 s7 i j : Nat}  (hG : zG φ 0 tp lf mi made sv svm comb hm sc sm mh noted verd ins ver sz bw) (hn0 : 486 ≤ n) (hpv : ∀ i, x_pv2 (hm i)) (hmi : mi + 300 ≤ 20000) (hx32 : x < 4294967296) (hf0 : x >>> 4 = s4) (hf1 : s4 &&& 7 = i) (hf2 : x >>> 7 = s7) (hf3 : s7 &&& 7 = j) (hf4 : x &&& 15 = 12) (hi : i < 8) (hj : j < 8) (h1 : (i < made ∧ comb i ≠ 0)) (h2 : ¬ (j < made ∧ comb j ≠ 0)) : x_f x_P (d + 13) 4 [(6, 0, 0), (0, x, 0), (11, 0, 0), (11, 0, 0), (11, 0, 0)] φ n sl (x_bR n sl 3 21 (fun zw φ2 => ∃ tpZ : Nat → Nat, zw = (0, 3, 0) ∧ zG φ2 0 tpZ 0 (mi + 3) made sv svm comb hm sc sm (3, 1, 0, 0, []) noted verd ins ver sz bw)) := by
  refine x_f_of rfl ?_
  have hG0 := hG
  obtain ⟨⟨hand, ie, hH, hhw⟩, hB, hTJ, hEJ, hN, hKJ, ⟨A, B, s9, hPS, hLK0⟩, hSP, hV5, ⟨slq, hSL⟩, hRW, hJ, hFJ, hWJ, ⟨ovn, ovh, hOV, hovn, hovh⟩⟩ := hG
  refine x_n_lt (fun hlt0 => ?_)
  have hmade := x_PS_lt hPS
  obtain ⟨co, ⟨top_, fr_, pc_, mm, st, lo, re, rs, fl, se, hKS⟩, hco⟩ := hKJ
  refine q_load (v := (0, x, 0)) (p2 := 1) rfl rfl rfl rfl ?_
  refine q_const (p2 := 2) rfl rfl ?_
  refine q_iushrz (z := s4) (p2 := 3) rfl (by omega) hf0 rfl ?_
  refine q_const (p2 := 4) rfl rfl ?_
  refine q_iandz (z := i) (p2 := 5) rfl hf1 (by omega) rfl ?_
  refine q_store (loc2 := [(6, 0, 0), (0, x, 0), (0, i, 0), (11, 0, 0), (11, 0, 0)]) (p2 := 6) rfl rfl rfl rfl rfl ?_
  refine q_load (v := (0, x, 0)) (p2 := 7) rfl rfl rfl rfl ?_
  refine q_const (p2 := 8) rfl rfl ?_
  refine q_iushrz (z := s7) (p2 := 9) rfl (by omega) hf2 rfl ?_
  refine q_const (p2 := 10) rfl rfl ?_
  refine q_iandz (z := j) (p2 := 11) rfl hf3 (by omega) rfl ?_
  refine q_store (loc2 := [(6, 0, 0), (0, x, 0), (0, i, 0), (0, j, 0), (11, 0, 0)]) (p2 := 12) rfl rfl rfl rfl rfl ?_
  refine q_const (p2 := 13) rfl rfl ?_
  refine q_store (loc2 := [(6, 0, 0), (0, x, 0), (0, i, 0), (0, j, 0), (0, 1, 0)]) (p2 := 14) rfl rfl rfl rfl rfl ?_
  refine q_load (v := (0, x, 0)) (p2 := 15) rfl rfl rfl rfl ?_
  refine q_const (p2 := 16) rfl rfl ?_
  refine q_iandz (z := 12) (p2 := 17) rfl hf4 (by omega) rfl ?_
  refine q_switch (tgt := 212) rfl (by decide) rfl ?_
  refine q_load (v := (6, 0, 0)) (p2 := 213) rfl rfl rfl rfl ?_
  refine q_const (p2 := 214) rfl rfl ?_
  refine q_callrE (xs := [(0, 35, 0), (6, 0, 0)]) (p2 := 215) rfl rfl rfl rfl (fun _ _ => rfl) rfl (zc_put hH hB (by omega) (by omega)) (Nat.le_refl _) (Nat.le_refl _) rfl (fun φ1 hR1 => ?_)
  obtain ⟨tpq1, hH1, hB1, hc1, hq1, fr1⟩ := hR1
  refine q_if0_s (p2 := 216) rfl (by decide) (by omega) rfl (fun hb => absurd hb (show ¬ (1 = 0) by omega)) (fun _ => ?_)
  refine q_load (v := (6, 0, 0)) (p2 := 217) rfl rfl rfl rfl ?_
  refine q_load (v := (0, i, 0)) (p2 := 218) rfl rfl rfl rfl ?_
  refine q_callrE (xs := [(0, i, 0), (6, 0, 0)]) (p2 := 219) rfl rfl rfl rfl (fun _ _ => rfl) rfl (zc_pn_1_1 hH1 hB1 (by omega) hc1) (Nat.le_refl _) (Nat.le_refl _) rfl (fun φ2 hR2 => ?_)
  obtain ⟨tpq2, hH2, hB2, hq2_0, hq2_1, fr2⟩ := hR2
  refine q_if0_s (p2 := 220) rfl (by decide) (by omega) rfl (fun hb => absurd hb (show ¬ (1 = 0) by omega)) (fun _ => ?_)
  refine q_load (v := (6, 0, 0)) (p2 := 221) rfl rfl rfl rfl ?_
  refine q_const (p2 := 222) rfl rfl ?_
  refine q_callrE (xs := [(0, 61, 0), (6, 0, 0)]) (p2 := 223) rfl rfl rfl rfl (fun _ _ => rfl) rfl (zc_put hH2 hB2 (by omega) (by omega)) (Nat.le_refl _) (Nat.le_refl _) rfl (fun φ3 hR3 => ?_)
  obtain ⟨tpq3, hH3, hB3, hc3, hq3, fr3⟩ := hR3
  refine q_if0_s (p2 := 224) rfl (by decide) (by omega) rfl (fun hb => absurd hb (show ¬ (1 = 0) by omega)) (fun _ => ?_)
  refine q_load (v := (6, 0, 0)) (p2 := 225) rfl rfl rfl rfl ?_
  refine q_const (p2 := 226) rfl rfl ?_
  refine q_callrE (xs := [(0, 35, 0), (6, 0, 0)]) (p2 := 227) rfl rfl rfl rfl (fun _ _ => rfl) rfl (zc_put hH3 hB3 (by omega) (by omega)) (Nat.le_refl _) (Nat.le_refl _) rfl (fun φ4 hR4 => ?_)
  obtain ⟨tpq4, hH4, hB4, hc4, hq4, fr4⟩ := hR4
  refine q_if0_s (p2 := 228) rfl (by decide) (by omega) rfl (fun hb => absurd hb (show ¬ (1 = 0) by omega)) (fun _ => ?_)
  refine q_load (v := (6, 0, 0)) (p2 := 229) rfl rfl rfl rfl ?_
  refine q_load (v := (0, j, 0)) (p2 := 230) rfl rfl rfl rfl ?_
  refine q_callrE (xs := [(0, j, 0), (6, 0, 0)]) (p2 := 231) rfl rfl rfl rfl (fun _ _ => rfl) rfl (zc_pn_1_4 hH4 hB4 (by omega) ((hq4 0 (by omega)).trans ((hq3 0 (by omega)).trans hq2_0)) ((hq4 1 (by omega)).trans ((hq3 1 (by omega)).trans hq2_1)) ((hq4 2 (by omega)).trans hc3) hc4) (Nat.le_refl _) (Nat.le_refl _) rfl (fun φ5 hR5 => ?_)
  obtain ⟨tpq5, hH5, hB5, hq5_0, hq5_1, hq5_2, hq5_3, hq5_4, fr5⟩ := hR5
  refine q_if0_s (p2 := 232) rfl (by decide) (by omega) rfl (fun hb => absurd hb (show ¬ (1 = 0) by omega)) (fun _ => ?_)
  refine q_const (p2 := 233) rfl rfl ?_
  refine q_goto rfl ?_
  refine q_store (loc2 := [(6, 0, 0), (0, x, 0), (0, i, 0), (0, j, 0), (0, 1, 0)]) (p2 := 236) rfl rfl rfl rfl rfl ?_
  refine q_load (v := (6, 0, 0)) (p2 := 237) rfl rfl rfl rfl ?_
  refine q_load (v := (0, 1, 0)) (p2 := 238) rfl rfl rfl rfl ?_
  refine q_if0_s (p2 := 239) rfl (by decide) (by omega) rfl (fun hb => absurd hb (show ¬ (1 = 0) by omega)) (fun _ => ?_)
  refine q_load (v := (6, 0, 0)) (p2 := 240) rfl rfl rfl rfl ?_
  have hm6 := (zTJ_at hTJ (fun j h1 h2 => ((fr5 j (by omega) (by omega)).trans ((fr4 j (by omega) (by omega)).trans ((fr3 j (by omega) (by omega)).trans ((fr2 j (by omega) (by omega)).trans (fr1 j (by omega) (by omega))))))))
  have hm7 := (zEJ_at hEJ (fun j h1 h2 => ((fr5 j (by omega) (by omega)).trans ((fr4 j (by omega) (by omega)).trans ((fr3 j (by omega) (by omega)).trans ((fr2 j (by omega) (by omega)).trans (fr1 j (by omega) (by omega))))))))
  have hm8 := (zq_nm_at hN ((fr5 239 (by decide) (by decide)).trans ((fr4 239 (by decide) (by decide)).trans ((fr3 239 (by decide) (by decide)).trans ((fr2 239 (by decide) (by decide)).trans (fr1 239 (by decide) (by decide)))))) ((fr5 242 (by decide) (by decide)).trans ((fr4 242 (by decide) (by decide)).trans ((fr3 242 (by decide) (by decide)).trans ((fr2 242 (by decide) (by decide)).trans (fr1 242 (by decide) (by decide)))))) ((fr5 244 (by decide) (by decide)).trans ((fr4 244 (by decide) (by decide)).trans ((fr3 244 (by decide) (by decide)).trans ((fr2 244 (by decide) (by decide)).trans (fr1 244 (by decide) (by decide)))))))
  have hm9 := (x_KS_at2 hKS (fun j h1 h2 h3 h4 => ((fr5 j (by omega) (by omega)).trans ((fr4 j (by omega) (by omega)).trans ((fr3 j (by omega) (by omega)).trans ((fr2 j (by omega) (by omega)).trans (fr1 j (by omega) (by omega))))))))
  refine x_n_lt (fun hlt11 => ?_)
  have hm10 := (x_PS_at hPS (fun j hj hne => by have hj2 := x_some_lt hlt0 hne; exact ((fr5 j (by omega) (by omega)).trans ((fr4 j (by omega) (by omega)).trans ((fr3 j (by omega) (by omega)).trans ((fr2 j (by omega) (by omega)).trans (fr1 j (by omega) (by omega))))))))
  have hm12 := (x_LK_at2 hLK0 (fun j h1 h2 => ((fr5 j (by omega) (by omega)).trans ((fr4 j (by omega) (by omega)).trans ((fr3 j (by omega) (by omega)).trans ((fr2 j (by omega) (by omega)).trans (fr1 j (by omega) (by omega))))))))
  have hm13 := (x_SP_at hSP (fun j hj hne => by have hj2 := x_some_lt hlt0 hne; exact ((fr5 j (by omega) (by omega)).trans ((fr4 j (by omega) (by omega)).trans ((fr3 j (by omega) (by omega)).trans ((fr2 j (by omega) (by omega)).trans (fr1 j (by omega) (by omega))))))))
  have hm14 := (zq_V5_at hV5 ((fr5 485 (by decide) (by decide)).trans ((fr4 485 (by decide) (by decide)).trans ((fr3 485 (by decide) (by decide)).trans ((fr2 485 (by decide) (by decide)).trans (fr1 485 (by decide) (by decide)))))))
  have hm15 := (zq_SL_at hSL ((fr5 482 (by decide) (by decide)).trans ((fr4 482 (by decide) (by decide)).trans ((fr3 482 (by decide) (by decide)).trans ((fr2 482 (by decide) (by decide)).trans (fr1 482 (by decide) (by decide)))))))
  have hm16 := (zq_RW_at hRW ((fr5 483 (by decide) (by decide)).trans ((fr4 483 (by decide) (by decide)).trans ((fr3 483 (by decide) (by decide)).trans ((fr2 483 (by decide) (by decide)).trans (fr1 483 (by decide) (by decide)))))))
  have hm17 := (zq_J_at hJ ((fr5 468 (by decide) (by decide)).trans ((fr4 468 (by decide) (by decide)).trans ((fr3 468 (by decide) (by decide)).trans ((fr2 468 (by decide) (by decide)).trans (fr1 468 (by decide) (by decide)))))) ((fr5 469 (by decide) (by decide)).trans ((fr4 469 (by decide) (by decide)).trans ((fr3 469 (by decide) (by decide)).trans ((fr2 469 (by decide) (by decide)).trans (fr1 469 (by decide) (by decide)))))) ((fr5 470 (by decide) (by decide)).trans ((fr4 470 (by decide) (by decide)).trans ((fr3 470 (by decide) (by decide)).trans ((fr2 470 (by decide) (by decide)).trans (fr1 470 (by decide) (by decide)))))))
  have hm18 := (zFJ_at hFJ (fun j h1 h2 => ((fr5 j (by omega) (by omega)).trans ((fr4 j (by omega) (by omega)).trans ((fr3 j (by omega) (by omega)).trans ((fr2 j (by omega) (by omega)).trans (fr1 j (by omega) (by omega))))))))
  have hm19 := (zWJ_at hWJ (fun j h1 h2 => ((fr5 j (by omega) (by omega)).trans ((fr4 j (by omega) (by omega)).trans ((fr3 j (by omega) (by omega)).trans ((fr2 j (by omega) (by omega)).trans (fr1 j (by omega) (by omega))))))))
  have hm20 := (zq_OV_at hOV ((fr5 452 (by decide) (by decide)).trans ((fr4 452 (by decide) (by decide)).trans ((fr3 452 (by decide) (by decide)).trans ((fr2 452 (by decide) (by decide)).trans (fr1 452 (by decide) (by decide)))))) ((fr5 453 (by decide) (by decide)).trans ((fr4 453 (by decide) (by decide)).trans ((fr3 453 (by decide) (by decide)).trans ((fr2 453 (by decide) (by decide)).trans (fr1 453 (by decide) (by decide)))))))
  have hGz21 : zG φ5 5 tpq5 lf mi made sv svm comb hm sc sm mh noted verd ins ver sz bw := ⟨⟨_, _, hH5, (x_hw_at hhw (fun j hj hne => by have hj2 := x_some_lt hlt0 hne; exact ((fr5 j (by omega) (by omega)).trans ((fr4 j (by omega) (by omega)).trans ((fr3 j (by omega) (by omega)).trans ((fr2 j (by omega) (by omega)).trans (fr1 j (by omega) (by omega))))))))⟩, hB5, hm6, hm7, hm8, ⟨_, ⟨_, _, _, _, _, _, _, _, _, _, hm9⟩, hco⟩, ⟨_, _, _, hm10, hm12⟩, hm13, hm14, ⟨_, hm15⟩, hm16, hm17, hm18, hm19, ⟨_, _, hm20, hovn, hovh⟩⟩
  refine q_callrB (xs := [(6, 0, 0)]) (p2 := 241) rfl rfl rfl rfl (x_rcv_s 0 hH5) rfl (zc_work_eq_yn (w1 := i) (w2 := j) hGz21 (by omega) hpv (by omega) (hq5_0) (hq5_1) (hq5_2) (hq5_3) (hq5_4) (by omega) (by omega) (by omega) (by omega) (by omega) (by omega) h1 h2) rfl (fun w21 φ21 n21 sl21 hn21 hN21 hs21 hT21 hR21 => ?_)
  obtain ⟨hwz21, hGr21⟩ := hR21
  subst hwz21
  have hG := hGr21
  skip
  obtain ⟨⟨hand, ie, hH, hhw⟩, hB, hTJ, hEJ, hN, hKJ, ⟨A, B, s9, hPS, hLK0⟩, hSP, hV5, ⟨slq, hSL⟩, hRW, hJ, hFJ, hWJ, ⟨ovn, ovh, hOV, hovn, hovh⟩⟩ := hG
  refine x_n_lt (fun hlt0 => ?_)
  have hmade := x_PS_lt hPS
  obtain ⟨co, ⟨top_, fr_, pc_, mm, st, lo, re, rs, fl, se, hKS⟩, hco⟩ := hKJ
  refine q_goto rfl ?_
  refine q_callrE (xs := [(0, 3, 0), (6, 0, 0)]) (p2 := 244) rfl rfl rfl rfl (fun _ _ => rfl) rfl (zc_done hH hPS (by omega)) (Nat.le_refl _) (Nat.le_refl _) rfl (fun φ23 hR23 => ?_)
  obtain ⟨hs23_0, fr23⟩ := hR23
  have hm24 := (zq_tp_at hB (fr23 1 (by decide)))
  have hm25 := (zTJ_at hTJ (fun j h1 h2 => (fr23 j (by omega))))
  have hm26 := (zEJ_at hEJ (fun j h1 h2 => (fr23 j (by omega))))
  have hm27 := (zq_nm_at hN (fr23 239 (by decide)) (fr23 242 (by decide)) (fr23 244 (by decide)))
  have hm28 := (x_KS_at2 hKS (fun j h1 h2 h3 h4 => (fr23 j (by omega))))
  refine x_n_lt (fun hlt30 => ?_)
  have hm29 := (x_PS_at hPS (fun j hj hne => by have hj2 := x_some_lt hlt0 hne; exact (fr23 j (by omega))))
  have hm31 := (x_LK_at2 hLK0 (fun j h1 h2 => (fr23 j (by omega))))
  have hm32 := (x_SP_at hSP (fun j hj hne => by have hj2 := x_some_lt hlt0 hne; exact (fr23 j (by omega))))
  have hm33 := (zq_V5_at hV5 (fr23 485 (by decide)))
  have hm34 := (zq_SL_at hSL (fr23 482 (by decide)))
  have hm35 := (zq_RW_at hRW (fr23 483 (by decide)))
  have hm36 := (zq_J_at hJ (fr23 468 (by decide)) (fr23 469 (by decide)) (fr23 470 (by decide)))
  have hm37 := (zFJ_at hFJ (fun j h1 h2 => (fr23 j (by omega))))
  have hm38 := (zWJ_at hWJ (fun j h1 h2 => (fr23 j (by omega))))
  have hm39 := (zq_OV_at hOV (fr23 452 (by decide)) (fr23 453 (by decide)))
  exact q_retv (v := (0, 3, 0)) rfl rfl (⟨rfl, ⟨by omega, by omega⟩, ⟨by omega, by omega⟩, _, rfl, ⟨⟨_, _, hs23_0, (x_hw_at hhw (fun j hj hne => by have hj2 := x_some_lt hlt0 hne; exact (fr23 j (by omega))))⟩, hm24, hm25, hm26, hm27, ⟨_, ⟨_, _, _, _, _, _, _, _, _, _, hm28⟩, hco⟩, ⟨_, _, _, hm29, hm31⟩, hm32, hm33, ⟨_, hm34⟩, hm35, hm36, hm37, hm38, ⟨_, _, hm39, hovn, hovh⟩⟩⟩)
set_option maxHeartbeats 1000000 in
theorem zc_call_6_y {d n sl : Nat} {φ : FH} {tp : Nat → Nat} {lf : Nat} {mi : Nat} {made : Nat} {sv : Nat} {svm : Nat} {comb : Nat → Nat} {hm : Nat → MV} {sc : Nat → Nat} {sm : Nat → MV} {mh : MV} {noted : Nat} {verd : Nat} {ins : Nat → Nat} {ver : Nat → Nat} {sz : Nat} {bw : Nat → Nat} {x : Nat} {s4 s7 i j : Nat}  (hG : zG φ 0 tp lf mi made sv svm comb hm sc sm mh noted verd ins ver sz bw) (hn0 : 486 ≤ n) (hpv : ∀ i, x_pv2 (hm i)) (hmi : mi + 300 ≤ 20000) (hx32 : x < 4294967296) (hf0 : x >>> 4 = s4) (hf1 : s4 &&& 7 = i) (hf2 : x >>> 7 = s7) (hf3 : s7 &&& 7 = j) (hf4 : x &&& 15 = 6) (hi : i < 8) (hj : j < 8) (hisA : x_isA made comb j 1) (h1 : (i < made ∧ comb i ≠ 0)) (hb1 : 1 &&& comb i ≠ 0) : x_f x_P (d + 12) 4 [(6, 0, 0), (0, x, 0), (11, 0, 0), (11, 0, 0), (11, 0, 0)] φ n sl (x_bR n sl 1 7 (fun zw φ2 => ∃ tpZ : Nat → Nat, zw = (0, 5, 0) ∧ zG φ2 0 tpZ 0 (mi + 1) made sv svm comb (zhm hm (j * 40 + 3) (5, i, 0, 0, [])) sc sm mh noted verd ins ver sz bw)) := by
  refine x_f_of rfl ?_
  have hG0 := hG
  obtain ⟨⟨hand, ie, hH, hhw⟩, hB, hTJ, hEJ, hN, hKJ, ⟨A, B, s9, hPS, hLK0⟩, hSP, hV5, ⟨slq, hSL⟩, hRW, hJ, hFJ, hWJ, ⟨ovn, ovh, hOV, hovn, hovh⟩⟩ := hG
  refine x_n_lt (fun hlt0 => ?_)
  have hmade := x_PS_lt hPS
  obtain ⟨co, ⟨top_, fr_, pc_, mm, st, lo, re, rs, fl, se, hKS⟩, hco⟩ := hKJ
  refine q_load (v := (0, x, 0)) (p2 := 1) rfl rfl rfl rfl ?_
  refine q_const (p2 := 2) rfl rfl ?_
  refine q_iushrz (z := s4) (p2 := 3) rfl (by omega) hf0 rfl ?_
  refine q_const (p2 := 4) rfl rfl ?_
  refine q_iandz (z := i) (p2 := 5) rfl hf1 (by omega) rfl ?_
  refine q_store (loc2 := [(6, 0, 0), (0, x, 0), (0, i, 0), (11, 0, 0), (11, 0, 0)]) (p2 := 6) rfl rfl rfl rfl rfl ?_
  refine q_load (v := (0, x, 0)) (p2 := 7) rfl rfl rfl rfl ?_
  refine q_const (p2 := 8) rfl rfl ?_
  refine q_iushrz (z := s7) (p2 := 9) rfl (by omega) hf2 rfl ?_
  refine q_const (p2 := 10) rfl rfl ?_
  refine q_iandz (z := j) (p2 := 11) rfl hf3 (by omega) rfl ?_
  refine q_store (loc2 := [(6, 0, 0), (0, x, 0), (0, i, 0), (0, j, 0), (11, 0, 0)]) (p2 := 12) rfl rfl rfl rfl rfl ?_
  refine q_const (p2 := 13) rfl rfl ?_
  refine q_store (loc2 := [(6, 0, 0), (0, x, 0), (0, i, 0), (0, j, 0), (0, 1, 0)]) (p2 := 14) rfl rfl rfl rfl rfl ?_
  refine q_load (v := (0, x, 0)) (p2 := 15) rfl rfl rfl rfl ?_
  refine q_const (p2 := 16) rfl rfl ?_
  refine q_iandz (z := 6) (p2 := 17) rfl hf4 (by omega) rfl ?_
  refine q_switch (tgt := 100) rfl (by decide) rfl ?_
  refine q_load (v := (6, 0, 0)) (p2 := 101) rfl rfl rfl rfl ?_
  refine q_const (p2 := 102) rfl rfl ?_
  refine q_callrE (xs := [(0, 35, 0), (6, 0, 0)]) (p2 := 103) rfl rfl rfl rfl (fun _ _ => rfl) rfl (zc_put hH hB (by omega) (by omega)) (Nat.le_refl _) (Nat.le_refl _) rfl (fun φ1 hR1 => ?_)
  obtain ⟨tpq1, hH1, hB1, hc1, hq1, fr1⟩ := hR1
  refine q_if0_s (p2 := 104) rfl (by decide) (by omega) rfl (fun hb => absurd hb (show ¬ (1 = 0) by omega)) (fun _ => ?_)
  refine q_load (v := (6, 0, 0)) (p2 := 105) rfl rfl rfl rfl ?_
  refine q_load (v := (0, i, 0)) (p2 := 106) rfl rfl rfl rfl ?_
  refine q_callrE (xs := [(0, i, 0), (6, 0, 0)]) (p2 := 107) rfl rfl rfl rfl (fun _ _ => rfl) rfl (zc_pn_1_1 hH1 hB1 (by omega) hc1) (Nat.le_refl _) (Nat.le_refl _) rfl (fun φ2 hR2 => ?_)
  obtain ⟨tpq2, hH2, hB2, hq2_0, hq2_1, fr2⟩ := hR2
  refine q_if0_s (p2 := 108) rfl (by decide) (by omega) rfl (fun hb => absurd hb (show ¬ (1 = 0) by omega)) (fun _ => ?_)
  refine q_const (p2 := 109) rfl rfl ?_
  refine q_goto rfl ?_
  refine q_store (loc2 := [(6, 0, 0), (0, x, 0), (0, i, 0), (0, j, 0), (0, 1, 0)]) (p2 := 112) rfl rfl rfl rfl rfl ?_
  refine q_load (v := (6, 0, 0)) (p2 := 113) rfl rfl rfl rfl ?_
  refine q_load (v := (0, 1, 0)) (p2 := 114) rfl rfl rfl rfl ?_
  refine q_if0_s (p2 := 115) rfl (by decide) (by omega) rfl (fun hb => absurd hb (show ¬ (1 = 0) by omega)) (fun _ => ?_)
  refine q_load (v := (6, 0, 0)) (p2 := 116) rfl rfl rfl rfl ?_
  refine q_load (v := (0, j, 0)) (p2 := 117) rfl rfl rfl rfl ?_
  refine q_const (p2 := 118) rfl rfl ?_
  have hm3 := (zTJ_at hTJ (fun j h1 h2 => ((fr2 j (by omega) (by omega)).trans (fr1 j (by omega) (by omega)))))
  have hm4 := (zEJ_at hEJ (fun j h1 h2 => ((fr2 j (by omega) (by omega)).trans (fr1 j (by omega) (by omega)))))
  have hm5 := (zq_nm_at hN ((fr2 239 (by decide) (by decide)).trans (fr1 239 (by decide) (by decide))) ((fr2 242 (by decide) (by decide)).trans (fr1 242 (by decide) (by decide))) ((fr2 244 (by decide) (by decide)).trans (fr1 244 (by decide) (by decide))))
  have hm6 := (x_KS_at2 hKS (fun j h1 h2 h3 h4 => ((fr2 j (by omega) (by omega)).trans (fr1 j (by omega) (by omega)))))
  refine x_n_lt (fun hlt8 => ?_)
  have hm7 := (x_PS_at hPS (fun j hj hne => by have hj2 := x_some_lt hlt0 hne; exact ((fr2 j (by omega) (by omega)).trans (fr1 j (by omega) (by omega)))))
  have hm9 := (x_LK_at2 hLK0 (fun j h1 h2 => ((fr2 j (by omega) (by omega)).trans (fr1 j (by omega) (by omega)))))
  have hm10 := (x_SP_at hSP (fun j hj hne => by have hj2 := x_some_lt hlt0 hne; exact ((fr2 j (by omega) (by omega)).trans (fr1 j (by omega) (by omega)))))
  have hm11 := (zq_V5_at hV5 ((fr2 485 (by decide) (by decide)).trans (fr1 485 (by decide) (by decide))))
  have hm12 := (zq_SL_at hSL ((fr2 482 (by decide) (by decide)).trans (fr1 482 (by decide) (by decide))))
  have hm13 := (zq_RW_at hRW ((fr2 483 (by decide) (by decide)).trans (fr1 483 (by decide) (by decide))))
  have hm14 := (zq_J_at hJ ((fr2 468 (by decide) (by decide)).trans (fr1 468 (by decide) (by decide))) ((fr2 469 (by decide) (by decide)).trans (fr1 469 (by decide) (by decide))) ((fr2 470 (by decide) (by decide)).trans (fr1 470 (by decide) (by decide))))
  have hm15 := (zFJ_at hFJ (fun j h1 h2 => ((fr2 j (by omega) (by omega)).trans (fr1 j (by omega) (by omega)))))
  have hm16 := (zWJ_at hWJ (fun j h1 h2 => ((fr2 j (by omega) (by omega)).trans (fr1 j (by omega) (by omega)))))
  have hm17 := (zq_OV_at hOV ((fr2 452 (by decide) (by decide)).trans (fr1 452 (by decide) (by decide))) ((fr2 453 (by decide) (by decide)).trans (fr1 453 (by decide) (by decide))))
  have hGz18 : zG φ2 2 tpq2 lf mi made sv svm comb hm sc sm mh noted verd ins ver sz bw := ⟨⟨_, _, hH2, (x_hw_at hhw (fun j hj hne => by have hj2 := x_some_lt hlt0 hne; exact ((fr2 j (by omega) (by omega)).trans (fr1 j (by omega) (by omega)))))⟩, hB2, hm3, hm4, hm5, ⟨_, ⟨_, _, _, _, _, _, _, _, _, _, hm6⟩, hco⟩, ⟨_, _, _, hm7, hm9⟩, hm10, hm11, ⟨_, hm12⟩, hm13, hm14, hm15, hm16, ⟨_, _, hm17, hovn, hovh⟩⟩
  refine q_callrB (xs := [(0, 3, 0), (0, j, 0), (6, 0, 0)]) (p2 := 119) rfl rfl rfl rfl (x_rcv_s 0 hH2) rfl (zc_set3_y (x := j) (w1 := i) hGz18 (by omega) hpv (by omega) (by omega) hisA (hq2_0) (hq2_1) (by omega) (by omega) (by omega) h1 hb1) rfl (fun w18 φ18 n18 sl18 hn18 hN18 hs18 hT18 hR18 => ?_)
  obtain ⟨hwz18, hGr18⟩ := hR18
  subst hwz18
  have hG := hGr18
  skip
  obtain ⟨⟨hand, ie, hH, hhw⟩, hB, hTJ, hEJ, hN, hKJ, ⟨A, B, s9, hPS, hLK0⟩, hSP, hV5, ⟨slq, hSL⟩, hRW, hJ, hFJ, hWJ, ⟨ovn, ovh, hOV, hovn, hovh⟩⟩ := hG
  refine x_n_lt (fun hlt0 => ?_)
  have hmade := x_PS_lt hPS
  obtain ⟨co, ⟨top_, fr_, pc_, mm, st, lo, re, rs, fl, se, hKS⟩, hco⟩ := hKJ
  refine q_goto rfl ?_
  refine q_callrE (xs := [(0, 5, 0), (6, 0, 0)]) (p2 := 122) rfl rfl rfl rfl (fun _ _ => rfl) rfl (zc_done hH hPS (by omega)) (Nat.le_refl _) (Nat.le_refl _) rfl (fun φ20 hR20 => ?_)
  obtain ⟨hs20_0, fr20⟩ := hR20
  have hm21 := (zq_tp_at hB (fr20 1 (by decide)))
  have hm22 := (zTJ_at hTJ (fun j h1 h2 => (fr20 j (by omega))))
  have hm23 := (zEJ_at hEJ (fun j h1 h2 => (fr20 j (by omega))))
  have hm24 := (zq_nm_at hN (fr20 239 (by decide)) (fr20 242 (by decide)) (fr20 244 (by decide)))
  have hm25 := (x_KS_at2 hKS (fun j h1 h2 h3 h4 => (fr20 j (by omega))))
  refine x_n_lt (fun hlt27 => ?_)
  have hm26 := (x_PS_at hPS (fun j hj hne => by have hj2 := x_some_lt hlt0 hne; exact (fr20 j (by omega))))
  have hm28 := (x_LK_at2 hLK0 (fun j h1 h2 => (fr20 j (by omega))))
  have hm29 := (x_SP_at hSP (fun j hj hne => by have hj2 := x_some_lt hlt0 hne; exact (fr20 j (by omega))))
  have hm30 := (zq_V5_at hV5 (fr20 485 (by decide)))
  have hm31 := (zq_SL_at hSL (fr20 482 (by decide)))
  have hm32 := (zq_RW_at hRW (fr20 483 (by decide)))
  have hm33 := (zq_J_at hJ (fr20 468 (by decide)) (fr20 469 (by decide)) (fr20 470 (by decide)))
  have hm34 := (zFJ_at hFJ (fun j h1 h2 => (fr20 j (by omega))))
  have hm35 := (zWJ_at hWJ (fun j h1 h2 => (fr20 j (by omega))))
  have hm36 := (zq_OV_at hOV (fr20 452 (by decide)) (fr20 453 (by decide)))
  exact q_retv (v := (0, 5, 0)) rfl rfl (⟨rfl, ⟨by omega, by omega⟩, ⟨by omega, by omega⟩, _, rfl, ⟨⟨_, _, hs20_0, (x_hw_at hhw (fun j hj hne => by have hj2 := x_some_lt hlt0 hne; exact (fr20 j (by omega))))⟩, hm21, hm22, hm23, hm24, ⟨_, ⟨_, _, _, _, _, _, _, _, _, _, hm25⟩, hco⟩, ⟨_, _, _, hm26, hm28⟩, hm29, hm30, ⟨_, hm31⟩, hm32, hm33, hm34, hm35, ⟨_, _, hm36, hovn, hovh⟩⟩⟩)
set_option maxHeartbeats 1000000 in
theorem zc_call_7_y {d n sl : Nat} {φ : FH} {tp : Nat → Nat} {lf : Nat} {mi : Nat} {made : Nat} {sv : Nat} {svm : Nat} {comb : Nat → Nat} {hm : Nat → MV} {sc : Nat → Nat} {sm : Nat → MV} {mh : MV} {noted : Nat} {verd : Nat} {ins : Nat → Nat} {ver : Nat → Nat} {sz : Nat} {bw : Nat → Nat} {x : Nat} {s4 s7 i j : Nat}  (hG : zG φ 0 tp lf mi made sv svm comb hm sc sm mh noted verd ins ver sz bw) (hn0 : 486 ≤ n) (hpv : ∀ i, x_pv2 (hm i)) (hmi : mi + 300 ≤ 20000) (hx32 : x < 4294967296) (hf0 : x >>> 4 = s4) (hf1 : s4 &&& 7 = i) (hf2 : x >>> 7 = s7) (hf3 : s7 &&& 7 = j) (hf4 : x &&& 15 = 7) (hi : i < 8) (hj : j < 8) (hisA : x_isA made comb j 1) (h1 : (i < made ∧ comb i ≠ 0)) (hb1 : 1 &&& comb i ≠ 0) : x_f x_P (d + 12) 4 [(6, 0, 0), (0, x, 0), (11, 0, 0), (11, 0, 0), (11, 0, 0)] φ n sl (x_bR n sl 1 7 (fun zw φ2 => ∃ tpZ : Nat → Nat, zw = (0, 5, 0) ∧ zG φ2 0 tpZ 0 (mi + 1) made sv svm comb (zhm hm (j * 40 + 3) (5, i, 0, 0, [])) sc sm mh noted verd ins ver sz bw)) := by
  refine x_f_of rfl ?_
  have hG0 := hG
  obtain ⟨⟨hand, ie, hH, hhw⟩, hB, hTJ, hEJ, hN, hKJ, ⟨A, B, s9, hPS, hLK0⟩, hSP, hV5, ⟨slq, hSL⟩, hRW, hJ, hFJ, hWJ, ⟨ovn, ovh, hOV, hovn, hovh⟩⟩ := hG
  refine x_n_lt (fun hlt0 => ?_)
  have hmade := x_PS_lt hPS
  obtain ⟨co, ⟨top_, fr_, pc_, mm, st, lo, re, rs, fl, se, hKS⟩, hco⟩ := hKJ
  refine q_load (v := (0, x, 0)) (p2 := 1) rfl rfl rfl rfl ?_
  refine q_const (p2 := 2) rfl rfl ?_
  refine q_iushrz (z := s4) (p2 := 3) rfl (by omega) hf0 rfl ?_
  refine q_const (p2 := 4) rfl rfl ?_
  refine q_iandz (z := i) (p2 := 5) rfl hf1 (by omega) rfl ?_
  refine q_store (loc2 := [(6, 0, 0), (0, x, 0), (0, i, 0), (11, 0, 0), (11, 0, 0)]) (p2 := 6) rfl rfl rfl rfl rfl ?_
  refine q_load (v := (0, x, 0)) (p2 := 7) rfl rfl rfl rfl ?_
  refine q_const (p2 := 8) rfl rfl ?_
  refine q_iushrz (z := s7) (p2 := 9) rfl (by omega) hf2 rfl ?_
  refine q_const (p2 := 10) rfl rfl ?_
  refine q_iandz (z := j) (p2 := 11) rfl hf3 (by omega) rfl ?_
  refine q_store (loc2 := [(6, 0, 0), (0, x, 0), (0, i, 0), (0, j, 0), (11, 0, 0)]) (p2 := 12) rfl rfl rfl rfl rfl ?_
  refine q_const (p2 := 13) rfl rfl ?_
  refine q_store (loc2 := [(6, 0, 0), (0, x, 0), (0, i, 0), (0, j, 0), (0, 1, 0)]) (p2 := 14) rfl rfl rfl rfl rfl ?_
  refine q_load (v := (0, x, 0)) (p2 := 15) rfl rfl rfl rfl ?_
  refine q_const (p2 := 16) rfl rfl ?_
  refine q_iandz (z := 7) (p2 := 17) rfl hf4 (by omega) rfl ?_
  refine q_switch (tgt := 100) rfl (by decide) rfl ?_
  refine q_load (v := (6, 0, 0)) (p2 := 101) rfl rfl rfl rfl ?_
  refine q_const (p2 := 102) rfl rfl ?_
  refine q_callrE (xs := [(0, 35, 0), (6, 0, 0)]) (p2 := 103) rfl rfl rfl rfl (fun _ _ => rfl) rfl (zc_put hH hB (by omega) (by omega)) (Nat.le_refl _) (Nat.le_refl _) rfl (fun φ1 hR1 => ?_)
  obtain ⟨tpq1, hH1, hB1, hc1, hq1, fr1⟩ := hR1
  refine q_if0_s (p2 := 104) rfl (by decide) (by omega) rfl (fun hb => absurd hb (show ¬ (1 = 0) by omega)) (fun _ => ?_)
  refine q_load (v := (6, 0, 0)) (p2 := 105) rfl rfl rfl rfl ?_
  refine q_load (v := (0, i, 0)) (p2 := 106) rfl rfl rfl rfl ?_
  refine q_callrE (xs := [(0, i, 0), (6, 0, 0)]) (p2 := 107) rfl rfl rfl rfl (fun _ _ => rfl) rfl (zc_pn_1_1 hH1 hB1 (by omega) hc1) (Nat.le_refl _) (Nat.le_refl _) rfl (fun φ2 hR2 => ?_)
  obtain ⟨tpq2, hH2, hB2, hq2_0, hq2_1, fr2⟩ := hR2
  refine q_if0_s (p2 := 108) rfl (by decide) (by omega) rfl (fun hb => absurd hb (show ¬ (1 = 0) by omega)) (fun _ => ?_)
  refine q_const (p2 := 109) rfl rfl ?_
  refine q_goto rfl ?_
  refine q_store (loc2 := [(6, 0, 0), (0, x, 0), (0, i, 0), (0, j, 0), (0, 1, 0)]) (p2 := 112) rfl rfl rfl rfl rfl ?_
  refine q_load (v := (6, 0, 0)) (p2 := 113) rfl rfl rfl rfl ?_
  refine q_load (v := (0, 1, 0)) (p2 := 114) rfl rfl rfl rfl ?_
  refine q_if0_s (p2 := 115) rfl (by decide) (by omega) rfl (fun hb => absurd hb (show ¬ (1 = 0) by omega)) (fun _ => ?_)
  refine q_load (v := (6, 0, 0)) (p2 := 116) rfl rfl rfl rfl ?_
  refine q_load (v := (0, j, 0)) (p2 := 117) rfl rfl rfl rfl ?_
  refine q_const (p2 := 118) rfl rfl ?_
  have hm3 := (zTJ_at hTJ (fun j h1 h2 => ((fr2 j (by omega) (by omega)).trans (fr1 j (by omega) (by omega)))))
  have hm4 := (zEJ_at hEJ (fun j h1 h2 => ((fr2 j (by omega) (by omega)).trans (fr1 j (by omega) (by omega)))))
  have hm5 := (zq_nm_at hN ((fr2 239 (by decide) (by decide)).trans (fr1 239 (by decide) (by decide))) ((fr2 242 (by decide) (by decide)).trans (fr1 242 (by decide) (by decide))) ((fr2 244 (by decide) (by decide)).trans (fr1 244 (by decide) (by decide))))
  have hm6 := (x_KS_at2 hKS (fun j h1 h2 h3 h4 => ((fr2 j (by omega) (by omega)).trans (fr1 j (by omega) (by omega)))))
  refine x_n_lt (fun hlt8 => ?_)
  have hm7 := (x_PS_at hPS (fun j hj hne => by have hj2 := x_some_lt hlt0 hne; exact ((fr2 j (by omega) (by omega)).trans (fr1 j (by omega) (by omega)))))
  have hm9 := (x_LK_at2 hLK0 (fun j h1 h2 => ((fr2 j (by omega) (by omega)).trans (fr1 j (by omega) (by omega)))))
  have hm10 := (x_SP_at hSP (fun j hj hne => by have hj2 := x_some_lt hlt0 hne; exact ((fr2 j (by omega) (by omega)).trans (fr1 j (by omega) (by omega)))))
  have hm11 := (zq_V5_at hV5 ((fr2 485 (by decide) (by decide)).trans (fr1 485 (by decide) (by decide))))
  have hm12 := (zq_SL_at hSL ((fr2 482 (by decide) (by decide)).trans (fr1 482 (by decide) (by decide))))
  have hm13 := (zq_RW_at hRW ((fr2 483 (by decide) (by decide)).trans (fr1 483 (by decide) (by decide))))
  have hm14 := (zq_J_at hJ ((fr2 468 (by decide) (by decide)).trans (fr1 468 (by decide) (by decide))) ((fr2 469 (by decide) (by decide)).trans (fr1 469 (by decide) (by decide))) ((fr2 470 (by decide) (by decide)).trans (fr1 470 (by decide) (by decide))))
  have hm15 := (zFJ_at hFJ (fun j h1 h2 => ((fr2 j (by omega) (by omega)).trans (fr1 j (by omega) (by omega)))))
  have hm16 := (zWJ_at hWJ (fun j h1 h2 => ((fr2 j (by omega) (by omega)).trans (fr1 j (by omega) (by omega)))))
  have hm17 := (zq_OV_at hOV ((fr2 452 (by decide) (by decide)).trans (fr1 452 (by decide) (by decide))) ((fr2 453 (by decide) (by decide)).trans (fr1 453 (by decide) (by decide))))
  have hGz18 : zG φ2 2 tpq2 lf mi made sv svm comb hm sc sm mh noted verd ins ver sz bw := ⟨⟨_, _, hH2, (x_hw_at hhw (fun j hj hne => by have hj2 := x_some_lt hlt0 hne; exact ((fr2 j (by omega) (by omega)).trans (fr1 j (by omega) (by omega)))))⟩, hB2, hm3, hm4, hm5, ⟨_, ⟨_, _, _, _, _, _, _, _, _, _, hm6⟩, hco⟩, ⟨_, _, _, hm7, hm9⟩, hm10, hm11, ⟨_, hm12⟩, hm13, hm14, hm15, hm16, ⟨_, _, hm17, hovn, hovh⟩⟩
  refine q_callrB (xs := [(0, 3, 0), (0, j, 0), (6, 0, 0)]) (p2 := 119) rfl rfl rfl rfl (x_rcv_s 0 hH2) rfl (zc_set3_y (x := j) (w1 := i) hGz18 (by omega) hpv (by omega) (by omega) hisA (hq2_0) (hq2_1) (by omega) (by omega) (by omega) h1 hb1) rfl (fun w18 φ18 n18 sl18 hn18 hN18 hs18 hT18 hR18 => ?_)
  obtain ⟨hwz18, hGr18⟩ := hR18
  subst hwz18
  have hG := hGr18
  skip
  obtain ⟨⟨hand, ie, hH, hhw⟩, hB, hTJ, hEJ, hN, hKJ, ⟨A, B, s9, hPS, hLK0⟩, hSP, hV5, ⟨slq, hSL⟩, hRW, hJ, hFJ, hWJ, ⟨ovn, ovh, hOV, hovn, hovh⟩⟩ := hG
  refine x_n_lt (fun hlt0 => ?_)
  have hmade := x_PS_lt hPS
  obtain ⟨co, ⟨top_, fr_, pc_, mm, st, lo, re, rs, fl, se, hKS⟩, hco⟩ := hKJ
  refine q_goto rfl ?_
  refine q_callrE (xs := [(0, 5, 0), (6, 0, 0)]) (p2 := 122) rfl rfl rfl rfl (fun _ _ => rfl) rfl (zc_done hH hPS (by omega)) (Nat.le_refl _) (Nat.le_refl _) rfl (fun φ20 hR20 => ?_)
  obtain ⟨hs20_0, fr20⟩ := hR20
  have hm21 := (zq_tp_at hB (fr20 1 (by decide)))
  have hm22 := (zTJ_at hTJ (fun j h1 h2 => (fr20 j (by omega))))
  have hm23 := (zEJ_at hEJ (fun j h1 h2 => (fr20 j (by omega))))
  have hm24 := (zq_nm_at hN (fr20 239 (by decide)) (fr20 242 (by decide)) (fr20 244 (by decide)))
  have hm25 := (x_KS_at2 hKS (fun j h1 h2 h3 h4 => (fr20 j (by omega))))
  refine x_n_lt (fun hlt27 => ?_)
  have hm26 := (x_PS_at hPS (fun j hj hne => by have hj2 := x_some_lt hlt0 hne; exact (fr20 j (by omega))))
  have hm28 := (x_LK_at2 hLK0 (fun j h1 h2 => (fr20 j (by omega))))
  have hm29 := (x_SP_at hSP (fun j hj hne => by have hj2 := x_some_lt hlt0 hne; exact (fr20 j (by omega))))
  have hm30 := (zq_V5_at hV5 (fr20 485 (by decide)))
  have hm31 := (zq_SL_at hSL (fr20 482 (by decide)))
  have hm32 := (zq_RW_at hRW (fr20 483 (by decide)))
  have hm33 := (zq_J_at hJ (fr20 468 (by decide)) (fr20 469 (by decide)) (fr20 470 (by decide)))
  have hm34 := (zFJ_at hFJ (fun j h1 h2 => (fr20 j (by omega))))
  have hm35 := (zWJ_at hWJ (fun j h1 h2 => (fr20 j (by omega))))
  have hm36 := (zq_OV_at hOV (fr20 452 (by decide)) (fr20 453 (by decide)))
  exact q_retv (v := (0, 5, 0)) rfl rfl (⟨rfl, ⟨by omega, by omega⟩, ⟨by omega, by omega⟩, _, rfl, ⟨⟨_, _, hs20_0, (x_hw_at hhw (fun j hj hne => by have hj2 := x_some_lt hlt0 hne; exact (fr20 j (by omega))))⟩, hm21, hm22, hm23, hm24, ⟨_, ⟨_, _, _, _, _, _, _, _, _, _, hm25⟩, hco⟩, ⟨_, _, _, hm26, hm28⟩, hm29, hm30, ⟨_, hm31⟩, hm32, hm33, hm34, hm35, ⟨_, _, hm36, hovn, hovh⟩⟩⟩)
set_option maxHeartbeats 1000000 in
theorem zc_call_11_y {d n sl : Nat} {φ : FH} {tp : Nat → Nat} {lf : Nat} {mi : Nat} {made : Nat} {sv : Nat} {svm : Nat} {comb : Nat → Nat} {hm : Nat → MV} {sc : Nat → Nat} {sm : Nat → MV} {mh : MV} {noted : Nat} {verd : Nat} {ins : Nat → Nat} {ver : Nat → Nat} {sz : Nat} {bw : Nat → Nat} {x : Nat} {s4 s7 i j : Nat}  (hG : zG φ 0 tp lf mi made sv svm comb hm sc sm mh noted verd ins ver sz bw) (hn0 : 486 ≤ n) (hpv : ∀ i, x_pv2 (hm i)) (hmi : mi + 300 ≤ 20000) (hx32 : x < 4294967296) (hf0 : x >>> 4 = s4) (hf1 : s4 &&& 7 = i) (hf2 : x >>> 7 = s7) (hf3 : s7 &&& 7 = j) (hf4 : x &&& 15 = 11) (hi : i < 8) (hj : j < 8) (h1 : (i < made ∧ comb i ≠ 0)) : x_f x_P (d + 21) 4 [(6, 0, 0), (0, x, 0), (11, 0, 0), (11, 0, 0), (11, 0, 0)] φ n sl (x_bR n sl 4 62 (fun zw φ2 => ∃ tpZ : Nat → Nat, zw = (0, (if (x_al comb hm i (made * 40)).length ≤ 24 then (6, 0, 2, 5, (x_al comb hm i (made * 40))) else MV0 : MV).1, 0) ∧ zG φ2 0 tpZ 0 (mi + 2) made sv svm comb hm sc sm (if (x_al comb hm i (made * 40)).length ≤ 24 then (6, 0, 2, 5, (x_al comb hm i (made * 40))) else MV0) noted verd ins ver sz bw)) := by
  refine x_f_of rfl ?_
  have hG0 := hG
  obtain ⟨⟨hand, ie, hH, hhw⟩, hB, hTJ, hEJ, hN, hKJ, ⟨A, B, s9, hPS, hLK0⟩, hSP, hV5, ⟨slq, hSL⟩, hRW, hJ, hFJ, hWJ, ⟨ovn, ovh, hOV, hovn, hovh⟩⟩ := hG
  refine x_n_lt (fun hlt0 => ?_)
  have hmade := x_PS_lt hPS
  obtain ⟨co, ⟨top_, fr_, pc_, mm, st, lo, re, rs, fl, se, hKS⟩, hco⟩ := hKJ
  refine q_load (v := (0, x, 0)) (p2 := 1) rfl rfl rfl rfl ?_
  refine q_const (p2 := 2) rfl rfl ?_
  refine q_iushrz (z := s4) (p2 := 3) rfl (by omega) hf0 rfl ?_
  refine q_const (p2 := 4) rfl rfl ?_
  refine q_iandz (z := i) (p2 := 5) rfl hf1 (by omega) rfl ?_
  refine q_store (loc2 := [(6, 0, 0), (0, x, 0), (0, i, 0), (11, 0, 0), (11, 0, 0)]) (p2 := 6) rfl rfl rfl rfl rfl ?_
  refine q_load (v := (0, x, 0)) (p2 := 7) rfl rfl rfl rfl ?_
  refine q_const (p2 := 8) rfl rfl ?_
  refine q_iushrz (z := s7) (p2 := 9) rfl (by omega) hf2 rfl ?_
  refine q_const (p2 := 10) rfl rfl ?_
  refine q_iandz (z := j) (p2 := 11) rfl hf3 (by omega) rfl ?_
  refine q_store (loc2 := [(6, 0, 0), (0, x, 0), (0, i, 0), (0, j, 0), (11, 0, 0)]) (p2 := 12) rfl rfl rfl rfl rfl ?_
  refine q_const (p2 := 13) rfl rfl ?_
  refine q_store (loc2 := [(6, 0, 0), (0, x, 0), (0, i, 0), (0, j, 0), (0, 1, 0)]) (p2 := 14) rfl rfl rfl rfl rfl ?_
  refine q_load (v := (0, x, 0)) (p2 := 15) rfl rfl rfl rfl ?_
  refine q_const (p2 := 16) rfl rfl ?_
  refine q_iandz (z := 11) (p2 := 17) rfl hf4 (by omega) rfl ?_
  refine q_switch (tgt := 179) rfl (by decide) rfl ?_
  refine q_load (v := (6, 0, 0)) (p2 := 180) rfl rfl rfl rfl ?_
  refine q_const (p2 := 181) rfl rfl ?_
  refine q_const (p2 := 182) rfl rfl ?_
  refine q_const (p2 := 183) rfl rfl ?_
  refine q_const (p2 := 184) rfl rfl ?_
  refine q_const (p2 := 185) rfl rfl ?_
  refine q_callrE (xs := [(0, 538976288, 0), (0, 538976288, 0), (0, 538976288, 0), (0, 1768826915, 0), (0, 1970496868, 0), (6, 0, 0)]) (p2 := 186) rfl rfl rfl rfl (x_rcv_s 0 hH) rfl (zc_h_feed_used hH hB) (Nat.le_refl _) (Nat.le_refl _) rfl (fun φ1 hR1 => ?_)
  obtain ⟨hs1_0, hs1_1, fr1⟩ := hR1
  refine q_if0_s (p2 := 187) rfl (by decide) (by omega) rfl (fun hb => absurd hb (show ¬ (20 < 0) by omega)) (fun _ => ?_)
  refine q_load (v := (6, 0, 0)) (p2 := 188) rfl rfl rfl rfl ?_
  refine q_const (p2 := 189) rfl rfl ?_
  refine q_callrE (xs := [(0, 12, 0), (6, 0, 0)]) (p2 := 190) rfl rfl rfl rfl (x_rcv_s 0 hs1_0) rfl (zc_h_cut hs1_0 (by omega)) (Nat.le_refl _) (Nat.le_refl _) rfl (fun φ2 hR2 => ?_)
  obtain ⟨hs2_0, fr2⟩ := hR2
  refine q_if0_s (p2 := 191) rfl (by decide) (by omega) rfl (fun hb => absurd hb (show ¬ (8 < 0) by omega)) (fun _ => ?_)
  refine q_load (v := (6, 0, 0)) (p2 := 192) rfl rfl rfl rfl ?_
  refine q_load (v := (0, i, 0)) (p2 := 193) rfl rfl rfl rfl ?_
  have hm3 := (zq_tp_at hs1_1 (fr2 1 (by decide)))
  refine q_callrE (xs := [(0, i, 0), (6, 0, 0)]) (p2 := 194) rfl rfl rfl rfl (fun _ _ => rfl) rfl (zc_pn_1_8 hs2_0 hm3 (by omega) ((x_s_ne (by decide)).trans ((x_s_ne (by decide)).trans ((x_s_ne (by decide)).trans ((x_s_ne (by decide)).trans ((x_s_ne (by decide)).trans ((x_s_ne (by decide)).trans ((x_s_ne (by decide)).trans ((x_s_ne (by decide)).trans ((x_s_ne (by decide)).trans ((x_s_ne (by decide)).trans ((x_s_ne (by decide)).trans ((x_s_ne (by decide)).trans ((x_s_ne (by decide)).trans ((x_s_ne (by decide)).trans ((x_s_ne (by decide)).trans ((x_s_ne (by decide)).trans ((x_s_ne (by decide)).trans ((x_s_ne (by decide)).trans ((x_s_ne (by decide)).trans (x_s_eq)))))))))))))))))))) ((x_s_ne (by decide)).trans ((x_s_ne (by decide)).trans ((x_s_ne (by decide)).trans ((x_s_ne (by decide)).trans ((x_s_ne (by decide)).trans ((x_s_ne (by decide)).trans ((x_s_ne (by decide)).trans ((x_s_ne (by decide)).trans ((x_s_ne (by decide)).trans ((x_s_ne (by decide)).trans ((x_s_ne (by decide)).trans ((x_s_ne (by decide)).trans ((x_s_ne (by decide)).trans ((x_s_ne (by decide)).trans ((x_s_ne (by decide)).trans ((x_s_ne (by decide)).trans ((x_s_ne (by decide)).trans ((x_s_ne (by decide)).trans (x_s_eq))))))))))))))))))) ((x_s_ne (by decide)).trans ((x_s_ne (by decide)).trans ((x_s_ne (by decide)).trans ((x_s_ne (by decide)).trans ((x_s_ne (by decide)).trans ((x_s_ne (by decide)).trans ((x_s_ne (by decide)).trans ((x_s_ne (by decide)).trans ((x_s_ne (by decide)).trans ((x_s_ne (by decide)).trans ((x_s_ne (by decide)).trans ((x_s_ne (by decide)).trans ((x_s_ne (by decide)).trans ((x_s_ne (by decide)).trans ((x_s_ne (by decide)).trans ((x_s_ne (by decide)).trans ((x_s_ne (by decide)).trans (x_s_eq)))))))))))))))))) ((x_s_ne (by decide)).trans ((x_s_ne (by decide)).trans ((x_s_ne (by decide)).trans ((x_s_ne (by decide)).trans ((x_s_ne (by decide)).trans ((x_s_ne (by decide)).trans ((x_s_ne (by decide)).trans ((x_s_ne (by decide)).trans ((x_s_ne (by decide)).trans ((x_s_ne (by decide)).trans ((x_s_ne (by decide)).trans ((x_s_ne (by decide)).trans ((x_s_ne (by decide)).trans ((x_s_ne (by decide)).trans ((x_s_ne (by decide)).trans ((x_s_ne (by decide)).trans (x_s_eq))))))))))))))))) ((x_s_ne (by decide)).trans ((x_s_ne (by decide)).trans ((x_s_ne (by decide)).trans ((x_s_ne (by decide)).trans ((x_s_ne (by decide)).trans ((x_s_ne (by decide)).trans ((x_s_ne (by decide)).trans ((x_s_ne (by decide)).trans ((x_s_ne (by decide)).trans ((x_s_ne (by decide)).trans ((x_s_ne (by decide)).trans ((x_s_ne (by decide)).trans ((x_s_ne (by decide)).trans ((x_s_ne (by decide)).trans ((x_s_ne (by decide)).trans (x_s_eq)))))))))))))))) ((x_s_ne (by decide)).trans ((x_s_ne (by decide)).trans ((x_s_ne (by decide)).trans ((x_s_ne (by decide)).trans ((x_s_ne (by decide)).trans ((x_s_ne (by decide)).trans ((x_s_ne (by decide)).trans ((x_s_ne (by decide)).trans ((x_s_ne (by decide)).trans ((x_s_ne (by decide)).trans ((x_s_ne (by decide)).trans ((x_s_ne (by decide)).trans ((x_s_ne (by decide)).trans ((x_s_ne (by decide)).trans (x_s_eq))))))))))))))) ((x_s_ne (by decide)).trans ((x_s_ne (by decide)).trans ((x_s_ne (by decide)).trans ((x_s_ne (by decide)).trans ((x_s_ne (by decide)).trans ((x_s_ne (by decide)).trans ((x_s_ne (by decide)).trans ((x_s_ne (by decide)).trans ((x_s_ne (by decide)).trans ((x_s_ne (by decide)).trans ((x_s_ne (by decide)).trans ((x_s_ne (by decide)).trans ((x_s_ne (by decide)).trans (x_s_eq)))))))))))))) ((x_s_ne (by decide)).trans ((x_s_ne (by decide)).trans ((x_s_ne (by decide)).trans ((x_s_ne (by decide)).trans ((x_s_ne (by decide)).trans ((x_s_ne (by decide)).trans ((x_s_ne (by decide)).trans ((x_s_ne (by decide)).trans ((x_s_ne (by decide)).trans ((x_s_ne (by decide)).trans ((x_s_ne (by decide)).trans ((x_s_ne (by decide)).trans (x_s_eq)))))))))))))) (Nat.le_refl _) (Nat.le_refl _) rfl (fun φ4 hR4 => ?_)
  obtain ⟨tpq4, hH4, hB4, hq4_0, hq4_1, hq4_2, hq4_3, hq4_4, hq4_5, hq4_6, hq4_7, hq4_8, fr4⟩ := hR4
  refine q_if0_s (p2 := 195) rfl (by decide) (by omega) rfl (fun hb => absurd hb (show ¬ (1 = 0) by omega)) (fun _ => ?_)
  refine q_load (v := (6, 0, 0)) (p2 := 196) rfl rfl rfl rfl ?_
  refine q_const (p2 := 197) rfl rfl ?_
  refine q_callrE (xs := [(0, 41, 0), (6, 0, 0)]) (p2 := 198) rfl rfl rfl rfl (fun _ _ => rfl) rfl (zc_put hH4 hB4 (by omega) (by omega)) (Nat.le_refl _) (Nat.le_refl _) rfl (fun φ5 hR5 => ?_)
  obtain ⟨tpq5, hH5, hB5, hc5, hq5, fr5⟩ := hR5
  refine q_if0_s (p2 := 199) rfl (by decide) (by omega) rfl (fun hb => absurd hb (show ¬ (1 = 0) by omega)) (fun _ => ?_)
  refine q_const (p2 := 200) rfl rfl ?_
  refine q_goto rfl ?_
  refine q_store (loc2 := [(6, 0, 0), (0, x, 0), (0, i, 0), (0, j, 0), (0, 1, 0)]) (p2 := 203) rfl rfl rfl rfl rfl ?_
  refine q_load (v := (6, 0, 0)) (p2 := 204) rfl rfl rfl rfl ?_
  refine q_load (v := (0, 1, 0)) (p2 := 205) rfl rfl rfl rfl ?_
  refine q_if0_s (p2 := 206) rfl (by decide) (by omega) rfl (fun hb => absurd hb (show ¬ (1 = 0) by omega)) (fun _ => ?_)
  refine q_load (v := (6, 0, 0)) (p2 := 207) rfl rfl rfl rfl ?_
  have hm6 := (zTJ_at hTJ (fun j h1 h2 => ((fr5 j (by omega) (by omega)).trans ((fr4 j (by omega) (by omega)).trans ((fr2 j (by omega)).trans (fr1 j (by omega) (by omega)))))))
  have hm7 := (zEJ_at hEJ (fun j h1 h2 => ((fr5 j (by omega) (by omega)).trans ((fr4 j (by omega) (by omega)).trans ((fr2 j (by omega)).trans (fr1 j (by omega) (by omega)))))))
  have hm8 := (zq_nm_at hN ((fr5 239 (by decide) (by decide)).trans ((fr4 239 (by decide) (by decide)).trans ((fr2 239 (by decide)).trans (fr1 239 (by decide) (by decide))))) ((fr5 242 (by decide) (by decide)).trans ((fr4 242 (by decide) (by decide)).trans ((fr2 242 (by decide)).trans (fr1 242 (by decide) (by decide))))) ((fr5 244 (by decide) (by decide)).trans ((fr4 244 (by decide) (by decide)).trans ((fr2 244 (by decide)).trans (fr1 244 (by decide) (by decide))))))
  have hm9 := (x_KS_at2 hKS (fun j h1 h2 h3 h4 => ((fr5 j (by omega) (by omega)).trans ((fr4 j (by omega) (by omega)).trans ((fr2 j (by omega)).trans (fr1 j (by omega) (by omega)))))))
  refine x_n_lt (fun hlt11 => ?_)
  have hm10 := (x_PS_at hPS (fun j hj hne => by have hj2 := x_some_lt hlt0 hne; exact ((fr5 j (by omega) (by omega)).trans ((fr4 j (by omega) (by omega)).trans ((fr2 j (by omega)).trans (fr1 j (by omega) (by omega)))))))
  have hm12 := (x_LK_at2 hLK0 (fun j h1 h2 => ((fr5 j (by omega) (by omega)).trans ((fr4 j (by omega) (by omega)).trans ((fr2 j (by omega)).trans (fr1 j (by omega) (by omega)))))))
  have hm13 := (x_SP_at hSP (fun j hj hne => by have hj2 := x_some_lt hlt0 hne; exact ((fr5 j (by omega) (by omega)).trans ((fr4 j (by omega) (by omega)).trans ((fr2 j (by omega)).trans (fr1 j (by omega) (by omega)))))))
  have hm14 := (zq_V5_at hV5 ((fr5 485 (by decide) (by decide)).trans ((fr4 485 (by decide) (by decide)).trans ((fr2 485 (by decide)).trans (fr1 485 (by decide) (by decide))))))
  have hm15 := (zq_SL_at hSL ((fr5 482 (by decide) (by decide)).trans ((fr4 482 (by decide) (by decide)).trans ((fr2 482 (by decide)).trans (fr1 482 (by decide) (by decide))))))
  have hm16 := (zq_RW_at hRW ((fr5 483 (by decide) (by decide)).trans ((fr4 483 (by decide) (by decide)).trans ((fr2 483 (by decide)).trans (fr1 483 (by decide) (by decide))))))
  have hm17 := (zq_J_at hJ ((fr5 468 (by decide) (by decide)).trans ((fr4 468 (by decide) (by decide)).trans ((fr2 468 (by decide)).trans (fr1 468 (by decide) (by decide))))) ((fr5 469 (by decide) (by decide)).trans ((fr4 469 (by decide) (by decide)).trans ((fr2 469 (by decide)).trans (fr1 469 (by decide) (by decide))))) ((fr5 470 (by decide) (by decide)).trans ((fr4 470 (by decide) (by decide)).trans ((fr2 470 (by decide)).trans (fr1 470 (by decide) (by decide))))))
  have hm18 := (zFJ_at hFJ (fun j h1 h2 => ((fr5 j (by omega) (by omega)).trans ((fr4 j (by omega) (by omega)).trans ((fr2 j (by omega)).trans (fr1 j (by omega) (by omega)))))))
  have hm19 := (zWJ_at hWJ (fun j h1 h2 => ((fr5 j (by omega) (by omega)).trans ((fr4 j (by omega) (by omega)).trans ((fr2 j (by omega)).trans (fr1 j (by omega) (by omega)))))))
  have hm20 := (zq_OV_at hOV ((fr5 452 (by decide) (by decide)).trans ((fr4 452 (by decide) (by decide)).trans ((fr2 452 (by decide)).trans (fr1 452 (by decide) (by decide))))) ((fr5 453 (by decide) (by decide)).trans ((fr4 453 (by decide) (by decide)).trans ((fr2 453 (by decide)).trans (fr1 453 (by decide) (by decide))))))
  have hGz21 : zG φ5 10 tpq5 lf mi made sv svm comb hm sc sm mh noted verd ins ver sz bw := ⟨⟨_, _, hH5, (x_hw_at hhw (fun j hj hne => by have hj2 := x_some_lt hlt0 hne; exact ((fr5 j (by omega) (by omega)).trans ((fr4 j (by omega) (by omega)).trans ((fr2 j (by omega)).trans (fr1 j (by omega) (by omega)))))))⟩, hB5, hm6, hm7, hm8, ⟨_, ⟨_, _, _, _, _, _, _, _, _, _, hm9⟩, hco⟩, ⟨_, _, _, hm10, hm12⟩, hm13, hm14, ⟨_, hm15⟩, hm16, hm17, hm18, hm19, ⟨_, _, hm20, hovn, hovh⟩⟩
  refine q_callrB (xs := [(6, 0, 0)]) (p2 := 208) rfl rfl rfl rfl (x_rcv_s 0 hH5) rfl (zc_work_used_y (w1 := i) hGz21 (by omega) hpv (by omega) (((hq5 0 (by omega)).trans hq4_0)) (((hq5 1 (by omega)).trans hq4_1)) (((hq5 2 (by omega)).trans hq4_2)) (((hq5 3 (by omega)).trans hq4_3)) (((hq5 4 (by omega)).trans hq4_4)) (((hq5 5 (by omega)).trans hq4_5)) (((hq5 6 (by omega)).trans hq4_6)) (((hq5 7 (by omega)).trans hq4_7)) (((hq5 8 (by omega)).trans hq4_8)) (hc5) (by omega) (by omega) (by omega) h1) rfl (fun w21 φ21 n21 sl21 hn21 hN21 hs21 hT21 hR21 => ?_)
  obtain ⟨hwz21, hGr21⟩ := hR21
  subst hwz21
  have hG := hGr21
  skip
  obtain ⟨⟨hand, ie, hH, hhw⟩, hB, hTJ, hEJ, hN, hKJ, ⟨A, B, s9, hPS, hLK0⟩, hSP, hV5, ⟨slq, hSL⟩, hRW, hJ, hFJ, hWJ, ⟨ovn, ovh, hOV, hovn, hovh⟩⟩ := hG
  refine x_n_lt (fun hlt0 => ?_)
  have hmade := x_PS_lt hPS
  obtain ⟨co, ⟨top_, fr_, pc_, mm, st, lo, re, rs, fl, se, hKS⟩, hco⟩ := hKJ
  refine q_goto rfl ?_
  refine q_callrE (xs := [(0, (if (x_al comb hm i (made * 40)).length ≤ 24 then (6, 0, 2, 5, (x_al comb hm i (made * 40))) else MV0 : MV).1, 0), (6, 0, 0)]) (p2 := 211) rfl rfl rfl rfl (fun _ _ => rfl) rfl (zc_done hH hPS (by omega)) (Nat.le_refl _) (Nat.le_refl _) rfl (fun φ23 hR23 => ?_)
  obtain ⟨hs23_0, fr23⟩ := hR23
  have hm24 := (zq_tp_at hB (fr23 1 (by decide)))
  have hm25 := (zTJ_at hTJ (fun j h1 h2 => (fr23 j (by omega))))
  have hm26 := (zEJ_at hEJ (fun j h1 h2 => (fr23 j (by omega))))
  have hm27 := (zq_nm_at hN (fr23 239 (by decide)) (fr23 242 (by decide)) (fr23 244 (by decide)))
  have hm28 := (x_KS_at2 hKS (fun j h1 h2 h3 h4 => (fr23 j (by omega))))
  refine x_n_lt (fun hlt30 => ?_)
  have hm29 := (x_PS_at hPS (fun j hj hne => by have hj2 := x_some_lt hlt0 hne; exact (fr23 j (by omega))))
  have hm31 := (x_LK_at2 hLK0 (fun j h1 h2 => (fr23 j (by omega))))
  have hm32 := (x_SP_at hSP (fun j hj hne => by have hj2 := x_some_lt hlt0 hne; exact (fr23 j (by omega))))
  have hm33 := (zq_V5_at hV5 (fr23 485 (by decide)))
  have hm34 := (zq_SL_at hSL (fr23 482 (by decide)))
  have hm35 := (zq_RW_at hRW (fr23 483 (by decide)))
  have hm36 := (zq_J_at hJ (fr23 468 (by decide)) (fr23 469 (by decide)) (fr23 470 (by decide)))
  have hm37 := (zFJ_at hFJ (fun j h1 h2 => (fr23 j (by omega))))
  have hm38 := (zWJ_at hWJ (fun j h1 h2 => (fr23 j (by omega))))
  have hm39 := (zq_OV_at hOV (fr23 452 (by decide)) (fr23 453 (by decide)))
  exact q_retv (v := (0, (if (x_al comb hm i (made * 40)).length ≤ 24 then (6, 0, 2, 5, (x_al comb hm i (made * 40))) else MV0 : MV).1, 0)) rfl rfl (⟨rfl, ⟨by omega, by omega⟩, ⟨by omega, by omega⟩, _, rfl, ⟨⟨_, _, hs23_0, (x_hw_at hhw (fun j hj hne => by have hj2 := x_some_lt hlt0 hne; exact (fr23 j (by omega))))⟩, hm24, hm25, hm26, hm27, ⟨_, ⟨_, _, _, _, _, _, _, _, _, _, hm28⟩, hco⟩, ⟨_, _, _, hm29, hm31⟩, hm32, hm33, ⟨_, hm34⟩, hm35, hm36, hm37, hm38, ⟨_, _, hm39, hovn, hovh⟩⟩⟩)
set_option maxHeartbeats 1000000 in
theorem zc_call_5_ny {d n sl : Nat} {φ : FH} {tp : Nat → Nat} {lf : Nat} {mi : Nat} {made : Nat} {sv : Nat} {svm : Nat} {comb : Nat → Nat} {hm : Nat → MV} {sc : Nat → Nat} {sm : Nat → MV} {mh : MV} {noted : Nat} {verd : Nat} {ins : Nat → Nat} {ver : Nat → Nat} {sz : Nat} {bw : Nat → Nat} {x : Nat} {s4 s7 i j : Nat}  (hG : zG φ 0 tp lf mi made sv svm comb hm sc sm mh noted verd ins ver sz bw) (hn0 : 486 ≤ n) (hpv : ∀ i, x_pv2 (hm i)) (hmi : mi + 300 ≤ 20000) (hx32 : x < 4294967296) (hf0 : x >>> 4 = s4) (hf1 : s4 &&& 7 = i) (hf2 : x >>> 7 = s7) (hf3 : s7 &&& 7 = j) (hf4 : x &&& 15 = 5) (hi : i < 8) (hj : j < 8) (hisA : x_isA made comb j 0) (h1 : ¬ (i < made ∧ comb i ≠ 0)) (h2 : (j < made ∧ comb j ≠ 0))  : x_f x_P (d + 20) 4 [(6, 0, 0), (0, x, 0), (11, 0, 0), (11, 0, 0), (11, 0, 0)] φ n sl (x_bR n sl 5 52 (fun zw φ2 => ∃ tpZ : Nat → Nat, zw = (0, 0, 0) ∧ zG φ2 0 tpZ 0 (mi + 3) made sv svm comb (zhm hm (j * 40 + 1) MV0) sc sm mh noted verd ins ver sz bw)) := by
  refine x_f_of rfl ?_
  have hG0 := hG
  obtain ⟨⟨hand, ie, hH, hhw⟩, hB, hTJ, hEJ, hN, hKJ, ⟨A, B, s9, hPS, hLK0⟩, hSP, hV5, ⟨slq, hSL⟩, hRW, hJ, hFJ, hWJ, ⟨ovn, ovh, hOV, hovn, hovh⟩⟩ := hG
  refine x_n_lt (fun hlt0 => ?_)
  have hmade := x_PS_lt hPS
  obtain ⟨co, ⟨top_, fr_, pc_, mm, st, lo, re, rs, fl, se, hKS⟩, hco⟩ := hKJ
  refine q_load (v := (0, x, 0)) (p2 := 1) rfl rfl rfl rfl ?_
  refine q_const (p2 := 2) rfl rfl ?_
  refine q_iushrz (z := s4) (p2 := 3) rfl (by omega) hf0 rfl ?_
  refine q_const (p2 := 4) rfl rfl ?_
  refine q_iandz (z := i) (p2 := 5) rfl hf1 (by omega) rfl ?_
  refine q_store (loc2 := [(6, 0, 0), (0, x, 0), (0, i, 0), (11, 0, 0), (11, 0, 0)]) (p2 := 6) rfl rfl rfl rfl rfl ?_
  refine q_load (v := (0, x, 0)) (p2 := 7) rfl rfl rfl rfl ?_
  refine q_const (p2 := 8) rfl rfl ?_
  refine q_iushrz (z := s7) (p2 := 9) rfl (by omega) hf2 rfl ?_
  refine q_const (p2 := 10) rfl rfl ?_
  refine q_iandz (z := j) (p2 := 11) rfl hf3 (by omega) rfl ?_
  refine q_store (loc2 := [(6, 0, 0), (0, x, 0), (0, i, 0), (0, j, 0), (11, 0, 0)]) (p2 := 12) rfl rfl rfl rfl rfl ?_
  refine q_const (p2 := 13) rfl rfl ?_
  refine q_store (loc2 := [(6, 0, 0), (0, x, 0), (0, i, 0), (0, j, 0), (0, 1, 0)]) (p2 := 14) rfl rfl rfl rfl rfl ?_
  refine q_load (v := (0, x, 0)) (p2 := 15) rfl rfl rfl rfl ?_
  refine q_const (p2 := 16) rfl rfl ?_
  refine q_iandz (z := 5) (p2 := 17) rfl hf4 (by omega) rfl ?_
  refine q_switch (tgt := 57) rfl (by decide) rfl ?_
  refine q_load (v := (6, 0, 0)) (p2 := 58) rfl rfl rfl rfl ?_
  refine q_const (p2 := 59) rfl rfl ?_
  refine q_callrE (xs := [(0, 91, 0), (6, 0, 0)]) (p2 := 60) rfl rfl rfl rfl (fun _ _ => rfl) rfl (zc_put hH hB (by omega) (by omega)) (Nat.le_refl _) (Nat.le_refl _) rfl (fun φ1 hR1 => ?_)
  obtain ⟨tpq1, hH1, hB1, hc1, hq1, fr1⟩ := hR1
  refine q_if0_s (p2 := 61) rfl (by decide) (by omega) rfl (fun hb => absurd hb (show ¬ (1 = 0) by omega)) (fun _ => ?_)
  refine q_load (v := (6, 0, 0)) (p2 := 62) rfl rfl rfl rfl ?_
  refine q_const (p2 := 63) rfl rfl ?_
  refine q_callrE (xs := [(0, 35, 0), (6, 0, 0)]) (p2 := 64) rfl rfl rfl rfl (fun _ _ => rfl) rfl (zc_put hH1 hB1 (by omega) (by omega)) (Nat.le_refl _) (Nat.le_refl _) rfl (fun φ2 hR2 => ?_)
  obtain ⟨tpq2, hH2, hB2, hc2, hq2, fr2⟩ := hR2
  refine q_if0_s (p2 := 65) rfl (by decide) (by omega) rfl (fun hb => absurd hb (show ¬ (1 = 0) by omega)) (fun _ => ?_)
  refine q_load (v := (6, 0, 0)) (p2 := 66) rfl rfl rfl rfl ?_
  refine q_load (v := (0, i, 0)) (p2 := 67) rfl rfl rfl rfl ?_
  refine q_callrE (xs := [(0, i, 0), (6, 0, 0)]) (p2 := 68) rfl rfl rfl rfl (fun _ _ => rfl) rfl (zc_pn_1_2 hH2 hB2 (by omega) ((hq2 0 (by omega)).trans hc1) hc2) (Nat.le_refl _) (Nat.le_refl _) rfl (fun φ3 hR3 => ?_)
  obtain ⟨tpq3, hH3, hB3, hq3_0, hq3_1, hq3_2, fr3⟩ := hR3
  refine q_if0_s (p2 := 69) rfl (by decide) (by omega) rfl (fun hb => absurd hb (show ¬ (1 = 0) by omega)) (fun _ => ?_)
  refine q_load (v := (6, 0, 0)) (p2 := 70) rfl rfl rfl rfl ?_
  refine q_const (p2 := 71) rfl rfl ?_
  refine q_callrE (xs := [(0, 44, 0), (6, 0, 0)]) (p2 := 72) rfl rfl rfl rfl (fun _ _ => rfl) rfl (zc_put hH3 hB3 (by omega) (by omega)) (Nat.le_refl _) (Nat.le_refl _) rfl (fun φ4 hR4 => ?_)
  obtain ⟨tpq4, hH4, hB4, hc4, hq4, fr4⟩ := hR4
  refine q_if0_s (p2 := 73) rfl (by decide) (by omega) rfl (fun hb => absurd hb (show ¬ (1 = 0) by omega)) (fun _ => ?_)
  refine q_load (v := (6, 0, 0)) (p2 := 74) rfl rfl rfl rfl ?_
  refine q_const (p2 := 75) rfl rfl ?_
  refine q_callrE (xs := [(0, 35, 0), (6, 0, 0)]) (p2 := 76) rfl rfl rfl rfl (fun _ _ => rfl) rfl (zc_put hH4 hB4 (by omega) (by omega)) (Nat.le_refl _) (Nat.le_refl _) rfl (fun φ5 hR5 => ?_)
  obtain ⟨tpq5, hH5, hB5, hc5, hq5, fr5⟩ := hR5
  refine q_if0_s (p2 := 77) rfl (by decide) (by omega) rfl (fun hb => absurd hb (show ¬ (1 = 0) by omega)) (fun _ => ?_)
  refine q_load (v := (6, 0, 0)) (p2 := 78) rfl rfl rfl rfl ?_
  refine q_load (v := (0, j, 0)) (p2 := 79) rfl rfl rfl rfl ?_
  refine q_callrE (xs := [(0, j, 0), (6, 0, 0)]) (p2 := 80) rfl rfl rfl rfl (fun _ _ => rfl) rfl (zc_pn_1_5 hH5 hB5 (by omega) ((hq5 0 (by omega)).trans ((hq4 0 (by omega)).trans hq3_0)) ((hq5 1 (by omega)).trans ((hq4 1 (by omega)).trans hq3_1)) ((hq5 2 (by omega)).trans ((hq4 2 (by omega)).trans hq3_2)) ((hq5 3 (by omega)).trans hc4) hc5) (Nat.le_refl _) (Nat.le_refl _) rfl (fun φ6 hR6 => ?_)
  obtain ⟨tpq6, hH6, hB6, hq6_0, hq6_1, hq6_2, hq6_3, hq6_4, hq6_5, fr6⟩ := hR6
  refine q_if0_s (p2 := 81) rfl (by decide) (by omega) rfl (fun hb => absurd hb (show ¬ (1 = 0) by omega)) (fun _ => ?_)
  refine q_load (v := (6, 0, 0)) (p2 := 82) rfl rfl rfl rfl ?_
  refine q_const (p2 := 83) rfl rfl ?_
  refine q_callrE (xs := [(0, 93, 0), (6, 0, 0)]) (p2 := 84) rfl rfl rfl rfl (fun _ _ => rfl) rfl (zc_put hH6 hB6 (by omega) (by omega)) (Nat.le_refl _) (Nat.le_refl _) rfl (fun φ7 hR7 => ?_)
  obtain ⟨tpq7, hH7, hB7, hc7, hq7, fr7⟩ := hR7
  refine q_if0_s (p2 := 85) rfl (by decide) (by omega) rfl (fun hb => absurd hb (show ¬ (1 = 0) by omega)) (fun _ => ?_)
  refine q_const (p2 := 86) rfl rfl ?_
  refine q_goto rfl ?_
  refine q_store (loc2 := [(6, 0, 0), (0, x, 0), (0, i, 0), (0, j, 0), (0, 1, 0)]) (p2 := 89) rfl rfl rfl rfl rfl ?_
  refine q_load (v := (6, 0, 0)) (p2 := 90) rfl rfl rfl rfl ?_
  refine q_load (v := (0, 1, 0)) (p2 := 91) rfl rfl rfl rfl ?_
  refine q_if0_s (p2 := 92) rfl (by decide) (by omega) rfl (fun hb => absurd hb (show ¬ (1 = 0) by omega)) (fun _ => ?_)
  refine q_load (v := (6, 0, 0)) (p2 := 93) rfl rfl rfl rfl ?_
  refine q_load (v := (0, j, 0)) (p2 := 94) rfl rfl rfl rfl ?_
  refine q_const (p2 := 95) rfl rfl ?_
  have hm8 := (zTJ_at hTJ (fun j h1 h2 => ((fr7 j (by omega) (by omega)).trans ((fr6 j (by omega) (by omega)).trans ((fr5 j (by omega) (by omega)).trans ((fr4 j (by omega) (by omega)).trans ((fr3 j (by omega) (by omega)).trans ((fr2 j (by omega) (by omega)).trans (fr1 j (by omega) (by omega))))))))))
  have hm9 := (zEJ_at hEJ (fun j h1 h2 => ((fr7 j (by omega) (by omega)).trans ((fr6 j (by omega) (by omega)).trans ((fr5 j (by omega) (by omega)).trans ((fr4 j (by omega) (by omega)).trans ((fr3 j (by omega) (by omega)).trans ((fr2 j (by omega) (by omega)).trans (fr1 j (by omega) (by omega))))))))))
  have hm10 := (zq_nm_at hN ((fr7 239 (by decide) (by decide)).trans ((fr6 239 (by decide) (by decide)).trans ((fr5 239 (by decide) (by decide)).trans ((fr4 239 (by decide) (by decide)).trans ((fr3 239 (by decide) (by decide)).trans ((fr2 239 (by decide) (by decide)).trans (fr1 239 (by decide) (by decide)))))))) ((fr7 242 (by decide) (by decide)).trans ((fr6 242 (by decide) (by decide)).trans ((fr5 242 (by decide) (by decide)).trans ((fr4 242 (by decide) (by decide)).trans ((fr3 242 (by decide) (by decide)).trans ((fr2 242 (by decide) (by decide)).trans (fr1 242 (by decide) (by decide)))))))) ((fr7 244 (by decide) (by decide)).trans ((fr6 244 (by decide) (by decide)).trans ((fr5 244 (by decide) (by decide)).trans ((fr4 244 (by decide) (by decide)).trans ((fr3 244 (by decide) (by decide)).trans ((fr2 244 (by decide) (by decide)).trans (fr1 244 (by decide) (by decide)))))))))
  have hm11 := (x_KS_at2 hKS (fun j h1 h2 h3 h4 => ((fr7 j (by omega) (by omega)).trans ((fr6 j (by omega) (by omega)).trans ((fr5 j (by omega) (by omega)).trans ((fr4 j (by omega) (by omega)).trans ((fr3 j (by omega) (by omega)).trans ((fr2 j (by omega) (by omega)).trans (fr1 j (by omega) (by omega))))))))))
  refine x_n_lt (fun hlt13 => ?_)
  have hm12 := (x_PS_at hPS (fun j hj hne => by have hj2 := x_some_lt hlt0 hne; exact ((fr7 j (by omega) (by omega)).trans ((fr6 j (by omega) (by omega)).trans ((fr5 j (by omega) (by omega)).trans ((fr4 j (by omega) (by omega)).trans ((fr3 j (by omega) (by omega)).trans ((fr2 j (by omega) (by omega)).trans (fr1 j (by omega) (by omega))))))))))
  have hm14 := (x_LK_at2 hLK0 (fun j h1 h2 => ((fr7 j (by omega) (by omega)).trans ((fr6 j (by omega) (by omega)).trans ((fr5 j (by omega) (by omega)).trans ((fr4 j (by omega) (by omega)).trans ((fr3 j (by omega) (by omega)).trans ((fr2 j (by omega) (by omega)).trans (fr1 j (by omega) (by omega))))))))))
  have hm15 := (x_SP_at hSP (fun j hj hne => by have hj2 := x_some_lt hlt0 hne; exact ((fr7 j (by omega) (by omega)).trans ((fr6 j (by omega) (by omega)).trans ((fr5 j (by omega) (by omega)).trans ((fr4 j (by omega) (by omega)).trans ((fr3 j (by omega) (by omega)).trans ((fr2 j (by omega) (by omega)).trans (fr1 j (by omega) (by omega))))))))))
  have hm16 := (zq_V5_at hV5 ((fr7 485 (by decide) (by decide)).trans ((fr6 485 (by decide) (by decide)).trans ((fr5 485 (by decide) (by decide)).trans ((fr4 485 (by decide) (by decide)).trans ((fr3 485 (by decide) (by decide)).trans ((fr2 485 (by decide) (by decide)).trans (fr1 485 (by decide) (by decide)))))))))
  have hm17 := (zq_SL_at hSL ((fr7 482 (by decide) (by decide)).trans ((fr6 482 (by decide) (by decide)).trans ((fr5 482 (by decide) (by decide)).trans ((fr4 482 (by decide) (by decide)).trans ((fr3 482 (by decide) (by decide)).trans ((fr2 482 (by decide) (by decide)).trans (fr1 482 (by decide) (by decide)))))))))
  have hm18 := (zq_RW_at hRW ((fr7 483 (by decide) (by decide)).trans ((fr6 483 (by decide) (by decide)).trans ((fr5 483 (by decide) (by decide)).trans ((fr4 483 (by decide) (by decide)).trans ((fr3 483 (by decide) (by decide)).trans ((fr2 483 (by decide) (by decide)).trans (fr1 483 (by decide) (by decide)))))))))
  have hm19 := (zq_J_at hJ ((fr7 468 (by decide) (by decide)).trans ((fr6 468 (by decide) (by decide)).trans ((fr5 468 (by decide) (by decide)).trans ((fr4 468 (by decide) (by decide)).trans ((fr3 468 (by decide) (by decide)).trans ((fr2 468 (by decide) (by decide)).trans (fr1 468 (by decide) (by decide)))))))) ((fr7 469 (by decide) (by decide)).trans ((fr6 469 (by decide) (by decide)).trans ((fr5 469 (by decide) (by decide)).trans ((fr4 469 (by decide) (by decide)).trans ((fr3 469 (by decide) (by decide)).trans ((fr2 469 (by decide) (by decide)).trans (fr1 469 (by decide) (by decide)))))))) ((fr7 470 (by decide) (by decide)).trans ((fr6 470 (by decide) (by decide)).trans ((fr5 470 (by decide) (by decide)).trans ((fr4 470 (by decide) (by decide)).trans ((fr3 470 (by decide) (by decide)).trans ((fr2 470 (by decide) (by decide)).trans (fr1 470 (by decide) (by decide)))))))))
  have hm20 := (zFJ_at hFJ (fun j h1 h2 => ((fr7 j (by omega) (by omega)).trans ((fr6 j (by omega) (by omega)).trans ((fr5 j (by omega) (by omega)).trans ((fr4 j (by omega) (by omega)).trans ((fr3 j (by omega) (by omega)).trans ((fr2 j (by omega) (by omega)).trans (fr1 j (by omega) (by omega))))))))))
  have hm21 := (zWJ_at hWJ (fun j h1 h2 => ((fr7 j (by omega) (by omega)).trans ((fr6 j (by omega) (by omega)).trans ((fr5 j (by omega) (by omega)).trans ((fr4 j (by omega) (by omega)).trans ((fr3 j (by omega) (by omega)).trans ((fr2 j (by omega) (by omega)).trans (fr1 j (by omega) (by omega))))))))))
  have hm22 := (zq_OV_at hOV ((fr7 452 (by decide) (by decide)).trans ((fr6 452 (by decide) (by decide)).trans ((fr5 452 (by decide) (by decide)).trans ((fr4 452 (by decide) (by decide)).trans ((fr3 452 (by decide) (by decide)).trans ((fr2 452 (by decide) (by decide)).trans (fr1 452 (by decide) (by decide)))))))) ((fr7 453 (by decide) (by decide)).trans ((fr6 453 (by decide) (by decide)).trans ((fr5 453 (by decide) (by decide)).trans ((fr4 453 (by decide) (by decide)).trans ((fr3 453 (by decide) (by decide)).trans ((fr2 453 (by decide) (by decide)).trans (fr1 453 (by decide) (by decide)))))))))
  have hGz23 : zG φ7 7 tpq7 lf mi made sv svm comb hm sc sm mh noted verd ins ver sz bw := ⟨⟨_, _, hH7, (x_hw_at hhw (fun j hj hne => by have hj2 := x_some_lt hlt0 hne; exact ((fr7 j (by omega) (by omega)).trans ((fr6 j (by omega) (by omega)).trans ((fr5 j (by omega) (by omega)).trans ((fr4 j (by omega) (by omega)).trans ((fr3 j (by omega) (by omega)).trans ((fr2 j (by omega) (by omega)).trans (fr1 j (by omega) (by omega))))))))))⟩, hB7, hm8, hm9, hm10, ⟨_, ⟨_, _, _, _, _, _, _, _, _, _, hm11⟩, hco⟩, ⟨_, _, _, hm12, hm14⟩, hm15, hm16, ⟨_, hm17⟩, hm18, hm19, hm20, hm21, ⟨_, _, hm22, hovn, hovh⟩⟩
  refine q_callrB (xs := [(0, 1, 0), (0, j, 0), (6, 0, 0)]) (p2 := 96) rfl rfl rfl rfl (x_rcv_s 0 hH7) rfl (zc_set1_ny (x := j) (w1 := i) (w2 := j) hGz23 (by omega) hpv (by omega) (by omega) hisA (((hq7 0 (by omega)).trans hq6_0)) (((hq7 1 (by omega)).trans hq6_1)) (((hq7 2 (by omega)).trans hq6_2)) (((hq7 3 (by omega)).trans hq6_3)) (((hq7 4 (by omega)).trans hq6_4)) (((hq7 5 (by omega)).trans hq6_5)) (hc7) (by omega) (by omega) (by omega) (by omega) (by omega) (by omega) h1 h2) rfl (fun w23 φ23 n23 sl23 hn23 hN23 hs23 hT23 hR23 => ?_)
  obtain ⟨hwz23, hGr23⟩ := hR23
  subst hwz23
  have hG := hGr23
  skip
  obtain ⟨⟨hand, ie, hH, hhw⟩, hB, hTJ, hEJ, hN, hKJ, ⟨A, B, s9, hPS, hLK0⟩, hSP, hV5, ⟨slq, hSL⟩, hRW, hJ, hFJ, hWJ, ⟨ovn, ovh, hOV, hovn, hovh⟩⟩ := hG
  refine x_n_lt (fun hlt0 => ?_)
  have hmade := x_PS_lt hPS
  obtain ⟨co, ⟨top_, fr_, pc_, mm, st, lo, re, rs, fl, se, hKS⟩, hco⟩ := hKJ
  refine q_goto rfl ?_
  refine q_callrE (xs := [(0, 0, 0), (6, 0, 0)]) (p2 := 99) rfl rfl rfl rfl (fun _ _ => rfl) rfl (zc_done hH hPS (by omega)) (Nat.le_refl _) (Nat.le_refl _) rfl (fun φ25 hR25 => ?_)
  obtain ⟨hs25_0, fr25⟩ := hR25
  have hm26 := (zq_tp_at hB (fr25 1 (by decide)))
  have hm27 := (zTJ_at hTJ (fun j h1 h2 => (fr25 j (by omega))))
  have hm28 := (zEJ_at hEJ (fun j h1 h2 => (fr25 j (by omega))))
  have hm29 := (zq_nm_at hN (fr25 239 (by decide)) (fr25 242 (by decide)) (fr25 244 (by decide)))
  have hm30 := (x_KS_at2 hKS (fun j h1 h2 h3 h4 => (fr25 j (by omega))))
  refine x_n_lt (fun hlt32 => ?_)
  have hm31 := (x_PS_at hPS (fun j hj hne => by have hj2 := x_some_lt hlt0 hne; exact (fr25 j (by omega))))
  have hm33 := (x_LK_at2 hLK0 (fun j h1 h2 => (fr25 j (by omega))))
  have hm34 := (x_SP_at hSP (fun j hj hne => by have hj2 := x_some_lt hlt0 hne; exact (fr25 j (by omega))))
  have hm35 := (zq_V5_at hV5 (fr25 485 (by decide)))
  have hm36 := (zq_SL_at hSL (fr25 482 (by decide)))
  have hm37 := (zq_RW_at hRW (fr25 483 (by decide)))
  have hm38 := (zq_J_at hJ (fr25 468 (by decide)) (fr25 469 (by decide)) (fr25 470 (by decide)))
  have hm39 := (zFJ_at hFJ (fun j h1 h2 => (fr25 j (by omega))))
  have hm40 := (zWJ_at hWJ (fun j h1 h2 => (fr25 j (by omega))))
  have hm41 := (zq_OV_at hOV (fr25 452 (by decide)) (fr25 453 (by decide)))
  exact q_retv (v := (0, 0, 0)) rfl rfl (⟨rfl, ⟨by omega, by omega⟩, ⟨by omega, by omega⟩, _, rfl, ⟨⟨_, _, hs25_0, (x_hw_at hhw (fun j hj hne => by have hj2 := x_some_lt hlt0 hne; exact (fr25 j (by omega))))⟩, hm26, hm27, hm28, hm29, ⟨_, ⟨_, _, _, _, _, _, _, _, _, _, hm30⟩, hco⟩, ⟨_, _, _, hm31, hm33⟩, hm34, hm35, ⟨_, hm36⟩, hm37, hm38, hm39, hm40, ⟨_, _, hm41, hovn, hovh⟩⟩⟩)
set_option maxHeartbeats 1000000 in
theorem zc_call_12_ny {d n sl : Nat} {φ : FH} {tp : Nat → Nat} {lf : Nat} {mi : Nat} {made : Nat} {sv : Nat} {svm : Nat} {comb : Nat → Nat} {hm : Nat → MV} {sc : Nat → Nat} {sm : Nat → MV} {mh : MV} {noted : Nat} {verd : Nat} {ins : Nat → Nat} {ver : Nat → Nat} {sz : Nat} {bw : Nat → Nat} {x : Nat} {s4 s7 i j : Nat}  (hG : zG φ 0 tp lf mi made sv svm comb hm sc sm mh noted verd ins ver sz bw) (hn0 : 486 ≤ n) (hpv : ∀ i, x_pv2 (hm i)) (hmi : mi + 300 ≤ 20000) (hx32 : x < 4294967296) (hf0 : x >>> 4 = s4) (hf1 : s4 &&& 7 = i) (hf2 : x >>> 7 = s7) (hf3 : s7 &&& 7 = j) (hf4 : x &&& 15 = 12) (hi : i < 8) (hj : j < 8) (h1 : ¬ (i < made ∧ comb i ≠ 0)) (h2 : (j < made ∧ comb j ≠ 0)) : x_f x_P (d + 13) 4 [(6, 0, 0), (0, x, 0), (11, 0, 0), (11, 0, 0), (11, 0, 0)] φ n sl (x_bR n sl 3 21 (fun zw φ2 => ∃ tpZ : Nat → Nat, zw = (0, 3, 0) ∧ zG φ2 0 tpZ 0 (mi + 3) made sv svm comb hm sc sm (3, 1, 0, 0, []) noted verd ins ver sz bw)) := by
  refine x_f_of rfl ?_
  have hG0 := hG
  obtain ⟨⟨hand, ie, hH, hhw⟩, hB, hTJ, hEJ, hN, hKJ, ⟨A, B, s9, hPS, hLK0⟩, hSP, hV5, ⟨slq, hSL⟩, hRW, hJ, hFJ, hWJ, ⟨ovn, ovh, hOV, hovn, hovh⟩⟩ := hG
  refine x_n_lt (fun hlt0 => ?_)
  have hmade := x_PS_lt hPS
  obtain ⟨co, ⟨top_, fr_, pc_, mm, st, lo, re, rs, fl, se, hKS⟩, hco⟩ := hKJ
  refine q_load (v := (0, x, 0)) (p2 := 1) rfl rfl rfl rfl ?_
  refine q_const (p2 := 2) rfl rfl ?_
  refine q_iushrz (z := s4) (p2 := 3) rfl (by omega) hf0 rfl ?_
  refine q_const (p2 := 4) rfl rfl ?_
  refine q_iandz (z := i) (p2 := 5) rfl hf1 (by omega) rfl ?_
  refine q_store (loc2 := [(6, 0, 0), (0, x, 0), (0, i, 0), (11, 0, 0), (11, 0, 0)]) (p2 := 6) rfl rfl rfl rfl rfl ?_
  refine q_load (v := (0, x, 0)) (p2 := 7) rfl rfl rfl rfl ?_
  refine q_const (p2 := 8) rfl rfl ?_
  refine q_iushrz (z := s7) (p2 := 9) rfl (by omega) hf2 rfl ?_
  refine q_const (p2 := 10) rfl rfl ?_
  refine q_iandz (z := j) (p2 := 11) rfl hf3 (by omega) rfl ?_
  refine q_store (loc2 := [(6, 0, 0), (0, x, 0), (0, i, 0), (0, j, 0), (11, 0, 0)]) (p2 := 12) rfl rfl rfl rfl rfl ?_
  refine q_const (p2 := 13) rfl rfl ?_
  refine q_store (loc2 := [(6, 0, 0), (0, x, 0), (0, i, 0), (0, j, 0), (0, 1, 0)]) (p2 := 14) rfl rfl rfl rfl rfl ?_
  refine q_load (v := (0, x, 0)) (p2 := 15) rfl rfl rfl rfl ?_
  refine q_const (p2 := 16) rfl rfl ?_
  refine q_iandz (z := 12) (p2 := 17) rfl hf4 (by omega) rfl ?_
  refine q_switch (tgt := 212) rfl (by decide) rfl ?_
  refine q_load (v := (6, 0, 0)) (p2 := 213) rfl rfl rfl rfl ?_
  refine q_const (p2 := 214) rfl rfl ?_
  refine q_callrE (xs := [(0, 35, 0), (6, 0, 0)]) (p2 := 215) rfl rfl rfl rfl (fun _ _ => rfl) rfl (zc_put hH hB (by omega) (by omega)) (Nat.le_refl _) (Nat.le_refl _) rfl (fun φ1 hR1 => ?_)
  obtain ⟨tpq1, hH1, hB1, hc1, hq1, fr1⟩ := hR1
  refine q_if0_s (p2 := 216) rfl (by decide) (by omega) rfl (fun hb => absurd hb (show ¬ (1 = 0) by omega)) (fun _ => ?_)
  refine q_load (v := (6, 0, 0)) (p2 := 217) rfl rfl rfl rfl ?_
  refine q_load (v := (0, i, 0)) (p2 := 218) rfl rfl rfl rfl ?_
  refine q_callrE (xs := [(0, i, 0), (6, 0, 0)]) (p2 := 219) rfl rfl rfl rfl (fun _ _ => rfl) rfl (zc_pn_1_1 hH1 hB1 (by omega) hc1) (Nat.le_refl _) (Nat.le_refl _) rfl (fun φ2 hR2 => ?_)
  obtain ⟨tpq2, hH2, hB2, hq2_0, hq2_1, fr2⟩ := hR2
  refine q_if0_s (p2 := 220) rfl (by decide) (by omega) rfl (fun hb => absurd hb (show ¬ (1 = 0) by omega)) (fun _ => ?_)
  refine q_load (v := (6, 0, 0)) (p2 := 221) rfl rfl rfl rfl ?_
  refine q_const (p2 := 222) rfl rfl ?_
  refine q_callrE (xs := [(0, 61, 0), (6, 0, 0)]) (p2 := 223) rfl rfl rfl rfl (fun _ _ => rfl) rfl (zc_put hH2 hB2 (by omega) (by omega)) (Nat.le_refl _) (Nat.le_refl _) rfl (fun φ3 hR3 => ?_)
  obtain ⟨tpq3, hH3, hB3, hc3, hq3, fr3⟩ := hR3
  refine q_if0_s (p2 := 224) rfl (by decide) (by omega) rfl (fun hb => absurd hb (show ¬ (1 = 0) by omega)) (fun _ => ?_)
  refine q_load (v := (6, 0, 0)) (p2 := 225) rfl rfl rfl rfl ?_
  refine q_const (p2 := 226) rfl rfl ?_
  refine q_callrE (xs := [(0, 35, 0), (6, 0, 0)]) (p2 := 227) rfl rfl rfl rfl (fun _ _ => rfl) rfl (zc_put hH3 hB3 (by omega) (by omega)) (Nat.le_refl _) (Nat.le_refl _) rfl (fun φ4 hR4 => ?_)
  obtain ⟨tpq4, hH4, hB4, hc4, hq4, fr4⟩ := hR4
  refine q_if0_s (p2 := 228) rfl (by decide) (by omega) rfl (fun hb => absurd hb (show ¬ (1 = 0) by omega)) (fun _ => ?_)
  refine q_load (v := (6, 0, 0)) (p2 := 229) rfl rfl rfl rfl ?_
  refine q_load (v := (0, j, 0)) (p2 := 230) rfl rfl rfl rfl ?_
  refine q_callrE (xs := [(0, j, 0), (6, 0, 0)]) (p2 := 231) rfl rfl rfl rfl (fun _ _ => rfl) rfl (zc_pn_1_4 hH4 hB4 (by omega) ((hq4 0 (by omega)).trans ((hq3 0 (by omega)).trans hq2_0)) ((hq4 1 (by omega)).trans ((hq3 1 (by omega)).trans hq2_1)) ((hq4 2 (by omega)).trans hc3) hc4) (Nat.le_refl _) (Nat.le_refl _) rfl (fun φ5 hR5 => ?_)
  obtain ⟨tpq5, hH5, hB5, hq5_0, hq5_1, hq5_2, hq5_3, hq5_4, fr5⟩ := hR5
  refine q_if0_s (p2 := 232) rfl (by decide) (by omega) rfl (fun hb => absurd hb (show ¬ (1 = 0) by omega)) (fun _ => ?_)
  refine q_const (p2 := 233) rfl rfl ?_
  refine q_goto rfl ?_
  refine q_store (loc2 := [(6, 0, 0), (0, x, 0), (0, i, 0), (0, j, 0), (0, 1, 0)]) (p2 := 236) rfl rfl rfl rfl rfl ?_
  refine q_load (v := (6, 0, 0)) (p2 := 237) rfl rfl rfl rfl ?_
  refine q_load (v := (0, 1, 0)) (p2 := 238) rfl rfl rfl rfl ?_
  refine q_if0_s (p2 := 239) rfl (by decide) (by omega) rfl (fun hb => absurd hb (show ¬ (1 = 0) by omega)) (fun _ => ?_)
  refine q_load (v := (6, 0, 0)) (p2 := 240) rfl rfl rfl rfl ?_
  have hm6 := (zTJ_at hTJ (fun j h1 h2 => ((fr5 j (by omega) (by omega)).trans ((fr4 j (by omega) (by omega)).trans ((fr3 j (by omega) (by omega)).trans ((fr2 j (by omega) (by omega)).trans (fr1 j (by omega) (by omega))))))))
  have hm7 := (zEJ_at hEJ (fun j h1 h2 => ((fr5 j (by omega) (by omega)).trans ((fr4 j (by omega) (by omega)).trans ((fr3 j (by omega) (by omega)).trans ((fr2 j (by omega) (by omega)).trans (fr1 j (by omega) (by omega))))))))
  have hm8 := (zq_nm_at hN ((fr5 239 (by decide) (by decide)).trans ((fr4 239 (by decide) (by decide)).trans ((fr3 239 (by decide) (by decide)).trans ((fr2 239 (by decide) (by decide)).trans (fr1 239 (by decide) (by decide)))))) ((fr5 242 (by decide) (by decide)).trans ((fr4 242 (by decide) (by decide)).trans ((fr3 242 (by decide) (by decide)).trans ((fr2 242 (by decide) (by decide)).trans (fr1 242 (by decide) (by decide)))))) ((fr5 244 (by decide) (by decide)).trans ((fr4 244 (by decide) (by decide)).trans ((fr3 244 (by decide) (by decide)).trans ((fr2 244 (by decide) (by decide)).trans (fr1 244 (by decide) (by decide)))))))
  have hm9 := (x_KS_at2 hKS (fun j h1 h2 h3 h4 => ((fr5 j (by omega) (by omega)).trans ((fr4 j (by omega) (by omega)).trans ((fr3 j (by omega) (by omega)).trans ((fr2 j (by omega) (by omega)).trans (fr1 j (by omega) (by omega))))))))
  refine x_n_lt (fun hlt11 => ?_)
  have hm10 := (x_PS_at hPS (fun j hj hne => by have hj2 := x_some_lt hlt0 hne; exact ((fr5 j (by omega) (by omega)).trans ((fr4 j (by omega) (by omega)).trans ((fr3 j (by omega) (by omega)).trans ((fr2 j (by omega) (by omega)).trans (fr1 j (by omega) (by omega))))))))
  have hm12 := (x_LK_at2 hLK0 (fun j h1 h2 => ((fr5 j (by omega) (by omega)).trans ((fr4 j (by omega) (by omega)).trans ((fr3 j (by omega) (by omega)).trans ((fr2 j (by omega) (by omega)).trans (fr1 j (by omega) (by omega))))))))
  have hm13 := (x_SP_at hSP (fun j hj hne => by have hj2 := x_some_lt hlt0 hne; exact ((fr5 j (by omega) (by omega)).trans ((fr4 j (by omega) (by omega)).trans ((fr3 j (by omega) (by omega)).trans ((fr2 j (by omega) (by omega)).trans (fr1 j (by omega) (by omega))))))))
  have hm14 := (zq_V5_at hV5 ((fr5 485 (by decide) (by decide)).trans ((fr4 485 (by decide) (by decide)).trans ((fr3 485 (by decide) (by decide)).trans ((fr2 485 (by decide) (by decide)).trans (fr1 485 (by decide) (by decide)))))))
  have hm15 := (zq_SL_at hSL ((fr5 482 (by decide) (by decide)).trans ((fr4 482 (by decide) (by decide)).trans ((fr3 482 (by decide) (by decide)).trans ((fr2 482 (by decide) (by decide)).trans (fr1 482 (by decide) (by decide)))))))
  have hm16 := (zq_RW_at hRW ((fr5 483 (by decide) (by decide)).trans ((fr4 483 (by decide) (by decide)).trans ((fr3 483 (by decide) (by decide)).trans ((fr2 483 (by decide) (by decide)).trans (fr1 483 (by decide) (by decide)))))))
  have hm17 := (zq_J_at hJ ((fr5 468 (by decide) (by decide)).trans ((fr4 468 (by decide) (by decide)).trans ((fr3 468 (by decide) (by decide)).trans ((fr2 468 (by decide) (by decide)).trans (fr1 468 (by decide) (by decide)))))) ((fr5 469 (by decide) (by decide)).trans ((fr4 469 (by decide) (by decide)).trans ((fr3 469 (by decide) (by decide)).trans ((fr2 469 (by decide) (by decide)).trans (fr1 469 (by decide) (by decide)))))) ((fr5 470 (by decide) (by decide)).trans ((fr4 470 (by decide) (by decide)).trans ((fr3 470 (by decide) (by decide)).trans ((fr2 470 (by decide) (by decide)).trans (fr1 470 (by decide) (by decide)))))))
  have hm18 := (zFJ_at hFJ (fun j h1 h2 => ((fr5 j (by omega) (by omega)).trans ((fr4 j (by omega) (by omega)).trans ((fr3 j (by omega) (by omega)).trans ((fr2 j (by omega) (by omega)).trans (fr1 j (by omega) (by omega))))))))
  have hm19 := (zWJ_at hWJ (fun j h1 h2 => ((fr5 j (by omega) (by omega)).trans ((fr4 j (by omega) (by omega)).trans ((fr3 j (by omega) (by omega)).trans ((fr2 j (by omega) (by omega)).trans (fr1 j (by omega) (by omega))))))))
  have hm20 := (zq_OV_at hOV ((fr5 452 (by decide) (by decide)).trans ((fr4 452 (by decide) (by decide)).trans ((fr3 452 (by decide) (by decide)).trans ((fr2 452 (by decide) (by decide)).trans (fr1 452 (by decide) (by decide)))))) ((fr5 453 (by decide) (by decide)).trans ((fr4 453 (by decide) (by decide)).trans ((fr3 453 (by decide) (by decide)).trans ((fr2 453 (by decide) (by decide)).trans (fr1 453 (by decide) (by decide)))))))
  have hGz21 : zG φ5 5 tpq5 lf mi made sv svm comb hm sc sm mh noted verd ins ver sz bw := ⟨⟨_, _, hH5, (x_hw_at hhw (fun j hj hne => by have hj2 := x_some_lt hlt0 hne; exact ((fr5 j (by omega) (by omega)).trans ((fr4 j (by omega) (by omega)).trans ((fr3 j (by omega) (by omega)).trans ((fr2 j (by omega) (by omega)).trans (fr1 j (by omega) (by omega))))))))⟩, hB5, hm6, hm7, hm8, ⟨_, ⟨_, _, _, _, _, _, _, _, _, _, hm9⟩, hco⟩, ⟨_, _, _, hm10, hm12⟩, hm13, hm14, ⟨_, hm15⟩, hm16, hm17, hm18, hm19, ⟨_, _, hm20, hovn, hovh⟩⟩
  refine q_callrB (xs := [(6, 0, 0)]) (p2 := 241) rfl rfl rfl rfl (x_rcv_s 0 hH5) rfl (zc_work_eq_ny (w1 := i) (w2 := j) hGz21 (by omega) hpv (by omega) (hq5_0) (hq5_1) (hq5_2) (hq5_3) (hq5_4) (by omega) (by omega) (by omega) (by omega) (by omega) (by omega) h1 h2) rfl (fun w21 φ21 n21 sl21 hn21 hN21 hs21 hT21 hR21 => ?_)
  obtain ⟨hwz21, hGr21⟩ := hR21
  subst hwz21
  have hG := hGr21
  skip
  obtain ⟨⟨hand, ie, hH, hhw⟩, hB, hTJ, hEJ, hN, hKJ, ⟨A, B, s9, hPS, hLK0⟩, hSP, hV5, ⟨slq, hSL⟩, hRW, hJ, hFJ, hWJ, ⟨ovn, ovh, hOV, hovn, hovh⟩⟩ := hG
  refine x_n_lt (fun hlt0 => ?_)
  have hmade := x_PS_lt hPS
  obtain ⟨co, ⟨top_, fr_, pc_, mm, st, lo, re, rs, fl, se, hKS⟩, hco⟩ := hKJ
  refine q_goto rfl ?_
  refine q_callrE (xs := [(0, 3, 0), (6, 0, 0)]) (p2 := 244) rfl rfl rfl rfl (fun _ _ => rfl) rfl (zc_done hH hPS (by omega)) (Nat.le_refl _) (Nat.le_refl _) rfl (fun φ23 hR23 => ?_)
  obtain ⟨hs23_0, fr23⟩ := hR23
  have hm24 := (zq_tp_at hB (fr23 1 (by decide)))
  have hm25 := (zTJ_at hTJ (fun j h1 h2 => (fr23 j (by omega))))
  have hm26 := (zEJ_at hEJ (fun j h1 h2 => (fr23 j (by omega))))
  have hm27 := (zq_nm_at hN (fr23 239 (by decide)) (fr23 242 (by decide)) (fr23 244 (by decide)))
  have hm28 := (x_KS_at2 hKS (fun j h1 h2 h3 h4 => (fr23 j (by omega))))
  refine x_n_lt (fun hlt30 => ?_)
  have hm29 := (x_PS_at hPS (fun j hj hne => by have hj2 := x_some_lt hlt0 hne; exact (fr23 j (by omega))))
  have hm31 := (x_LK_at2 hLK0 (fun j h1 h2 => (fr23 j (by omega))))
  have hm32 := (x_SP_at hSP (fun j hj hne => by have hj2 := x_some_lt hlt0 hne; exact (fr23 j (by omega))))
  have hm33 := (zq_V5_at hV5 (fr23 485 (by decide)))
  have hm34 := (zq_SL_at hSL (fr23 482 (by decide)))
  have hm35 := (zq_RW_at hRW (fr23 483 (by decide)))
  have hm36 := (zq_J_at hJ (fr23 468 (by decide)) (fr23 469 (by decide)) (fr23 470 (by decide)))
  have hm37 := (zFJ_at hFJ (fun j h1 h2 => (fr23 j (by omega))))
  have hm38 := (zWJ_at hWJ (fun j h1 h2 => (fr23 j (by omega))))
  have hm39 := (zq_OV_at hOV (fr23 452 (by decide)) (fr23 453 (by decide)))
  exact q_retv (v := (0, 3, 0)) rfl rfl (⟨rfl, ⟨by omega, by omega⟩, ⟨by omega, by omega⟩, _, rfl, ⟨⟨_, _, hs23_0, (x_hw_at hhw (fun j hj hne => by have hj2 := x_some_lt hlt0 hne; exact (fr23 j (by omega))))⟩, hm24, hm25, hm26, hm27, ⟨_, ⟨_, _, _, _, _, _, _, _, _, _, hm28⟩, hco⟩, ⟨_, _, _, hm29, hm31⟩, hm32, hm33, ⟨_, hm34⟩, hm35, hm36, hm37, hm38, ⟨_, _, hm39, hovn, hovh⟩⟩⟩)
set_option maxHeartbeats 1000000 in
theorem zc_call_5_nn {d n sl : Nat} {φ : FH} {tp : Nat → Nat} {lf : Nat} {mi : Nat} {made : Nat} {sv : Nat} {svm : Nat} {comb : Nat → Nat} {hm : Nat → MV} {sc : Nat → Nat} {sm : Nat → MV} {mh : MV} {noted : Nat} {verd : Nat} {ins : Nat → Nat} {ver : Nat → Nat} {sz : Nat} {bw : Nat → Nat} {x : Nat} {s4 s7 i j : Nat}  (hG : zG φ 0 tp lf mi made sv svm comb hm sc sm mh noted verd ins ver sz bw) (hn0 : 486 ≤ n) (hpv : ∀ i, x_pv2 (hm i)) (hmi : mi + 300 ≤ 20000) (hx32 : x < 4294967296) (hf0 : x >>> 4 = s4) (hf1 : s4 &&& 7 = i) (hf2 : x >>> 7 = s7) (hf3 : s7 &&& 7 = j) (hf4 : x &&& 15 = 5) (hi : i < 8) (hj : j < 8) (hisA : x_isA made comb j 0) (h1 : ¬ (i < made ∧ comb i ≠ 0)) (h2 : ¬ (j < made ∧ comb j ≠ 0))  : x_f x_P (d + 20) 4 [(6, 0, 0), (0, x, 0), (11, 0, 0), (11, 0, 0), (11, 0, 0)] φ n sl (x_bR n sl 5 52 (fun zw φ2 => ∃ tpZ : Nat → Nat, zw = (0, 0, 0) ∧ zG φ2 0 tpZ 0 (mi + 3) made sv svm comb (zhm hm (j * 40 + 1) MV0) sc sm mh noted verd ins ver sz bw)) := by
  refine x_f_of rfl ?_
  have hG0 := hG
  obtain ⟨⟨hand, ie, hH, hhw⟩, hB, hTJ, hEJ, hN, hKJ, ⟨A, B, s9, hPS, hLK0⟩, hSP, hV5, ⟨slq, hSL⟩, hRW, hJ, hFJ, hWJ, ⟨ovn, ovh, hOV, hovn, hovh⟩⟩ := hG
  refine x_n_lt (fun hlt0 => ?_)
  have hmade := x_PS_lt hPS
  obtain ⟨co, ⟨top_, fr_, pc_, mm, st, lo, re, rs, fl, se, hKS⟩, hco⟩ := hKJ
  refine q_load (v := (0, x, 0)) (p2 := 1) rfl rfl rfl rfl ?_
  refine q_const (p2 := 2) rfl rfl ?_
  refine q_iushrz (z := s4) (p2 := 3) rfl (by omega) hf0 rfl ?_
  refine q_const (p2 := 4) rfl rfl ?_
  refine q_iandz (z := i) (p2 := 5) rfl hf1 (by omega) rfl ?_
  refine q_store (loc2 := [(6, 0, 0), (0, x, 0), (0, i, 0), (11, 0, 0), (11, 0, 0)]) (p2 := 6) rfl rfl rfl rfl rfl ?_
  refine q_load (v := (0, x, 0)) (p2 := 7) rfl rfl rfl rfl ?_
  refine q_const (p2 := 8) rfl rfl ?_
  refine q_iushrz (z := s7) (p2 := 9) rfl (by omega) hf2 rfl ?_
  refine q_const (p2 := 10) rfl rfl ?_
  refine q_iandz (z := j) (p2 := 11) rfl hf3 (by omega) rfl ?_
  refine q_store (loc2 := [(6, 0, 0), (0, x, 0), (0, i, 0), (0, j, 0), (11, 0, 0)]) (p2 := 12) rfl rfl rfl rfl rfl ?_
  refine q_const (p2 := 13) rfl rfl ?_
  refine q_store (loc2 := [(6, 0, 0), (0, x, 0), (0, i, 0), (0, j, 0), (0, 1, 0)]) (p2 := 14) rfl rfl rfl rfl rfl ?_
  refine q_load (v := (0, x, 0)) (p2 := 15) rfl rfl rfl rfl ?_
  refine q_const (p2 := 16) rfl rfl ?_
  refine q_iandz (z := 5) (p2 := 17) rfl hf4 (by omega) rfl ?_
  refine q_switch (tgt := 57) rfl (by decide) rfl ?_
  refine q_load (v := (6, 0, 0)) (p2 := 58) rfl rfl rfl rfl ?_
  refine q_const (p2 := 59) rfl rfl ?_
  refine q_callrE (xs := [(0, 91, 0), (6, 0, 0)]) (p2 := 60) rfl rfl rfl rfl (fun _ _ => rfl) rfl (zc_put hH hB (by omega) (by omega)) (Nat.le_refl _) (Nat.le_refl _) rfl (fun φ1 hR1 => ?_)
  obtain ⟨tpq1, hH1, hB1, hc1, hq1, fr1⟩ := hR1
  refine q_if0_s (p2 := 61) rfl (by decide) (by omega) rfl (fun hb => absurd hb (show ¬ (1 = 0) by omega)) (fun _ => ?_)
  refine q_load (v := (6, 0, 0)) (p2 := 62) rfl rfl rfl rfl ?_
  refine q_const (p2 := 63) rfl rfl ?_
  refine q_callrE (xs := [(0, 35, 0), (6, 0, 0)]) (p2 := 64) rfl rfl rfl rfl (fun _ _ => rfl) rfl (zc_put hH1 hB1 (by omega) (by omega)) (Nat.le_refl _) (Nat.le_refl _) rfl (fun φ2 hR2 => ?_)
  obtain ⟨tpq2, hH2, hB2, hc2, hq2, fr2⟩ := hR2
  refine q_if0_s (p2 := 65) rfl (by decide) (by omega) rfl (fun hb => absurd hb (show ¬ (1 = 0) by omega)) (fun _ => ?_)
  refine q_load (v := (6, 0, 0)) (p2 := 66) rfl rfl rfl rfl ?_
  refine q_load (v := (0, i, 0)) (p2 := 67) rfl rfl rfl rfl ?_
  refine q_callrE (xs := [(0, i, 0), (6, 0, 0)]) (p2 := 68) rfl rfl rfl rfl (fun _ _ => rfl) rfl (zc_pn_1_2 hH2 hB2 (by omega) ((hq2 0 (by omega)).trans hc1) hc2) (Nat.le_refl _) (Nat.le_refl _) rfl (fun φ3 hR3 => ?_)
  obtain ⟨tpq3, hH3, hB3, hq3_0, hq3_1, hq3_2, fr3⟩ := hR3
  refine q_if0_s (p2 := 69) rfl (by decide) (by omega) rfl (fun hb => absurd hb (show ¬ (1 = 0) by omega)) (fun _ => ?_)
  refine q_load (v := (6, 0, 0)) (p2 := 70) rfl rfl rfl rfl ?_
  refine q_const (p2 := 71) rfl rfl ?_
  refine q_callrE (xs := [(0, 44, 0), (6, 0, 0)]) (p2 := 72) rfl rfl rfl rfl (fun _ _ => rfl) rfl (zc_put hH3 hB3 (by omega) (by omega)) (Nat.le_refl _) (Nat.le_refl _) rfl (fun φ4 hR4 => ?_)
  obtain ⟨tpq4, hH4, hB4, hc4, hq4, fr4⟩ := hR4
  refine q_if0_s (p2 := 73) rfl (by decide) (by omega) rfl (fun hb => absurd hb (show ¬ (1 = 0) by omega)) (fun _ => ?_)
  refine q_load (v := (6, 0, 0)) (p2 := 74) rfl rfl rfl rfl ?_
  refine q_const (p2 := 75) rfl rfl ?_
  refine q_callrE (xs := [(0, 35, 0), (6, 0, 0)]) (p2 := 76) rfl rfl rfl rfl (fun _ _ => rfl) rfl (zc_put hH4 hB4 (by omega) (by omega)) (Nat.le_refl _) (Nat.le_refl _) rfl (fun φ5 hR5 => ?_)
  obtain ⟨tpq5, hH5, hB5, hc5, hq5, fr5⟩ := hR5
  refine q_if0_s (p2 := 77) rfl (by decide) (by omega) rfl (fun hb => absurd hb (show ¬ (1 = 0) by omega)) (fun _ => ?_)
  refine q_load (v := (6, 0, 0)) (p2 := 78) rfl rfl rfl rfl ?_
  refine q_load (v := (0, j, 0)) (p2 := 79) rfl rfl rfl rfl ?_
  refine q_callrE (xs := [(0, j, 0), (6, 0, 0)]) (p2 := 80) rfl rfl rfl rfl (fun _ _ => rfl) rfl (zc_pn_1_5 hH5 hB5 (by omega) ((hq5 0 (by omega)).trans ((hq4 0 (by omega)).trans hq3_0)) ((hq5 1 (by omega)).trans ((hq4 1 (by omega)).trans hq3_1)) ((hq5 2 (by omega)).trans ((hq4 2 (by omega)).trans hq3_2)) ((hq5 3 (by omega)).trans hc4) hc5) (Nat.le_refl _) (Nat.le_refl _) rfl (fun φ6 hR6 => ?_)
  obtain ⟨tpq6, hH6, hB6, hq6_0, hq6_1, hq6_2, hq6_3, hq6_4, hq6_5, fr6⟩ := hR6
  refine q_if0_s (p2 := 81) rfl (by decide) (by omega) rfl (fun hb => absurd hb (show ¬ (1 = 0) by omega)) (fun _ => ?_)
  refine q_load (v := (6, 0, 0)) (p2 := 82) rfl rfl rfl rfl ?_
  refine q_const (p2 := 83) rfl rfl ?_
  refine q_callrE (xs := [(0, 93, 0), (6, 0, 0)]) (p2 := 84) rfl rfl rfl rfl (fun _ _ => rfl) rfl (zc_put hH6 hB6 (by omega) (by omega)) (Nat.le_refl _) (Nat.le_refl _) rfl (fun φ7 hR7 => ?_)
  obtain ⟨tpq7, hH7, hB7, hc7, hq7, fr7⟩ := hR7
  refine q_if0_s (p2 := 85) rfl (by decide) (by omega) rfl (fun hb => absurd hb (show ¬ (1 = 0) by omega)) (fun _ => ?_)
  refine q_const (p2 := 86) rfl rfl ?_
  refine q_goto rfl ?_
  refine q_store (loc2 := [(6, 0, 0), (0, x, 0), (0, i, 0), (0, j, 0), (0, 1, 0)]) (p2 := 89) rfl rfl rfl rfl rfl ?_
  refine q_load (v := (6, 0, 0)) (p2 := 90) rfl rfl rfl rfl ?_
  refine q_load (v := (0, 1, 0)) (p2 := 91) rfl rfl rfl rfl ?_
  refine q_if0_s (p2 := 92) rfl (by decide) (by omega) rfl (fun hb => absurd hb (show ¬ (1 = 0) by omega)) (fun _ => ?_)
  refine q_load (v := (6, 0, 0)) (p2 := 93) rfl rfl rfl rfl ?_
  refine q_load (v := (0, j, 0)) (p2 := 94) rfl rfl rfl rfl ?_
  refine q_const (p2 := 95) rfl rfl ?_
  have hm8 := (zTJ_at hTJ (fun j h1 h2 => ((fr7 j (by omega) (by omega)).trans ((fr6 j (by omega) (by omega)).trans ((fr5 j (by omega) (by omega)).trans ((fr4 j (by omega) (by omega)).trans ((fr3 j (by omega) (by omega)).trans ((fr2 j (by omega) (by omega)).trans (fr1 j (by omega) (by omega))))))))))
  have hm9 := (zEJ_at hEJ (fun j h1 h2 => ((fr7 j (by omega) (by omega)).trans ((fr6 j (by omega) (by omega)).trans ((fr5 j (by omega) (by omega)).trans ((fr4 j (by omega) (by omega)).trans ((fr3 j (by omega) (by omega)).trans ((fr2 j (by omega) (by omega)).trans (fr1 j (by omega) (by omega))))))))))
  have hm10 := (zq_nm_at hN ((fr7 239 (by decide) (by decide)).trans ((fr6 239 (by decide) (by decide)).trans ((fr5 239 (by decide) (by decide)).trans ((fr4 239 (by decide) (by decide)).trans ((fr3 239 (by decide) (by decide)).trans ((fr2 239 (by decide) (by decide)).trans (fr1 239 (by decide) (by decide)))))))) ((fr7 242 (by decide) (by decide)).trans ((fr6 242 (by decide) (by decide)).trans ((fr5 242 (by decide) (by decide)).trans ((fr4 242 (by decide) (by decide)).trans ((fr3 242 (by decide) (by decide)).trans ((fr2 242 (by decide) (by decide)).trans (fr1 242 (by decide) (by decide)))))))) ((fr7 244 (by decide) (by decide)).trans ((fr6 244 (by decide) (by decide)).trans ((fr5 244 (by decide) (by decide)).trans ((fr4 244 (by decide) (by decide)).trans ((fr3 244 (by decide) (by decide)).trans ((fr2 244 (by decide) (by decide)).trans (fr1 244 (by decide) (by decide)))))))))
  have hm11 := (x_KS_at2 hKS (fun j h1 h2 h3 h4 => ((fr7 j (by omega) (by omega)).trans ((fr6 j (by omega) (by omega)).trans ((fr5 j (by omega) (by omega)).trans ((fr4 j (by omega) (by omega)).trans ((fr3 j (by omega) (by omega)).trans ((fr2 j (by omega) (by omega)).trans (fr1 j (by omega) (by omega))))))))))
  refine x_n_lt (fun hlt13 => ?_)
  have hm12 := (x_PS_at hPS (fun j hj hne => by have hj2 := x_some_lt hlt0 hne; exact ((fr7 j (by omega) (by omega)).trans ((fr6 j (by omega) (by omega)).trans ((fr5 j (by omega) (by omega)).trans ((fr4 j (by omega) (by omega)).trans ((fr3 j (by omega) (by omega)).trans ((fr2 j (by omega) (by omega)).trans (fr1 j (by omega) (by omega))))))))))
  have hm14 := (x_LK_at2 hLK0 (fun j h1 h2 => ((fr7 j (by omega) (by omega)).trans ((fr6 j (by omega) (by omega)).trans ((fr5 j (by omega) (by omega)).trans ((fr4 j (by omega) (by omega)).trans ((fr3 j (by omega) (by omega)).trans ((fr2 j (by omega) (by omega)).trans (fr1 j (by omega) (by omega))))))))))
  have hm15 := (x_SP_at hSP (fun j hj hne => by have hj2 := x_some_lt hlt0 hne; exact ((fr7 j (by omega) (by omega)).trans ((fr6 j (by omega) (by omega)).trans ((fr5 j (by omega) (by omega)).trans ((fr4 j (by omega) (by omega)).trans ((fr3 j (by omega) (by omega)).trans ((fr2 j (by omega) (by omega)).trans (fr1 j (by omega) (by omega))))))))))
  have hm16 := (zq_V5_at hV5 ((fr7 485 (by decide) (by decide)).trans ((fr6 485 (by decide) (by decide)).trans ((fr5 485 (by decide) (by decide)).trans ((fr4 485 (by decide) (by decide)).trans ((fr3 485 (by decide) (by decide)).trans ((fr2 485 (by decide) (by decide)).trans (fr1 485 (by decide) (by decide)))))))))
  have hm17 := (zq_SL_at hSL ((fr7 482 (by decide) (by decide)).trans ((fr6 482 (by decide) (by decide)).trans ((fr5 482 (by decide) (by decide)).trans ((fr4 482 (by decide) (by decide)).trans ((fr3 482 (by decide) (by decide)).trans ((fr2 482 (by decide) (by decide)).trans (fr1 482 (by decide) (by decide)))))))))
  have hm18 := (zq_RW_at hRW ((fr7 483 (by decide) (by decide)).trans ((fr6 483 (by decide) (by decide)).trans ((fr5 483 (by decide) (by decide)).trans ((fr4 483 (by decide) (by decide)).trans ((fr3 483 (by decide) (by decide)).trans ((fr2 483 (by decide) (by decide)).trans (fr1 483 (by decide) (by decide)))))))))
  have hm19 := (zq_J_at hJ ((fr7 468 (by decide) (by decide)).trans ((fr6 468 (by decide) (by decide)).trans ((fr5 468 (by decide) (by decide)).trans ((fr4 468 (by decide) (by decide)).trans ((fr3 468 (by decide) (by decide)).trans ((fr2 468 (by decide) (by decide)).trans (fr1 468 (by decide) (by decide)))))))) ((fr7 469 (by decide) (by decide)).trans ((fr6 469 (by decide) (by decide)).trans ((fr5 469 (by decide) (by decide)).trans ((fr4 469 (by decide) (by decide)).trans ((fr3 469 (by decide) (by decide)).trans ((fr2 469 (by decide) (by decide)).trans (fr1 469 (by decide) (by decide)))))))) ((fr7 470 (by decide) (by decide)).trans ((fr6 470 (by decide) (by decide)).trans ((fr5 470 (by decide) (by decide)).trans ((fr4 470 (by decide) (by decide)).trans ((fr3 470 (by decide) (by decide)).trans ((fr2 470 (by decide) (by decide)).trans (fr1 470 (by decide) (by decide)))))))))
  have hm20 := (zFJ_at hFJ (fun j h1 h2 => ((fr7 j (by omega) (by omega)).trans ((fr6 j (by omega) (by omega)).trans ((fr5 j (by omega) (by omega)).trans ((fr4 j (by omega) (by omega)).trans ((fr3 j (by omega) (by omega)).trans ((fr2 j (by omega) (by omega)).trans (fr1 j (by omega) (by omega))))))))))
  have hm21 := (zWJ_at hWJ (fun j h1 h2 => ((fr7 j (by omega) (by omega)).trans ((fr6 j (by omega) (by omega)).trans ((fr5 j (by omega) (by omega)).trans ((fr4 j (by omega) (by omega)).trans ((fr3 j (by omega) (by omega)).trans ((fr2 j (by omega) (by omega)).trans (fr1 j (by omega) (by omega))))))))))
  have hm22 := (zq_OV_at hOV ((fr7 452 (by decide) (by decide)).trans ((fr6 452 (by decide) (by decide)).trans ((fr5 452 (by decide) (by decide)).trans ((fr4 452 (by decide) (by decide)).trans ((fr3 452 (by decide) (by decide)).trans ((fr2 452 (by decide) (by decide)).trans (fr1 452 (by decide) (by decide)))))))) ((fr7 453 (by decide) (by decide)).trans ((fr6 453 (by decide) (by decide)).trans ((fr5 453 (by decide) (by decide)).trans ((fr4 453 (by decide) (by decide)).trans ((fr3 453 (by decide) (by decide)).trans ((fr2 453 (by decide) (by decide)).trans (fr1 453 (by decide) (by decide)))))))))
  have hGz23 : zG φ7 7 tpq7 lf mi made sv svm comb hm sc sm mh noted verd ins ver sz bw := ⟨⟨_, _, hH7, (x_hw_at hhw (fun j hj hne => by have hj2 := x_some_lt hlt0 hne; exact ((fr7 j (by omega) (by omega)).trans ((fr6 j (by omega) (by omega)).trans ((fr5 j (by omega) (by omega)).trans ((fr4 j (by omega) (by omega)).trans ((fr3 j (by omega) (by omega)).trans ((fr2 j (by omega) (by omega)).trans (fr1 j (by omega) (by omega))))))))))⟩, hB7, hm8, hm9, hm10, ⟨_, ⟨_, _, _, _, _, _, _, _, _, _, hm11⟩, hco⟩, ⟨_, _, _, hm12, hm14⟩, hm15, hm16, ⟨_, hm17⟩, hm18, hm19, hm20, hm21, ⟨_, _, hm22, hovn, hovh⟩⟩
  refine q_callrB (xs := [(0, 1, 0), (0, j, 0), (6, 0, 0)]) (p2 := 96) rfl rfl rfl rfl (x_rcv_s 0 hH7) rfl (zc_set1_nn (x := j) (w1 := i) (w2 := j) hGz23 (by omega) hpv (by omega) (by omega) hisA (((hq7 0 (by omega)).trans hq6_0)) (((hq7 1 (by omega)).trans hq6_1)) (((hq7 2 (by omega)).trans hq6_2)) (((hq7 3 (by omega)).trans hq6_3)) (((hq7 4 (by omega)).trans hq6_4)) (((hq7 5 (by omega)).trans hq6_5)) (hc7) (by omega) (by omega) (by omega) (by omega) (by omega) (by omega) h1 h2) rfl (fun w23 φ23 n23 sl23 hn23 hN23 hs23 hT23 hR23 => ?_)
  obtain ⟨hwz23, hGr23⟩ := hR23
  subst hwz23
  have hG := hGr23
  skip
  obtain ⟨⟨hand, ie, hH, hhw⟩, hB, hTJ, hEJ, hN, hKJ, ⟨A, B, s9, hPS, hLK0⟩, hSP, hV5, ⟨slq, hSL⟩, hRW, hJ, hFJ, hWJ, ⟨ovn, ovh, hOV, hovn, hovh⟩⟩ := hG
  refine x_n_lt (fun hlt0 => ?_)
  have hmade := x_PS_lt hPS
  obtain ⟨co, ⟨top_, fr_, pc_, mm, st, lo, re, rs, fl, se, hKS⟩, hco⟩ := hKJ
  refine q_goto rfl ?_
  refine q_callrE (xs := [(0, 0, 0), (6, 0, 0)]) (p2 := 99) rfl rfl rfl rfl (fun _ _ => rfl) rfl (zc_done hH hPS (by omega)) (Nat.le_refl _) (Nat.le_refl _) rfl (fun φ25 hR25 => ?_)
  obtain ⟨hs25_0, fr25⟩ := hR25
  have hm26 := (zq_tp_at hB (fr25 1 (by decide)))
  have hm27 := (zTJ_at hTJ (fun j h1 h2 => (fr25 j (by omega))))
  have hm28 := (zEJ_at hEJ (fun j h1 h2 => (fr25 j (by omega))))
  have hm29 := (zq_nm_at hN (fr25 239 (by decide)) (fr25 242 (by decide)) (fr25 244 (by decide)))
  have hm30 := (x_KS_at2 hKS (fun j h1 h2 h3 h4 => (fr25 j (by omega))))
  refine x_n_lt (fun hlt32 => ?_)
  have hm31 := (x_PS_at hPS (fun j hj hne => by have hj2 := x_some_lt hlt0 hne; exact (fr25 j (by omega))))
  have hm33 := (x_LK_at2 hLK0 (fun j h1 h2 => (fr25 j (by omega))))
  have hm34 := (x_SP_at hSP (fun j hj hne => by have hj2 := x_some_lt hlt0 hne; exact (fr25 j (by omega))))
  have hm35 := (zq_V5_at hV5 (fr25 485 (by decide)))
  have hm36 := (zq_SL_at hSL (fr25 482 (by decide)))
  have hm37 := (zq_RW_at hRW (fr25 483 (by decide)))
  have hm38 := (zq_J_at hJ (fr25 468 (by decide)) (fr25 469 (by decide)) (fr25 470 (by decide)))
  have hm39 := (zFJ_at hFJ (fun j h1 h2 => (fr25 j (by omega))))
  have hm40 := (zWJ_at hWJ (fun j h1 h2 => (fr25 j (by omega))))
  have hm41 := (zq_OV_at hOV (fr25 452 (by decide)) (fr25 453 (by decide)))
  exact q_retv (v := (0, 0, 0)) rfl rfl (⟨rfl, ⟨by omega, by omega⟩, ⟨by omega, by omega⟩, _, rfl, ⟨⟨_, _, hs25_0, (x_hw_at hhw (fun j hj hne => by have hj2 := x_some_lt hlt0 hne; exact (fr25 j (by omega))))⟩, hm26, hm27, hm28, hm29, ⟨_, ⟨_, _, _, _, _, _, _, _, _, _, hm30⟩, hco⟩, ⟨_, _, _, hm31, hm33⟩, hm34, hm35, ⟨_, hm36⟩, hm37, hm38, hm39, hm40, ⟨_, _, hm41, hovn, hovh⟩⟩⟩)
set_option maxHeartbeats 1000000 in
theorem zc_call_12_nn {d n sl : Nat} {φ : FH} {tp : Nat → Nat} {lf : Nat} {mi : Nat} {made : Nat} {sv : Nat} {svm : Nat} {comb : Nat → Nat} {hm : Nat → MV} {sc : Nat → Nat} {sm : Nat → MV} {mh : MV} {noted : Nat} {verd : Nat} {ins : Nat → Nat} {ver : Nat → Nat} {sz : Nat} {bw : Nat → Nat} {x : Nat} {s4 s7 i j : Nat}  (hG : zG φ 0 tp lf mi made sv svm comb hm sc sm mh noted verd ins ver sz bw) (hn0 : 486 ≤ n) (hpv : ∀ i, x_pv2 (hm i)) (hmi : mi + 300 ≤ 20000) (hx32 : x < 4294967296) (hf0 : x >>> 4 = s4) (hf1 : s4 &&& 7 = i) (hf2 : x >>> 7 = s7) (hf3 : s7 &&& 7 = j) (hf4 : x &&& 15 = 12) (hi : i < 8) (hj : j < 8) (h1 : ¬ (i < made ∧ comb i ≠ 0)) (h2 : ¬ (j < made ∧ comb j ≠ 0)) : x_f x_P (d + 13) 4 [(6, 0, 0), (0, x, 0), (11, 0, 0), (11, 0, 0), (11, 0, 0)] φ n sl (x_bR n sl 3 21 (fun zw φ2 => ∃ tpZ : Nat → Nat, zw = (0, 3, 0) ∧ zG φ2 0 tpZ 0 (mi + 3) made sv svm comb hm sc sm (3, 1, 0, 0, []) noted verd ins ver sz bw)) := by
  refine x_f_of rfl ?_
  have hG0 := hG
  obtain ⟨⟨hand, ie, hH, hhw⟩, hB, hTJ, hEJ, hN, hKJ, ⟨A, B, s9, hPS, hLK0⟩, hSP, hV5, ⟨slq, hSL⟩, hRW, hJ, hFJ, hWJ, ⟨ovn, ovh, hOV, hovn, hovh⟩⟩ := hG
  refine x_n_lt (fun hlt0 => ?_)
  have hmade := x_PS_lt hPS
  obtain ⟨co, ⟨top_, fr_, pc_, mm, st, lo, re, rs, fl, se, hKS⟩, hco⟩ := hKJ
  refine q_load (v := (0, x, 0)) (p2 := 1) rfl rfl rfl rfl ?_
  refine q_const (p2 := 2) rfl rfl ?_
  refine q_iushrz (z := s4) (p2 := 3) rfl (by omega) hf0 rfl ?_
  refine q_const (p2 := 4) rfl rfl ?_
  refine q_iandz (z := i) (p2 := 5) rfl hf1 (by omega) rfl ?_
  refine q_store (loc2 := [(6, 0, 0), (0, x, 0), (0, i, 0), (11, 0, 0), (11, 0, 0)]) (p2 := 6) rfl rfl rfl rfl rfl ?_
  refine q_load (v := (0, x, 0)) (p2 := 7) rfl rfl rfl rfl ?_
  refine q_const (p2 := 8) rfl rfl ?_
  refine q_iushrz (z := s7) (p2 := 9) rfl (by omega) hf2 rfl ?_
  refine q_const (p2 := 10) rfl rfl ?_
  refine q_iandz (z := j) (p2 := 11) rfl hf3 (by omega) rfl ?_
  refine q_store (loc2 := [(6, 0, 0), (0, x, 0), (0, i, 0), (0, j, 0), (11, 0, 0)]) (p2 := 12) rfl rfl rfl rfl rfl ?_
  refine q_const (p2 := 13) rfl rfl ?_
  refine q_store (loc2 := [(6, 0, 0), (0, x, 0), (0, i, 0), (0, j, 0), (0, 1, 0)]) (p2 := 14) rfl rfl rfl rfl rfl ?_
  refine q_load (v := (0, x, 0)) (p2 := 15) rfl rfl rfl rfl ?_
  refine q_const (p2 := 16) rfl rfl ?_
  refine q_iandz (z := 12) (p2 := 17) rfl hf4 (by omega) rfl ?_
  refine q_switch (tgt := 212) rfl (by decide) rfl ?_
  refine q_load (v := (6, 0, 0)) (p2 := 213) rfl rfl rfl rfl ?_
  refine q_const (p2 := 214) rfl rfl ?_
  refine q_callrE (xs := [(0, 35, 0), (6, 0, 0)]) (p2 := 215) rfl rfl rfl rfl (fun _ _ => rfl) rfl (zc_put hH hB (by omega) (by omega)) (Nat.le_refl _) (Nat.le_refl _) rfl (fun φ1 hR1 => ?_)
  obtain ⟨tpq1, hH1, hB1, hc1, hq1, fr1⟩ := hR1
  refine q_if0_s (p2 := 216) rfl (by decide) (by omega) rfl (fun hb => absurd hb (show ¬ (1 = 0) by omega)) (fun _ => ?_)
  refine q_load (v := (6, 0, 0)) (p2 := 217) rfl rfl rfl rfl ?_
  refine q_load (v := (0, i, 0)) (p2 := 218) rfl rfl rfl rfl ?_
  refine q_callrE (xs := [(0, i, 0), (6, 0, 0)]) (p2 := 219) rfl rfl rfl rfl (fun _ _ => rfl) rfl (zc_pn_1_1 hH1 hB1 (by omega) hc1) (Nat.le_refl _) (Nat.le_refl _) rfl (fun φ2 hR2 => ?_)
  obtain ⟨tpq2, hH2, hB2, hq2_0, hq2_1, fr2⟩ := hR2
  refine q_if0_s (p2 := 220) rfl (by decide) (by omega) rfl (fun hb => absurd hb (show ¬ (1 = 0) by omega)) (fun _ => ?_)
  refine q_load (v := (6, 0, 0)) (p2 := 221) rfl rfl rfl rfl ?_
  refine q_const (p2 := 222) rfl rfl ?_
  refine q_callrE (xs := [(0, 61, 0), (6, 0, 0)]) (p2 := 223) rfl rfl rfl rfl (fun _ _ => rfl) rfl (zc_put hH2 hB2 (by omega) (by omega)) (Nat.le_refl _) (Nat.le_refl _) rfl (fun φ3 hR3 => ?_)
  obtain ⟨tpq3, hH3, hB3, hc3, hq3, fr3⟩ := hR3
  refine q_if0_s (p2 := 224) rfl (by decide) (by omega) rfl (fun hb => absurd hb (show ¬ (1 = 0) by omega)) (fun _ => ?_)
  refine q_load (v := (6, 0, 0)) (p2 := 225) rfl rfl rfl rfl ?_
  refine q_const (p2 := 226) rfl rfl ?_
  refine q_callrE (xs := [(0, 35, 0), (6, 0, 0)]) (p2 := 227) rfl rfl rfl rfl (fun _ _ => rfl) rfl (zc_put hH3 hB3 (by omega) (by omega)) (Nat.le_refl _) (Nat.le_refl _) rfl (fun φ4 hR4 => ?_)
  obtain ⟨tpq4, hH4, hB4, hc4, hq4, fr4⟩ := hR4
  refine q_if0_s (p2 := 228) rfl (by decide) (by omega) rfl (fun hb => absurd hb (show ¬ (1 = 0) by omega)) (fun _ => ?_)
  refine q_load (v := (6, 0, 0)) (p2 := 229) rfl rfl rfl rfl ?_
  refine q_load (v := (0, j, 0)) (p2 := 230) rfl rfl rfl rfl ?_
  refine q_callrE (xs := [(0, j, 0), (6, 0, 0)]) (p2 := 231) rfl rfl rfl rfl (fun _ _ => rfl) rfl (zc_pn_1_4 hH4 hB4 (by omega) ((hq4 0 (by omega)).trans ((hq3 0 (by omega)).trans hq2_0)) ((hq4 1 (by omega)).trans ((hq3 1 (by omega)).trans hq2_1)) ((hq4 2 (by omega)).trans hc3) hc4) (Nat.le_refl _) (Nat.le_refl _) rfl (fun φ5 hR5 => ?_)
  obtain ⟨tpq5, hH5, hB5, hq5_0, hq5_1, hq5_2, hq5_3, hq5_4, fr5⟩ := hR5
  refine q_if0_s (p2 := 232) rfl (by decide) (by omega) rfl (fun hb => absurd hb (show ¬ (1 = 0) by omega)) (fun _ => ?_)
  refine q_const (p2 := 233) rfl rfl ?_
  refine q_goto rfl ?_
  refine q_store (loc2 := [(6, 0, 0), (0, x, 0), (0, i, 0), (0, j, 0), (0, 1, 0)]) (p2 := 236) rfl rfl rfl rfl rfl ?_
  refine q_load (v := (6, 0, 0)) (p2 := 237) rfl rfl rfl rfl ?_
  refine q_load (v := (0, 1, 0)) (p2 := 238) rfl rfl rfl rfl ?_
  refine q_if0_s (p2 := 239) rfl (by decide) (by omega) rfl (fun hb => absurd hb (show ¬ (1 = 0) by omega)) (fun _ => ?_)
  refine q_load (v := (6, 0, 0)) (p2 := 240) rfl rfl rfl rfl ?_
  have hm6 := (zTJ_at hTJ (fun j h1 h2 => ((fr5 j (by omega) (by omega)).trans ((fr4 j (by omega) (by omega)).trans ((fr3 j (by omega) (by omega)).trans ((fr2 j (by omega) (by omega)).trans (fr1 j (by omega) (by omega))))))))
  have hm7 := (zEJ_at hEJ (fun j h1 h2 => ((fr5 j (by omega) (by omega)).trans ((fr4 j (by omega) (by omega)).trans ((fr3 j (by omega) (by omega)).trans ((fr2 j (by omega) (by omega)).trans (fr1 j (by omega) (by omega))))))))
  have hm8 := (zq_nm_at hN ((fr5 239 (by decide) (by decide)).trans ((fr4 239 (by decide) (by decide)).trans ((fr3 239 (by decide) (by decide)).trans ((fr2 239 (by decide) (by decide)).trans (fr1 239 (by decide) (by decide)))))) ((fr5 242 (by decide) (by decide)).trans ((fr4 242 (by decide) (by decide)).trans ((fr3 242 (by decide) (by decide)).trans ((fr2 242 (by decide) (by decide)).trans (fr1 242 (by decide) (by decide)))))) ((fr5 244 (by decide) (by decide)).trans ((fr4 244 (by decide) (by decide)).trans ((fr3 244 (by decide) (by decide)).trans ((fr2 244 (by decide) (by decide)).trans (fr1 244 (by decide) (by decide)))))))
  have hm9 := (x_KS_at2 hKS (fun j h1 h2 h3 h4 => ((fr5 j (by omega) (by omega)).trans ((fr4 j (by omega) (by omega)).trans ((fr3 j (by omega) (by omega)).trans ((fr2 j (by omega) (by omega)).trans (fr1 j (by omega) (by omega))))))))
  refine x_n_lt (fun hlt11 => ?_)
  have hm10 := (x_PS_at hPS (fun j hj hne => by have hj2 := x_some_lt hlt0 hne; exact ((fr5 j (by omega) (by omega)).trans ((fr4 j (by omega) (by omega)).trans ((fr3 j (by omega) (by omega)).trans ((fr2 j (by omega) (by omega)).trans (fr1 j (by omega) (by omega))))))))
  have hm12 := (x_LK_at2 hLK0 (fun j h1 h2 => ((fr5 j (by omega) (by omega)).trans ((fr4 j (by omega) (by omega)).trans ((fr3 j (by omega) (by omega)).trans ((fr2 j (by omega) (by omega)).trans (fr1 j (by omega) (by omega))))))))
  have hm13 := (x_SP_at hSP (fun j hj hne => by have hj2 := x_some_lt hlt0 hne; exact ((fr5 j (by omega) (by omega)).trans ((fr4 j (by omega) (by omega)).trans ((fr3 j (by omega) (by omega)).trans ((fr2 j (by omega) (by omega)).trans (fr1 j (by omega) (by omega))))))))
  have hm14 := (zq_V5_at hV5 ((fr5 485 (by decide) (by decide)).trans ((fr4 485 (by decide) (by decide)).trans ((fr3 485 (by decide) (by decide)).trans ((fr2 485 (by decide) (by decide)).trans (fr1 485 (by decide) (by decide)))))))
  have hm15 := (zq_SL_at hSL ((fr5 482 (by decide) (by decide)).trans ((fr4 482 (by decide) (by decide)).trans ((fr3 482 (by decide) (by decide)).trans ((fr2 482 (by decide) (by decide)).trans (fr1 482 (by decide) (by decide)))))))
  have hm16 := (zq_RW_at hRW ((fr5 483 (by decide) (by decide)).trans ((fr4 483 (by decide) (by decide)).trans ((fr3 483 (by decide) (by decide)).trans ((fr2 483 (by decide) (by decide)).trans (fr1 483 (by decide) (by decide)))))))
  have hm17 := (zq_J_at hJ ((fr5 468 (by decide) (by decide)).trans ((fr4 468 (by decide) (by decide)).trans ((fr3 468 (by decide) (by decide)).trans ((fr2 468 (by decide) (by decide)).trans (fr1 468 (by decide) (by decide)))))) ((fr5 469 (by decide) (by decide)).trans ((fr4 469 (by decide) (by decide)).trans ((fr3 469 (by decide) (by decide)).trans ((fr2 469 (by decide) (by decide)).trans (fr1 469 (by decide) (by decide)))))) ((fr5 470 (by decide) (by decide)).trans ((fr4 470 (by decide) (by decide)).trans ((fr3 470 (by decide) (by decide)).trans ((fr2 470 (by decide) (by decide)).trans (fr1 470 (by decide) (by decide)))))))
  have hm18 := (zFJ_at hFJ (fun j h1 h2 => ((fr5 j (by omega) (by omega)).trans ((fr4 j (by omega) (by omega)).trans ((fr3 j (by omega) (by omega)).trans ((fr2 j (by omega) (by omega)).trans (fr1 j (by omega) (by omega))))))))
  have hm19 := (zWJ_at hWJ (fun j h1 h2 => ((fr5 j (by omega) (by omega)).trans ((fr4 j (by omega) (by omega)).trans ((fr3 j (by omega) (by omega)).trans ((fr2 j (by omega) (by omega)).trans (fr1 j (by omega) (by omega))))))))
  have hm20 := (zq_OV_at hOV ((fr5 452 (by decide) (by decide)).trans ((fr4 452 (by decide) (by decide)).trans ((fr3 452 (by decide) (by decide)).trans ((fr2 452 (by decide) (by decide)).trans (fr1 452 (by decide) (by decide)))))) ((fr5 453 (by decide) (by decide)).trans ((fr4 453 (by decide) (by decide)).trans ((fr3 453 (by decide) (by decide)).trans ((fr2 453 (by decide) (by decide)).trans (fr1 453 (by decide) (by decide)))))))
  have hGz21 : zG φ5 5 tpq5 lf mi made sv svm comb hm sc sm mh noted verd ins ver sz bw := ⟨⟨_, _, hH5, (x_hw_at hhw (fun j hj hne => by have hj2 := x_some_lt hlt0 hne; exact ((fr5 j (by omega) (by omega)).trans ((fr4 j (by omega) (by omega)).trans ((fr3 j (by omega) (by omega)).trans ((fr2 j (by omega) (by omega)).trans (fr1 j (by omega) (by omega))))))))⟩, hB5, hm6, hm7, hm8, ⟨_, ⟨_, _, _, _, _, _, _, _, _, _, hm9⟩, hco⟩, ⟨_, _, _, hm10, hm12⟩, hm13, hm14, ⟨_, hm15⟩, hm16, hm17, hm18, hm19, ⟨_, _, hm20, hovn, hovh⟩⟩
  refine q_callrB (xs := [(6, 0, 0)]) (p2 := 241) rfl rfl rfl rfl (x_rcv_s 0 hH5) rfl (zc_work_eq_nn (w1 := i) (w2 := j) hGz21 (by omega) hpv (by omega) (hq5_0) (hq5_1) (hq5_2) (hq5_3) (hq5_4) (by omega) (by omega) (by omega) (by omega) (by omega) (by omega) h1 h2) rfl (fun w21 φ21 n21 sl21 hn21 hN21 hs21 hT21 hR21 => ?_)
  obtain ⟨hwz21, hGr21⟩ := hR21
  subst hwz21
  have hG := hGr21
  skip
  obtain ⟨⟨hand, ie, hH, hhw⟩, hB, hTJ, hEJ, hN, hKJ, ⟨A, B, s9, hPS, hLK0⟩, hSP, hV5, ⟨slq, hSL⟩, hRW, hJ, hFJ, hWJ, ⟨ovn, ovh, hOV, hovn, hovh⟩⟩ := hG
  refine x_n_lt (fun hlt0 => ?_)
  have hmade := x_PS_lt hPS
  obtain ⟨co, ⟨top_, fr_, pc_, mm, st, lo, re, rs, fl, se, hKS⟩, hco⟩ := hKJ
  refine q_goto rfl ?_
  refine q_callrE (xs := [(0, 3, 0), (6, 0, 0)]) (p2 := 244) rfl rfl rfl rfl (fun _ _ => rfl) rfl (zc_done hH hPS (by omega)) (Nat.le_refl _) (Nat.le_refl _) rfl (fun φ23 hR23 => ?_)
  obtain ⟨hs23_0, fr23⟩ := hR23
  have hm24 := (zq_tp_at hB (fr23 1 (by decide)))
  have hm25 := (zTJ_at hTJ (fun j h1 h2 => (fr23 j (by omega))))
  have hm26 := (zEJ_at hEJ (fun j h1 h2 => (fr23 j (by omega))))
  have hm27 := (zq_nm_at hN (fr23 239 (by decide)) (fr23 242 (by decide)) (fr23 244 (by decide)))
  have hm28 := (x_KS_at2 hKS (fun j h1 h2 h3 h4 => (fr23 j (by omega))))
  refine x_n_lt (fun hlt30 => ?_)
  have hm29 := (x_PS_at hPS (fun j hj hne => by have hj2 := x_some_lt hlt0 hne; exact (fr23 j (by omega))))
  have hm31 := (x_LK_at2 hLK0 (fun j h1 h2 => (fr23 j (by omega))))
  have hm32 := (x_SP_at hSP (fun j hj hne => by have hj2 := x_some_lt hlt0 hne; exact (fr23 j (by omega))))
  have hm33 := (zq_V5_at hV5 (fr23 485 (by decide)))
  have hm34 := (zq_SL_at hSL (fr23 482 (by decide)))
  have hm35 := (zq_RW_at hRW (fr23 483 (by decide)))
  have hm36 := (zq_J_at hJ (fr23 468 (by decide)) (fr23 469 (by decide)) (fr23 470 (by decide)))
  have hm37 := (zFJ_at hFJ (fun j h1 h2 => (fr23 j (by omega))))
  have hm38 := (zWJ_at hWJ (fun j h1 h2 => (fr23 j (by omega))))
  have hm39 := (zq_OV_at hOV (fr23 452 (by decide)) (fr23 453 (by decide)))
  exact q_retv (v := (0, 3, 0)) rfl rfl (⟨rfl, ⟨by omega, by omega⟩, ⟨by omega, by omega⟩, _, rfl, ⟨⟨_, _, hs23_0, (x_hw_at hhw (fun j hj hne => by have hj2 := x_some_lt hlt0 hne; exact (fr23 j (by omega))))⟩, hm24, hm25, hm26, hm27, ⟨_, ⟨_, _, _, _, _, _, _, _, _, _, hm28⟩, hco⟩, ⟨_, _, _, hm29, hm31⟩, hm32, hm33, ⟨_, hm34⟩, hm35, hm36, hm37, hm38, ⟨_, _, hm39, hovn, hovh⟩⟩⟩)
set_option maxHeartbeats 1000000 in
theorem zc_call_6_n {d n sl : Nat} {φ : FH} {tp : Nat → Nat} {lf : Nat} {mi : Nat} {made : Nat} {sv : Nat} {svm : Nat} {comb : Nat → Nat} {hm : Nat → MV} {sc : Nat → Nat} {sm : Nat → MV} {mh : MV} {noted : Nat} {verd : Nat} {ins : Nat → Nat} {ver : Nat → Nat} {sz : Nat} {bw : Nat → Nat} {x : Nat} {s4 s7 i j : Nat}  (hG : zG φ 0 tp lf mi made sv svm comb hm sc sm mh noted verd ins ver sz bw) (hn0 : 486 ≤ n) (hpv : ∀ i, x_pv2 (hm i)) (hmi : mi + 300 ≤ 20000) (hx32 : x < 4294967296) (hf0 : x >>> 4 = s4) (hf1 : s4 &&& 7 = i) (hf2 : x >>> 7 = s7) (hf3 : s7 &&& 7 = j) (hf4 : x &&& 15 = 6) (hi : i < 8) (hj : j < 8) (hisA : x_isA made comb j 1) (h1 : ¬ (i < made ∧ comb i ≠ 0))  : x_f x_P (d + 12) 4 [(6, 0, 0), (0, x, 0), (11, 0, 0), (11, 0, 0), (11, 0, 0)] φ n sl (x_bR n sl 1 7 (fun zw φ2 => ∃ tpZ : Nat → Nat, zw = (0, 0, 0) ∧ zG φ2 0 tpZ 0 (mi + 1) made sv svm comb (zhm hm (j * 40 + 3) MV0) sc sm mh noted verd ins ver sz bw)) := by
  refine x_f_of rfl ?_
  have hG0 := hG
  obtain ⟨⟨hand, ie, hH, hhw⟩, hB, hTJ, hEJ, hN, hKJ, ⟨A, B, s9, hPS, hLK0⟩, hSP, hV5, ⟨slq, hSL⟩, hRW, hJ, hFJ, hWJ, ⟨ovn, ovh, hOV, hovn, hovh⟩⟩ := hG
  refine x_n_lt (fun hlt0 => ?_)
  have hmade := x_PS_lt hPS
  obtain ⟨co, ⟨top_, fr_, pc_, mm, st, lo, re, rs, fl, se, hKS⟩, hco⟩ := hKJ
  refine q_load (v := (0, x, 0)) (p2 := 1) rfl rfl rfl rfl ?_
  refine q_const (p2 := 2) rfl rfl ?_
  refine q_iushrz (z := s4) (p2 := 3) rfl (by omega) hf0 rfl ?_
  refine q_const (p2 := 4) rfl rfl ?_
  refine q_iandz (z := i) (p2 := 5) rfl hf1 (by omega) rfl ?_
  refine q_store (loc2 := [(6, 0, 0), (0, x, 0), (0, i, 0), (11, 0, 0), (11, 0, 0)]) (p2 := 6) rfl rfl rfl rfl rfl ?_
  refine q_load (v := (0, x, 0)) (p2 := 7) rfl rfl rfl rfl ?_
  refine q_const (p2 := 8) rfl rfl ?_
  refine q_iushrz (z := s7) (p2 := 9) rfl (by omega) hf2 rfl ?_
  refine q_const (p2 := 10) rfl rfl ?_
  refine q_iandz (z := j) (p2 := 11) rfl hf3 (by omega) rfl ?_
  refine q_store (loc2 := [(6, 0, 0), (0, x, 0), (0, i, 0), (0, j, 0), (11, 0, 0)]) (p2 := 12) rfl rfl rfl rfl rfl ?_
  refine q_const (p2 := 13) rfl rfl ?_
  refine q_store (loc2 := [(6, 0, 0), (0, x, 0), (0, i, 0), (0, j, 0), (0, 1, 0)]) (p2 := 14) rfl rfl rfl rfl rfl ?_
  refine q_load (v := (0, x, 0)) (p2 := 15) rfl rfl rfl rfl ?_
  refine q_const (p2 := 16) rfl rfl ?_
  refine q_iandz (z := 6) (p2 := 17) rfl hf4 (by omega) rfl ?_
  refine q_switch (tgt := 100) rfl (by decide) rfl ?_
  refine q_load (v := (6, 0, 0)) (p2 := 101) rfl rfl rfl rfl ?_
  refine q_const (p2 := 102) rfl rfl ?_
  refine q_callrE (xs := [(0, 35, 0), (6, 0, 0)]) (p2 := 103) rfl rfl rfl rfl (fun _ _ => rfl) rfl (zc_put hH hB (by omega) (by omega)) (Nat.le_refl _) (Nat.le_refl _) rfl (fun φ1 hR1 => ?_)
  obtain ⟨tpq1, hH1, hB1, hc1, hq1, fr1⟩ := hR1
  refine q_if0_s (p2 := 104) rfl (by decide) (by omega) rfl (fun hb => absurd hb (show ¬ (1 = 0) by omega)) (fun _ => ?_)
  refine q_load (v := (6, 0, 0)) (p2 := 105) rfl rfl rfl rfl ?_
  refine q_load (v := (0, i, 0)) (p2 := 106) rfl rfl rfl rfl ?_
  refine q_callrE (xs := [(0, i, 0), (6, 0, 0)]) (p2 := 107) rfl rfl rfl rfl (fun _ _ => rfl) rfl (zc_pn_1_1 hH1 hB1 (by omega) hc1) (Nat.le_refl _) (Nat.le_refl _) rfl (fun φ2 hR2 => ?_)
  obtain ⟨tpq2, hH2, hB2, hq2_0, hq2_1, fr2⟩ := hR2
  refine q_if0_s (p2 := 108) rfl (by decide) (by omega) rfl (fun hb => absurd hb (show ¬ (1 = 0) by omega)) (fun _ => ?_)
  refine q_const (p2 := 109) rfl rfl ?_
  refine q_goto rfl ?_
  refine q_store (loc2 := [(6, 0, 0), (0, x, 0), (0, i, 0), (0, j, 0), (0, 1, 0)]) (p2 := 112) rfl rfl rfl rfl rfl ?_
  refine q_load (v := (6, 0, 0)) (p2 := 113) rfl rfl rfl rfl ?_
  refine q_load (v := (0, 1, 0)) (p2 := 114) rfl rfl rfl rfl ?_
  refine q_if0_s (p2 := 115) rfl (by decide) (by omega) rfl (fun hb => absurd hb (show ¬ (1 = 0) by omega)) (fun _ => ?_)
  refine q_load (v := (6, 0, 0)) (p2 := 116) rfl rfl rfl rfl ?_
  refine q_load (v := (0, j, 0)) (p2 := 117) rfl rfl rfl rfl ?_
  refine q_const (p2 := 118) rfl rfl ?_
  have hm3 := (zTJ_at hTJ (fun j h1 h2 => ((fr2 j (by omega) (by omega)).trans (fr1 j (by omega) (by omega)))))
  have hm4 := (zEJ_at hEJ (fun j h1 h2 => ((fr2 j (by omega) (by omega)).trans (fr1 j (by omega) (by omega)))))
  have hm5 := (zq_nm_at hN ((fr2 239 (by decide) (by decide)).trans (fr1 239 (by decide) (by decide))) ((fr2 242 (by decide) (by decide)).trans (fr1 242 (by decide) (by decide))) ((fr2 244 (by decide) (by decide)).trans (fr1 244 (by decide) (by decide))))
  have hm6 := (x_KS_at2 hKS (fun j h1 h2 h3 h4 => ((fr2 j (by omega) (by omega)).trans (fr1 j (by omega) (by omega)))))
  refine x_n_lt (fun hlt8 => ?_)
  have hm7 := (x_PS_at hPS (fun j hj hne => by have hj2 := x_some_lt hlt0 hne; exact ((fr2 j (by omega) (by omega)).trans (fr1 j (by omega) (by omega)))))
  have hm9 := (x_LK_at2 hLK0 (fun j h1 h2 => ((fr2 j (by omega) (by omega)).trans (fr1 j (by omega) (by omega)))))
  have hm10 := (x_SP_at hSP (fun j hj hne => by have hj2 := x_some_lt hlt0 hne; exact ((fr2 j (by omega) (by omega)).trans (fr1 j (by omega) (by omega)))))
  have hm11 := (zq_V5_at hV5 ((fr2 485 (by decide) (by decide)).trans (fr1 485 (by decide) (by decide))))
  have hm12 := (zq_SL_at hSL ((fr2 482 (by decide) (by decide)).trans (fr1 482 (by decide) (by decide))))
  have hm13 := (zq_RW_at hRW ((fr2 483 (by decide) (by decide)).trans (fr1 483 (by decide) (by decide))))
  have hm14 := (zq_J_at hJ ((fr2 468 (by decide) (by decide)).trans (fr1 468 (by decide) (by decide))) ((fr2 469 (by decide) (by decide)).trans (fr1 469 (by decide) (by decide))) ((fr2 470 (by decide) (by decide)).trans (fr1 470 (by decide) (by decide))))
  have hm15 := (zFJ_at hFJ (fun j h1 h2 => ((fr2 j (by omega) (by omega)).trans (fr1 j (by omega) (by omega)))))
  have hm16 := (zWJ_at hWJ (fun j h1 h2 => ((fr2 j (by omega) (by omega)).trans (fr1 j (by omega) (by omega)))))
  have hm17 := (zq_OV_at hOV ((fr2 452 (by decide) (by decide)).trans (fr1 452 (by decide) (by decide))) ((fr2 453 (by decide) (by decide)).trans (fr1 453 (by decide) (by decide))))
  have hGz18 : zG φ2 2 tpq2 lf mi made sv svm comb hm sc sm mh noted verd ins ver sz bw := ⟨⟨_, _, hH2, (x_hw_at hhw (fun j hj hne => by have hj2 := x_some_lt hlt0 hne; exact ((fr2 j (by omega) (by omega)).trans (fr1 j (by omega) (by omega)))))⟩, hB2, hm3, hm4, hm5, ⟨_, ⟨_, _, _, _, _, _, _, _, _, _, hm6⟩, hco⟩, ⟨_, _, _, hm7, hm9⟩, hm10, hm11, ⟨_, hm12⟩, hm13, hm14, hm15, hm16, ⟨_, _, hm17, hovn, hovh⟩⟩
  refine q_callrB (xs := [(0, 3, 0), (0, j, 0), (6, 0, 0)]) (p2 := 119) rfl rfl rfl rfl (x_rcv_s 0 hH2) rfl (zc_set3_n (x := j) (w1 := i) hGz18 (by omega) hpv (by omega) (by omega) hisA (hq2_0) (hq2_1) (by omega) (by omega) (by omega) h1) rfl (fun w18 φ18 n18 sl18 hn18 hN18 hs18 hT18 hR18 => ?_)
  obtain ⟨hwz18, hGr18⟩ := hR18
  subst hwz18
  have hG := hGr18
  skip
  obtain ⟨⟨hand, ie, hH, hhw⟩, hB, hTJ, hEJ, hN, hKJ, ⟨A, B, s9, hPS, hLK0⟩, hSP, hV5, ⟨slq, hSL⟩, hRW, hJ, hFJ, hWJ, ⟨ovn, ovh, hOV, hovn, hovh⟩⟩ := hG
  refine x_n_lt (fun hlt0 => ?_)
  have hmade := x_PS_lt hPS
  obtain ⟨co, ⟨top_, fr_, pc_, mm, st, lo, re, rs, fl, se, hKS⟩, hco⟩ := hKJ
  refine q_goto rfl ?_
  refine q_callrE (xs := [(0, 0, 0), (6, 0, 0)]) (p2 := 122) rfl rfl rfl rfl (fun _ _ => rfl) rfl (zc_done hH hPS (by omega)) (Nat.le_refl _) (Nat.le_refl _) rfl (fun φ20 hR20 => ?_)
  obtain ⟨hs20_0, fr20⟩ := hR20
  have hm21 := (zq_tp_at hB (fr20 1 (by decide)))
  have hm22 := (zTJ_at hTJ (fun j h1 h2 => (fr20 j (by omega))))
  have hm23 := (zEJ_at hEJ (fun j h1 h2 => (fr20 j (by omega))))
  have hm24 := (zq_nm_at hN (fr20 239 (by decide)) (fr20 242 (by decide)) (fr20 244 (by decide)))
  have hm25 := (x_KS_at2 hKS (fun j h1 h2 h3 h4 => (fr20 j (by omega))))
  refine x_n_lt (fun hlt27 => ?_)
  have hm26 := (x_PS_at hPS (fun j hj hne => by have hj2 := x_some_lt hlt0 hne; exact (fr20 j (by omega))))
  have hm28 := (x_LK_at2 hLK0 (fun j h1 h2 => (fr20 j (by omega))))
  have hm29 := (x_SP_at hSP (fun j hj hne => by have hj2 := x_some_lt hlt0 hne; exact (fr20 j (by omega))))
  have hm30 := (zq_V5_at hV5 (fr20 485 (by decide)))
  have hm31 := (zq_SL_at hSL (fr20 482 (by decide)))
  have hm32 := (zq_RW_at hRW (fr20 483 (by decide)))
  have hm33 := (zq_J_at hJ (fr20 468 (by decide)) (fr20 469 (by decide)) (fr20 470 (by decide)))
  have hm34 := (zFJ_at hFJ (fun j h1 h2 => (fr20 j (by omega))))
  have hm35 := (zWJ_at hWJ (fun j h1 h2 => (fr20 j (by omega))))
  have hm36 := (zq_OV_at hOV (fr20 452 (by decide)) (fr20 453 (by decide)))
  exact q_retv (v := (0, 0, 0)) rfl rfl (⟨rfl, ⟨by omega, by omega⟩, ⟨by omega, by omega⟩, _, rfl, ⟨⟨_, _, hs20_0, (x_hw_at hhw (fun j hj hne => by have hj2 := x_some_lt hlt0 hne; exact (fr20 j (by omega))))⟩, hm21, hm22, hm23, hm24, ⟨_, ⟨_, _, _, _, _, _, _, _, _, _, hm25⟩, hco⟩, ⟨_, _, _, hm26, hm28⟩, hm29, hm30, ⟨_, hm31⟩, hm32, hm33, hm34, hm35, ⟨_, _, hm36, hovn, hovh⟩⟩⟩)
set_option maxHeartbeats 1000000 in
theorem zc_call_7_n {d n sl : Nat} {φ : FH} {tp : Nat → Nat} {lf : Nat} {mi : Nat} {made : Nat} {sv : Nat} {svm : Nat} {comb : Nat → Nat} {hm : Nat → MV} {sc : Nat → Nat} {sm : Nat → MV} {mh : MV} {noted : Nat} {verd : Nat} {ins : Nat → Nat} {ver : Nat → Nat} {sz : Nat} {bw : Nat → Nat} {x : Nat} {s4 s7 i j : Nat}  (hG : zG φ 0 tp lf mi made sv svm comb hm sc sm mh noted verd ins ver sz bw) (hn0 : 486 ≤ n) (hpv : ∀ i, x_pv2 (hm i)) (hmi : mi + 300 ≤ 20000) (hx32 : x < 4294967296) (hf0 : x >>> 4 = s4) (hf1 : s4 &&& 7 = i) (hf2 : x >>> 7 = s7) (hf3 : s7 &&& 7 = j) (hf4 : x &&& 15 = 7) (hi : i < 8) (hj : j < 8) (hisA : x_isA made comb j 1) (h1 : ¬ (i < made ∧ comb i ≠ 0))  : x_f x_P (d + 12) 4 [(6, 0, 0), (0, x, 0), (11, 0, 0), (11, 0, 0), (11, 0, 0)] φ n sl (x_bR n sl 1 7 (fun zw φ2 => ∃ tpZ : Nat → Nat, zw = (0, 0, 0) ∧ zG φ2 0 tpZ 0 (mi + 1) made sv svm comb (zhm hm (j * 40 + 3) MV0) sc sm mh noted verd ins ver sz bw)) := by
  refine x_f_of rfl ?_
  have hG0 := hG
  obtain ⟨⟨hand, ie, hH, hhw⟩, hB, hTJ, hEJ, hN, hKJ, ⟨A, B, s9, hPS, hLK0⟩, hSP, hV5, ⟨slq, hSL⟩, hRW, hJ, hFJ, hWJ, ⟨ovn, ovh, hOV, hovn, hovh⟩⟩ := hG
  refine x_n_lt (fun hlt0 => ?_)
  have hmade := x_PS_lt hPS
  obtain ⟨co, ⟨top_, fr_, pc_, mm, st, lo, re, rs, fl, se, hKS⟩, hco⟩ := hKJ
  refine q_load (v := (0, x, 0)) (p2 := 1) rfl rfl rfl rfl ?_
  refine q_const (p2 := 2) rfl rfl ?_
  refine q_iushrz (z := s4) (p2 := 3) rfl (by omega) hf0 rfl ?_
  refine q_const (p2 := 4) rfl rfl ?_
  refine q_iandz (z := i) (p2 := 5) rfl hf1 (by omega) rfl ?_
  refine q_store (loc2 := [(6, 0, 0), (0, x, 0), (0, i, 0), (11, 0, 0), (11, 0, 0)]) (p2 := 6) rfl rfl rfl rfl rfl ?_
  refine q_load (v := (0, x, 0)) (p2 := 7) rfl rfl rfl rfl ?_
  refine q_const (p2 := 8) rfl rfl ?_
  refine q_iushrz (z := s7) (p2 := 9) rfl (by omega) hf2 rfl ?_
  refine q_const (p2 := 10) rfl rfl ?_
  refine q_iandz (z := j) (p2 := 11) rfl hf3 (by omega) rfl ?_
  refine q_store (loc2 := [(6, 0, 0), (0, x, 0), (0, i, 0), (0, j, 0), (11, 0, 0)]) (p2 := 12) rfl rfl rfl rfl rfl ?_
  refine q_const (p2 := 13) rfl rfl ?_
  refine q_store (loc2 := [(6, 0, 0), (0, x, 0), (0, i, 0), (0, j, 0), (0, 1, 0)]) (p2 := 14) rfl rfl rfl rfl rfl ?_
  refine q_load (v := (0, x, 0)) (p2 := 15) rfl rfl rfl rfl ?_
  refine q_const (p2 := 16) rfl rfl ?_
  refine q_iandz (z := 7) (p2 := 17) rfl hf4 (by omega) rfl ?_
  refine q_switch (tgt := 100) rfl (by decide) rfl ?_
  refine q_load (v := (6, 0, 0)) (p2 := 101) rfl rfl rfl rfl ?_
  refine q_const (p2 := 102) rfl rfl ?_
  refine q_callrE (xs := [(0, 35, 0), (6, 0, 0)]) (p2 := 103) rfl rfl rfl rfl (fun _ _ => rfl) rfl (zc_put hH hB (by omega) (by omega)) (Nat.le_refl _) (Nat.le_refl _) rfl (fun φ1 hR1 => ?_)
  obtain ⟨tpq1, hH1, hB1, hc1, hq1, fr1⟩ := hR1
  refine q_if0_s (p2 := 104) rfl (by decide) (by omega) rfl (fun hb => absurd hb (show ¬ (1 = 0) by omega)) (fun _ => ?_)
  refine q_load (v := (6, 0, 0)) (p2 := 105) rfl rfl rfl rfl ?_
  refine q_load (v := (0, i, 0)) (p2 := 106) rfl rfl rfl rfl ?_
  refine q_callrE (xs := [(0, i, 0), (6, 0, 0)]) (p2 := 107) rfl rfl rfl rfl (fun _ _ => rfl) rfl (zc_pn_1_1 hH1 hB1 (by omega) hc1) (Nat.le_refl _) (Nat.le_refl _) rfl (fun φ2 hR2 => ?_)
  obtain ⟨tpq2, hH2, hB2, hq2_0, hq2_1, fr2⟩ := hR2
  refine q_if0_s (p2 := 108) rfl (by decide) (by omega) rfl (fun hb => absurd hb (show ¬ (1 = 0) by omega)) (fun _ => ?_)
  refine q_const (p2 := 109) rfl rfl ?_
  refine q_goto rfl ?_
  refine q_store (loc2 := [(6, 0, 0), (0, x, 0), (0, i, 0), (0, j, 0), (0, 1, 0)]) (p2 := 112) rfl rfl rfl rfl rfl ?_
  refine q_load (v := (6, 0, 0)) (p2 := 113) rfl rfl rfl rfl ?_
  refine q_load (v := (0, 1, 0)) (p2 := 114) rfl rfl rfl rfl ?_
  refine q_if0_s (p2 := 115) rfl (by decide) (by omega) rfl (fun hb => absurd hb (show ¬ (1 = 0) by omega)) (fun _ => ?_)
  refine q_load (v := (6, 0, 0)) (p2 := 116) rfl rfl rfl rfl ?_
  refine q_load (v := (0, j, 0)) (p2 := 117) rfl rfl rfl rfl ?_
  refine q_const (p2 := 118) rfl rfl ?_
  have hm3 := (zTJ_at hTJ (fun j h1 h2 => ((fr2 j (by omega) (by omega)).trans (fr1 j (by omega) (by omega)))))
  have hm4 := (zEJ_at hEJ (fun j h1 h2 => ((fr2 j (by omega) (by omega)).trans (fr1 j (by omega) (by omega)))))
  have hm5 := (zq_nm_at hN ((fr2 239 (by decide) (by decide)).trans (fr1 239 (by decide) (by decide))) ((fr2 242 (by decide) (by decide)).trans (fr1 242 (by decide) (by decide))) ((fr2 244 (by decide) (by decide)).trans (fr1 244 (by decide) (by decide))))
  have hm6 := (x_KS_at2 hKS (fun j h1 h2 h3 h4 => ((fr2 j (by omega) (by omega)).trans (fr1 j (by omega) (by omega)))))
  refine x_n_lt (fun hlt8 => ?_)
  have hm7 := (x_PS_at hPS (fun j hj hne => by have hj2 := x_some_lt hlt0 hne; exact ((fr2 j (by omega) (by omega)).trans (fr1 j (by omega) (by omega)))))
  have hm9 := (x_LK_at2 hLK0 (fun j h1 h2 => ((fr2 j (by omega) (by omega)).trans (fr1 j (by omega) (by omega)))))
  have hm10 := (x_SP_at hSP (fun j hj hne => by have hj2 := x_some_lt hlt0 hne; exact ((fr2 j (by omega) (by omega)).trans (fr1 j (by omega) (by omega)))))
  have hm11 := (zq_V5_at hV5 ((fr2 485 (by decide) (by decide)).trans (fr1 485 (by decide) (by decide))))
  have hm12 := (zq_SL_at hSL ((fr2 482 (by decide) (by decide)).trans (fr1 482 (by decide) (by decide))))
  have hm13 := (zq_RW_at hRW ((fr2 483 (by decide) (by decide)).trans (fr1 483 (by decide) (by decide))))
  have hm14 := (zq_J_at hJ ((fr2 468 (by decide) (by decide)).trans (fr1 468 (by decide) (by decide))) ((fr2 469 (by decide) (by decide)).trans (fr1 469 (by decide) (by decide))) ((fr2 470 (by decide) (by decide)).trans (fr1 470 (by decide) (by decide))))
  have hm15 := (zFJ_at hFJ (fun j h1 h2 => ((fr2 j (by omega) (by omega)).trans (fr1 j (by omega) (by omega)))))
  have hm16 := (zWJ_at hWJ (fun j h1 h2 => ((fr2 j (by omega) (by omega)).trans (fr1 j (by omega) (by omega)))))
  have hm17 := (zq_OV_at hOV ((fr2 452 (by decide) (by decide)).trans (fr1 452 (by decide) (by decide))) ((fr2 453 (by decide) (by decide)).trans (fr1 453 (by decide) (by decide))))
  have hGz18 : zG φ2 2 tpq2 lf mi made sv svm comb hm sc sm mh noted verd ins ver sz bw := ⟨⟨_, _, hH2, (x_hw_at hhw (fun j hj hne => by have hj2 := x_some_lt hlt0 hne; exact ((fr2 j (by omega) (by omega)).trans (fr1 j (by omega) (by omega)))))⟩, hB2, hm3, hm4, hm5, ⟨_, ⟨_, _, _, _, _, _, _, _, _, _, hm6⟩, hco⟩, ⟨_, _, _, hm7, hm9⟩, hm10, hm11, ⟨_, hm12⟩, hm13, hm14, hm15, hm16, ⟨_, _, hm17, hovn, hovh⟩⟩
  refine q_callrB (xs := [(0, 3, 0), (0, j, 0), (6, 0, 0)]) (p2 := 119) rfl rfl rfl rfl (x_rcv_s 0 hH2) rfl (zc_set3_n (x := j) (w1 := i) hGz18 (by omega) hpv (by omega) (by omega) hisA (hq2_0) (hq2_1) (by omega) (by omega) (by omega) h1) rfl (fun w18 φ18 n18 sl18 hn18 hN18 hs18 hT18 hR18 => ?_)
  obtain ⟨hwz18, hGr18⟩ := hR18
  subst hwz18
  have hG := hGr18
  skip
  obtain ⟨⟨hand, ie, hH, hhw⟩, hB, hTJ, hEJ, hN, hKJ, ⟨A, B, s9, hPS, hLK0⟩, hSP, hV5, ⟨slq, hSL⟩, hRW, hJ, hFJ, hWJ, ⟨ovn, ovh, hOV, hovn, hovh⟩⟩ := hG
  refine x_n_lt (fun hlt0 => ?_)
  have hmade := x_PS_lt hPS
  obtain ⟨co, ⟨top_, fr_, pc_, mm, st, lo, re, rs, fl, se, hKS⟩, hco⟩ := hKJ
  refine q_goto rfl ?_
  refine q_callrE (xs := [(0, 0, 0), (6, 0, 0)]) (p2 := 122) rfl rfl rfl rfl (fun _ _ => rfl) rfl (zc_done hH hPS (by omega)) (Nat.le_refl _) (Nat.le_refl _) rfl (fun φ20 hR20 => ?_)
  obtain ⟨hs20_0, fr20⟩ := hR20
  have hm21 := (zq_tp_at hB (fr20 1 (by decide)))
  have hm22 := (zTJ_at hTJ (fun j h1 h2 => (fr20 j (by omega))))
  have hm23 := (zEJ_at hEJ (fun j h1 h2 => (fr20 j (by omega))))
  have hm24 := (zq_nm_at hN (fr20 239 (by decide)) (fr20 242 (by decide)) (fr20 244 (by decide)))
  have hm25 := (x_KS_at2 hKS (fun j h1 h2 h3 h4 => (fr20 j (by omega))))
  refine x_n_lt (fun hlt27 => ?_)
  have hm26 := (x_PS_at hPS (fun j hj hne => by have hj2 := x_some_lt hlt0 hne; exact (fr20 j (by omega))))
  have hm28 := (x_LK_at2 hLK0 (fun j h1 h2 => (fr20 j (by omega))))
  have hm29 := (x_SP_at hSP (fun j hj hne => by have hj2 := x_some_lt hlt0 hne; exact (fr20 j (by omega))))
  have hm30 := (zq_V5_at hV5 (fr20 485 (by decide)))
  have hm31 := (zq_SL_at hSL (fr20 482 (by decide)))
  have hm32 := (zq_RW_at hRW (fr20 483 (by decide)))
  have hm33 := (zq_J_at hJ (fr20 468 (by decide)) (fr20 469 (by decide)) (fr20 470 (by decide)))
  have hm34 := (zFJ_at hFJ (fun j h1 h2 => (fr20 j (by omega))))
  have hm35 := (zWJ_at hWJ (fun j h1 h2 => (fr20 j (by omega))))
  have hm36 := (zq_OV_at hOV (fr20 452 (by decide)) (fr20 453 (by decide)))
  exact q_retv (v := (0, 0, 0)) rfl rfl (⟨rfl, ⟨by omega, by omega⟩, ⟨by omega, by omega⟩, _, rfl, ⟨⟨_, _, hs20_0, (x_hw_at hhw (fun j hj hne => by have hj2 := x_some_lt hlt0 hne; exact (fr20 j (by omega))))⟩, hm21, hm22, hm23, hm24, ⟨_, ⟨_, _, _, _, _, _, _, _, _, _, hm25⟩, hco⟩, ⟨_, _, _, hm26, hm28⟩, hm29, hm30, ⟨_, hm31⟩, hm32, hm33, hm34, hm35, ⟨_, _, hm36, hovn, hovh⟩⟩⟩)
set_option maxHeartbeats 1000000 in
theorem zc_call_11_n {d n sl : Nat} {φ : FH} {tp : Nat → Nat} {lf : Nat} {mi : Nat} {made : Nat} {sv : Nat} {svm : Nat} {comb : Nat → Nat} {hm : Nat → MV} {sc : Nat → Nat} {sm : Nat → MV} {mh : MV} {noted : Nat} {verd : Nat} {ins : Nat → Nat} {ver : Nat → Nat} {sz : Nat} {bw : Nat → Nat} {x : Nat} {s4 s7 i j : Nat}  (hG : zG φ 0 tp lf mi made sv svm comb hm sc sm mh noted verd ins ver sz bw) (hn0 : 486 ≤ n) (hpv : ∀ i, x_pv2 (hm i)) (hmi : mi + 300 ≤ 20000) (hx32 : x < 4294967296) (hf0 : x >>> 4 = s4) (hf1 : s4 &&& 7 = i) (hf2 : x >>> 7 = s7) (hf3 : s7 &&& 7 = j) (hf4 : x &&& 15 = 11) (hi : i < 8) (hj : j < 8) (h1 : ¬ (i < made ∧ comb i ≠ 0)) : x_f x_P (d + 21) 4 [(6, 0, 0), (0, x, 0), (11, 0, 0), (11, 0, 0), (11, 0, 0)] φ n sl (x_bR n sl 4 62 (fun zw φ2 => ∃ tpZ : Nat → Nat, zw = (0, 0, 0) ∧ zG φ2 0 tpZ 0 (mi + 2) made sv svm comb hm sc sm MV0 noted verd ins ver sz bw)) := by
  refine x_f_of rfl ?_
  have hG0 := hG
  obtain ⟨⟨hand, ie, hH, hhw⟩, hB, hTJ, hEJ, hN, hKJ, ⟨A, B, s9, hPS, hLK0⟩, hSP, hV5, ⟨slq, hSL⟩, hRW, hJ, hFJ, hWJ, ⟨ovn, ovh, hOV, hovn, hovh⟩⟩ := hG
  refine x_n_lt (fun hlt0 => ?_)
  have hmade := x_PS_lt hPS
  obtain ⟨co, ⟨top_, fr_, pc_, mm, st, lo, re, rs, fl, se, hKS⟩, hco⟩ := hKJ
  refine q_load (v := (0, x, 0)) (p2 := 1) rfl rfl rfl rfl ?_
  refine q_const (p2 := 2) rfl rfl ?_
  refine q_iushrz (z := s4) (p2 := 3) rfl (by omega) hf0 rfl ?_
  refine q_const (p2 := 4) rfl rfl ?_
  refine q_iandz (z := i) (p2 := 5) rfl hf1 (by omega) rfl ?_
  refine q_store (loc2 := [(6, 0, 0), (0, x, 0), (0, i, 0), (11, 0, 0), (11, 0, 0)]) (p2 := 6) rfl rfl rfl rfl rfl ?_
  refine q_load (v := (0, x, 0)) (p2 := 7) rfl rfl rfl rfl ?_
  refine q_const (p2 := 8) rfl rfl ?_
  refine q_iushrz (z := s7) (p2 := 9) rfl (by omega) hf2 rfl ?_
  refine q_const (p2 := 10) rfl rfl ?_
  refine q_iandz (z := j) (p2 := 11) rfl hf3 (by omega) rfl ?_
  refine q_store (loc2 := [(6, 0, 0), (0, x, 0), (0, i, 0), (0, j, 0), (11, 0, 0)]) (p2 := 12) rfl rfl rfl rfl rfl ?_
  refine q_const (p2 := 13) rfl rfl ?_
  refine q_store (loc2 := [(6, 0, 0), (0, x, 0), (0, i, 0), (0, j, 0), (0, 1, 0)]) (p2 := 14) rfl rfl rfl rfl rfl ?_
  refine q_load (v := (0, x, 0)) (p2 := 15) rfl rfl rfl rfl ?_
  refine q_const (p2 := 16) rfl rfl ?_
  refine q_iandz (z := 11) (p2 := 17) rfl hf4 (by omega) rfl ?_
  refine q_switch (tgt := 179) rfl (by decide) rfl ?_
  refine q_load (v := (6, 0, 0)) (p2 := 180) rfl rfl rfl rfl ?_
  refine q_const (p2 := 181) rfl rfl ?_
  refine q_const (p2 := 182) rfl rfl ?_
  refine q_const (p2 := 183) rfl rfl ?_
  refine q_const (p2 := 184) rfl rfl ?_
  refine q_const (p2 := 185) rfl rfl ?_
  refine q_callrE (xs := [(0, 538976288, 0), (0, 538976288, 0), (0, 538976288, 0), (0, 1768826915, 0), (0, 1970496868, 0), (6, 0, 0)]) (p2 := 186) rfl rfl rfl rfl (x_rcv_s 0 hH) rfl (zc_h_feed_used hH hB) (Nat.le_refl _) (Nat.le_refl _) rfl (fun φ1 hR1 => ?_)
  obtain ⟨hs1_0, hs1_1, fr1⟩ := hR1
  refine q_if0_s (p2 := 187) rfl (by decide) (by omega) rfl (fun hb => absurd hb (show ¬ (20 < 0) by omega)) (fun _ => ?_)
  refine q_load (v := (6, 0, 0)) (p2 := 188) rfl rfl rfl rfl ?_
  refine q_const (p2 := 189) rfl rfl ?_
  refine q_callrE (xs := [(0, 12, 0), (6, 0, 0)]) (p2 := 190) rfl rfl rfl rfl (x_rcv_s 0 hs1_0) rfl (zc_h_cut hs1_0 (by omega)) (Nat.le_refl _) (Nat.le_refl _) rfl (fun φ2 hR2 => ?_)
  obtain ⟨hs2_0, fr2⟩ := hR2
  refine q_if0_s (p2 := 191) rfl (by decide) (by omega) rfl (fun hb => absurd hb (show ¬ (8 < 0) by omega)) (fun _ => ?_)
  refine q_load (v := (6, 0, 0)) (p2 := 192) rfl rfl rfl rfl ?_
  refine q_load (v := (0, i, 0)) (p2 := 193) rfl rfl rfl rfl ?_
  have hm3 := (zq_tp_at hs1_1 (fr2 1 (by decide)))
  refine q_callrE (xs := [(0, i, 0), (6, 0, 0)]) (p2 := 194) rfl rfl rfl rfl (fun _ _ => rfl) rfl (zc_pn_1_8 hs2_0 hm3 (by omega) ((x_s_ne (by decide)).trans ((x_s_ne (by decide)).trans ((x_s_ne (by decide)).trans ((x_s_ne (by decide)).trans ((x_s_ne (by decide)).trans ((x_s_ne (by decide)).trans ((x_s_ne (by decide)).trans ((x_s_ne (by decide)).trans ((x_s_ne (by decide)).trans ((x_s_ne (by decide)).trans ((x_s_ne (by decide)).trans ((x_s_ne (by decide)).trans ((x_s_ne (by decide)).trans ((x_s_ne (by decide)).trans ((x_s_ne (by decide)).trans ((x_s_ne (by decide)).trans ((x_s_ne (by decide)).trans ((x_s_ne (by decide)).trans ((x_s_ne (by decide)).trans (x_s_eq)))))))))))))))))))) ((x_s_ne (by decide)).trans ((x_s_ne (by decide)).trans ((x_s_ne (by decide)).trans ((x_s_ne (by decide)).trans ((x_s_ne (by decide)).trans ((x_s_ne (by decide)).trans ((x_s_ne (by decide)).trans ((x_s_ne (by decide)).trans ((x_s_ne (by decide)).trans ((x_s_ne (by decide)).trans ((x_s_ne (by decide)).trans ((x_s_ne (by decide)).trans ((x_s_ne (by decide)).trans ((x_s_ne (by decide)).trans ((x_s_ne (by decide)).trans ((x_s_ne (by decide)).trans ((x_s_ne (by decide)).trans ((x_s_ne (by decide)).trans (x_s_eq))))))))))))))))))) ((x_s_ne (by decide)).trans ((x_s_ne (by decide)).trans ((x_s_ne (by decide)).trans ((x_s_ne (by decide)).trans ((x_s_ne (by decide)).trans ((x_s_ne (by decide)).trans ((x_s_ne (by decide)).trans ((x_s_ne (by decide)).trans ((x_s_ne (by decide)).trans ((x_s_ne (by decide)).trans ((x_s_ne (by decide)).trans ((x_s_ne (by decide)).trans ((x_s_ne (by decide)).trans ((x_s_ne (by decide)).trans ((x_s_ne (by decide)).trans ((x_s_ne (by decide)).trans ((x_s_ne (by decide)).trans (x_s_eq)))))))))))))))))) ((x_s_ne (by decide)).trans ((x_s_ne (by decide)).trans ((x_s_ne (by decide)).trans ((x_s_ne (by decide)).trans ((x_s_ne (by decide)).trans ((x_s_ne (by decide)).trans ((x_s_ne (by decide)).trans ((x_s_ne (by decide)).trans ((x_s_ne (by decide)).trans ((x_s_ne (by decide)).trans ((x_s_ne (by decide)).trans ((x_s_ne (by decide)).trans ((x_s_ne (by decide)).trans ((x_s_ne (by decide)).trans ((x_s_ne (by decide)).trans ((x_s_ne (by decide)).trans (x_s_eq))))))))))))))))) ((x_s_ne (by decide)).trans ((x_s_ne (by decide)).trans ((x_s_ne (by decide)).trans ((x_s_ne (by decide)).trans ((x_s_ne (by decide)).trans ((x_s_ne (by decide)).trans ((x_s_ne (by decide)).trans ((x_s_ne (by decide)).trans ((x_s_ne (by decide)).trans ((x_s_ne (by decide)).trans ((x_s_ne (by decide)).trans ((x_s_ne (by decide)).trans ((x_s_ne (by decide)).trans ((x_s_ne (by decide)).trans ((x_s_ne (by decide)).trans (x_s_eq)))))))))))))))) ((x_s_ne (by decide)).trans ((x_s_ne (by decide)).trans ((x_s_ne (by decide)).trans ((x_s_ne (by decide)).trans ((x_s_ne (by decide)).trans ((x_s_ne (by decide)).trans ((x_s_ne (by decide)).trans ((x_s_ne (by decide)).trans ((x_s_ne (by decide)).trans ((x_s_ne (by decide)).trans ((x_s_ne (by decide)).trans ((x_s_ne (by decide)).trans ((x_s_ne (by decide)).trans ((x_s_ne (by decide)).trans (x_s_eq))))))))))))))) ((x_s_ne (by decide)).trans ((x_s_ne (by decide)).trans ((x_s_ne (by decide)).trans ((x_s_ne (by decide)).trans ((x_s_ne (by decide)).trans ((x_s_ne (by decide)).trans ((x_s_ne (by decide)).trans ((x_s_ne (by decide)).trans ((x_s_ne (by decide)).trans ((x_s_ne (by decide)).trans ((x_s_ne (by decide)).trans ((x_s_ne (by decide)).trans ((x_s_ne (by decide)).trans (x_s_eq)))))))))))))) ((x_s_ne (by decide)).trans ((x_s_ne (by decide)).trans ((x_s_ne (by decide)).trans ((x_s_ne (by decide)).trans ((x_s_ne (by decide)).trans ((x_s_ne (by decide)).trans ((x_s_ne (by decide)).trans ((x_s_ne (by decide)).trans ((x_s_ne (by decide)).trans ((x_s_ne (by decide)).trans ((x_s_ne (by decide)).trans ((x_s_ne (by decide)).trans (x_s_eq)))))))))))))) (Nat.le_refl _) (Nat.le_refl _) rfl (fun φ4 hR4 => ?_)
  obtain ⟨tpq4, hH4, hB4, hq4_0, hq4_1, hq4_2, hq4_3, hq4_4, hq4_5, hq4_6, hq4_7, hq4_8, fr4⟩ := hR4
  refine q_if0_s (p2 := 195) rfl (by decide) (by omega) rfl (fun hb => absurd hb (show ¬ (1 = 0) by omega)) (fun _ => ?_)
  refine q_load (v := (6, 0, 0)) (p2 := 196) rfl rfl rfl rfl ?_
  refine q_const (p2 := 197) rfl rfl ?_
  refine q_callrE (xs := [(0, 41, 0), (6, 0, 0)]) (p2 := 198) rfl rfl rfl rfl (fun _ _ => rfl) rfl (zc_put hH4 hB4 (by omega) (by omega)) (Nat.le_refl _) (Nat.le_refl _) rfl (fun φ5 hR5 => ?_)
  obtain ⟨tpq5, hH5, hB5, hc5, hq5, fr5⟩ := hR5
  refine q_if0_s (p2 := 199) rfl (by decide) (by omega) rfl (fun hb => absurd hb (show ¬ (1 = 0) by omega)) (fun _ => ?_)
  refine q_const (p2 := 200) rfl rfl ?_
  refine q_goto rfl ?_
  refine q_store (loc2 := [(6, 0, 0), (0, x, 0), (0, i, 0), (0, j, 0), (0, 1, 0)]) (p2 := 203) rfl rfl rfl rfl rfl ?_
  refine q_load (v := (6, 0, 0)) (p2 := 204) rfl rfl rfl rfl ?_
  refine q_load (v := (0, 1, 0)) (p2 := 205) rfl rfl rfl rfl ?_
  refine q_if0_s (p2 := 206) rfl (by decide) (by omega) rfl (fun hb => absurd hb (show ¬ (1 = 0) by omega)) (fun _ => ?_)
  refine q_load (v := (6, 0, 0)) (p2 := 207) rfl rfl rfl rfl ?_
  have hm6 := (zTJ_at hTJ (fun j h1 h2 => ((fr5 j (by omega) (by omega)).trans ((fr4 j (by omega) (by omega)).trans ((fr2 j (by omega)).trans (fr1 j (by omega) (by omega)))))))
  have hm7 := (zEJ_at hEJ (fun j h1 h2 => ((fr5 j (by omega) (by omega)).trans ((fr4 j (by omega) (by omega)).trans ((fr2 j (by omega)).trans (fr1 j (by omega) (by omega)))))))
  have hm8 := (zq_nm_at hN ((fr5 239 (by decide) (by decide)).trans ((fr4 239 (by decide) (by decide)).trans ((fr2 239 (by decide)).trans (fr1 239 (by decide) (by decide))))) ((fr5 242 (by decide) (by decide)).trans ((fr4 242 (by decide) (by decide)).trans ((fr2 242 (by decide)).trans (fr1 242 (by decide) (by decide))))) ((fr5 244 (by decide) (by decide)).trans ((fr4 244 (by decide) (by decide)).trans ((fr2 244 (by decide)).trans (fr1 244 (by decide) (by decide))))))
  have hm9 := (x_KS_at2 hKS (fun j h1 h2 h3 h4 => ((fr5 j (by omega) (by omega)).trans ((fr4 j (by omega) (by omega)).trans ((fr2 j (by omega)).trans (fr1 j (by omega) (by omega)))))))
  refine x_n_lt (fun hlt11 => ?_)
  have hm10 := (x_PS_at hPS (fun j hj hne => by have hj2 := x_some_lt hlt0 hne; exact ((fr5 j (by omega) (by omega)).trans ((fr4 j (by omega) (by omega)).trans ((fr2 j (by omega)).trans (fr1 j (by omega) (by omega)))))))
  have hm12 := (x_LK_at2 hLK0 (fun j h1 h2 => ((fr5 j (by omega) (by omega)).trans ((fr4 j (by omega) (by omega)).trans ((fr2 j (by omega)).trans (fr1 j (by omega) (by omega)))))))
  have hm13 := (x_SP_at hSP (fun j hj hne => by have hj2 := x_some_lt hlt0 hne; exact ((fr5 j (by omega) (by omega)).trans ((fr4 j (by omega) (by omega)).trans ((fr2 j (by omega)).trans (fr1 j (by omega) (by omega)))))))
  have hm14 := (zq_V5_at hV5 ((fr5 485 (by decide) (by decide)).trans ((fr4 485 (by decide) (by decide)).trans ((fr2 485 (by decide)).trans (fr1 485 (by decide) (by decide))))))
  have hm15 := (zq_SL_at hSL ((fr5 482 (by decide) (by decide)).trans ((fr4 482 (by decide) (by decide)).trans ((fr2 482 (by decide)).trans (fr1 482 (by decide) (by decide))))))
  have hm16 := (zq_RW_at hRW ((fr5 483 (by decide) (by decide)).trans ((fr4 483 (by decide) (by decide)).trans ((fr2 483 (by decide)).trans (fr1 483 (by decide) (by decide))))))
  have hm17 := (zq_J_at hJ ((fr5 468 (by decide) (by decide)).trans ((fr4 468 (by decide) (by decide)).trans ((fr2 468 (by decide)).trans (fr1 468 (by decide) (by decide))))) ((fr5 469 (by decide) (by decide)).trans ((fr4 469 (by decide) (by decide)).trans ((fr2 469 (by decide)).trans (fr1 469 (by decide) (by decide))))) ((fr5 470 (by decide) (by decide)).trans ((fr4 470 (by decide) (by decide)).trans ((fr2 470 (by decide)).trans (fr1 470 (by decide) (by decide))))))
  have hm18 := (zFJ_at hFJ (fun j h1 h2 => ((fr5 j (by omega) (by omega)).trans ((fr4 j (by omega) (by omega)).trans ((fr2 j (by omega)).trans (fr1 j (by omega) (by omega)))))))
  have hm19 := (zWJ_at hWJ (fun j h1 h2 => ((fr5 j (by omega) (by omega)).trans ((fr4 j (by omega) (by omega)).trans ((fr2 j (by omega)).trans (fr1 j (by omega) (by omega)))))))
  have hm20 := (zq_OV_at hOV ((fr5 452 (by decide) (by decide)).trans ((fr4 452 (by decide) (by decide)).trans ((fr2 452 (by decide)).trans (fr1 452 (by decide) (by decide))))) ((fr5 453 (by decide) (by decide)).trans ((fr4 453 (by decide) (by decide)).trans ((fr2 453 (by decide)).trans (fr1 453 (by decide) (by decide))))))
  have hGz21 : zG φ5 10 tpq5 lf mi made sv svm comb hm sc sm mh noted verd ins ver sz bw := ⟨⟨_, _, hH5, (x_hw_at hhw (fun j hj hne => by have hj2 := x_some_lt hlt0 hne; exact ((fr5 j (by omega) (by omega)).trans ((fr4 j (by omega) (by omega)).trans ((fr2 j (by omega)).trans (fr1 j (by omega) (by omega)))))))⟩, hB5, hm6, hm7, hm8, ⟨_, ⟨_, _, _, _, _, _, _, _, _, _, hm9⟩, hco⟩, ⟨_, _, _, hm10, hm12⟩, hm13, hm14, ⟨_, hm15⟩, hm16, hm17, hm18, hm19, ⟨_, _, hm20, hovn, hovh⟩⟩
  refine q_callrB (xs := [(6, 0, 0)]) (p2 := 208) rfl rfl rfl rfl (x_rcv_s 0 hH5) rfl (zc_work_used_n (w1 := i) hGz21 (by omega) hpv (by omega) (((hq5 0 (by omega)).trans hq4_0)) (((hq5 1 (by omega)).trans hq4_1)) (((hq5 2 (by omega)).trans hq4_2)) (((hq5 3 (by omega)).trans hq4_3)) (((hq5 4 (by omega)).trans hq4_4)) (((hq5 5 (by omega)).trans hq4_5)) (((hq5 6 (by omega)).trans hq4_6)) (((hq5 7 (by omega)).trans hq4_7)) (((hq5 8 (by omega)).trans hq4_8)) (hc5) (by omega) (by omega) (by omega) h1) rfl (fun w21 φ21 n21 sl21 hn21 hN21 hs21 hT21 hR21 => ?_)
  obtain ⟨hwz21, hGr21⟩ := hR21
  subst hwz21
  have hG := hGr21
  skip
  obtain ⟨⟨hand, ie, hH, hhw⟩, hB, hTJ, hEJ, hN, hKJ, ⟨A, B, s9, hPS, hLK0⟩, hSP, hV5, ⟨slq, hSL⟩, hRW, hJ, hFJ, hWJ, ⟨ovn, ovh, hOV, hovn, hovh⟩⟩ := hG
  refine x_n_lt (fun hlt0 => ?_)
  have hmade := x_PS_lt hPS
  obtain ⟨co, ⟨top_, fr_, pc_, mm, st, lo, re, rs, fl, se, hKS⟩, hco⟩ := hKJ
  refine q_goto rfl ?_
  refine q_callrE (xs := [(0, 0, 0), (6, 0, 0)]) (p2 := 211) rfl rfl rfl rfl (fun _ _ => rfl) rfl (zc_done hH hPS (by omega)) (Nat.le_refl _) (Nat.le_refl _) rfl (fun φ23 hR23 => ?_)
  obtain ⟨hs23_0, fr23⟩ := hR23
  have hm24 := (zq_tp_at hB (fr23 1 (by decide)))
  have hm25 := (zTJ_at hTJ (fun j h1 h2 => (fr23 j (by omega))))
  have hm26 := (zEJ_at hEJ (fun j h1 h2 => (fr23 j (by omega))))
  have hm27 := (zq_nm_at hN (fr23 239 (by decide)) (fr23 242 (by decide)) (fr23 244 (by decide)))
  have hm28 := (x_KS_at2 hKS (fun j h1 h2 h3 h4 => (fr23 j (by omega))))
  refine x_n_lt (fun hlt30 => ?_)
  have hm29 := (x_PS_at hPS (fun j hj hne => by have hj2 := x_some_lt hlt0 hne; exact (fr23 j (by omega))))
  have hm31 := (x_LK_at2 hLK0 (fun j h1 h2 => (fr23 j (by omega))))
  have hm32 := (x_SP_at hSP (fun j hj hne => by have hj2 := x_some_lt hlt0 hne; exact (fr23 j (by omega))))
  have hm33 := (zq_V5_at hV5 (fr23 485 (by decide)))
  have hm34 := (zq_SL_at hSL (fr23 482 (by decide)))
  have hm35 := (zq_RW_at hRW (fr23 483 (by decide)))
  have hm36 := (zq_J_at hJ (fr23 468 (by decide)) (fr23 469 (by decide)) (fr23 470 (by decide)))
  have hm37 := (zFJ_at hFJ (fun j h1 h2 => (fr23 j (by omega))))
  have hm38 := (zWJ_at hWJ (fun j h1 h2 => (fr23 j (by omega))))
  have hm39 := (zq_OV_at hOV (fr23 452 (by decide)) (fr23 453 (by decide)))
  exact q_retv (v := (0, 0, 0)) rfl rfl (⟨rfl, ⟨by omega, by omega⟩, ⟨by omega, by omega⟩, _, rfl, ⟨⟨_, _, hs23_0, (x_hw_at hhw (fun j hj hne => by have hj2 := x_some_lt hlt0 hne; exact (fr23 j (by omega))))⟩, hm24, hm25, hm26, hm27, ⟨_, ⟨_, _, _, _, _, _, _, _, _, _, hm28⟩, hco⟩, ⟨_, _, _, hm29, hm31⟩, hm32, hm33, ⟨_, hm34⟩, hm35, hm36, hm37, hm38, ⟨_, _, hm39, hovn, hovh⟩⟩⟩)
set_option maxHeartbeats 1000000 in
theorem zc_call_6_bad {d n sl : Nat} {φ : FH} {tp : Nat → Nat} {lf : Nat} {mi : Nat} {made : Nat} {sv : Nat} {svm : Nat} {comb : Nat → Nat} {hm : Nat → MV} {sc : Nat → Nat} {sm : Nat → MV} {mh : MV} {noted : Nat} {verd : Nat} {ins : Nat → Nat} {ver : Nat → Nat} {sz : Nat} {bw : Nat → Nat} {x : Nat} {s4 s7 i j : Nat}  (hG : zG φ 0 tp lf mi made sv svm comb hm sc sm mh noted verd ins ver sz bw) (hn0 : 486 ≤ n) (hpv : ∀ i, x_pv2 (hm i)) (hmi : mi + 300 ≤ 20000) (hx32 : x < 4294967296) (hf0 : x >>> 4 = s4) (hf1 : s4 &&& 7 = i) (hf2 : x >>> 7 = s7) (hf3 : s7 &&& 7 = j) (hf4 : x &&& 15 = 6) (hi : i < 8) (hj : j < 8) (hna : ¬ x_isA made comb j 1) : x_f x_P (d + 5) 4 [(6, 0, 0), (0, x, 0), (11, 0, 0), (11, 0, 0), (11, 0, 0)] φ n sl (x_bR n sl 0 0 (fun zw φ2 => ∃ tpZ : Nat → Nat, zw = (0, 4294967295, 0) ∧ zG φ2 0 tpZ lf mi made sv svm comb hm sc sm mh noted verd ins ver sz bw)) := by
  refine x_f_of rfl ?_
  have hG0 := hG
  obtain ⟨⟨hand, ie, hH, hhw⟩, hB, hTJ, hEJ, hN, hKJ, ⟨A, B, s9, hPS, hLK0⟩, hSP, hV5, ⟨slq, hSL⟩, hRW, hJ, hFJ, hWJ, ⟨ovn, ovh, hOV, hovn, hovh⟩⟩ := hG
  refine x_n_lt (fun hlt0 => ?_)
  have hmade := x_PS_lt hPS
  obtain ⟨co, ⟨top_, fr_, pc_, mm, st, lo, re, rs, fl, se, hKS⟩, hco⟩ := hKJ
  refine q_load (v := (0, x, 0)) (p2 := 1) rfl rfl rfl rfl ?_
  refine q_const (p2 := 2) rfl rfl ?_
  refine q_iushrz (z := s4) (p2 := 3) rfl (by omega) hf0 rfl ?_
  refine q_const (p2 := 4) rfl rfl ?_
  refine q_iandz (z := i) (p2 := 5) rfl hf1 (by omega) rfl ?_
  refine q_store (loc2 := [(6, 0, 0), (0, x, 0), (0, i, 0), (11, 0, 0), (11, 0, 0)]) (p2 := 6) rfl rfl rfl rfl rfl ?_
  refine q_load (v := (0, x, 0)) (p2 := 7) rfl rfl rfl rfl ?_
  refine q_const (p2 := 8) rfl rfl ?_
  refine q_iushrz (z := s7) (p2 := 9) rfl (by omega) hf2 rfl ?_
  refine q_const (p2 := 10) rfl rfl ?_
  refine q_iandz (z := j) (p2 := 11) rfl hf3 (by omega) rfl ?_
  refine q_store (loc2 := [(6, 0, 0), (0, x, 0), (0, i, 0), (0, j, 0), (11, 0, 0)]) (p2 := 12) rfl rfl rfl rfl rfl ?_
  refine q_const (p2 := 13) rfl rfl ?_
  refine q_store (loc2 := [(6, 0, 0), (0, x, 0), (0, i, 0), (0, j, 0), (0, 1, 0)]) (p2 := 14) rfl rfl rfl rfl rfl ?_
  refine q_load (v := (0, x, 0)) (p2 := 15) rfl rfl rfl rfl ?_
  refine q_const (p2 := 16) rfl rfl ?_
  refine q_iandz (z := 6) (p2 := 17) rfl hf4 (by omega) rfl ?_
  refine q_switch (tgt := 100) rfl (by decide) rfl ?_
  refine q_load (v := (6, 0, 0)) (p2 := 101) rfl rfl rfl rfl ?_
  refine q_const (p2 := 102) rfl rfl ?_
  refine q_callrE (xs := [(0, 35, 0), (6, 0, 0)]) (p2 := 103) rfl rfl rfl rfl (fun _ _ => rfl) rfl (zc_put hH hB (by omega) (by omega)) (Nat.le_refl _) (Nat.le_refl _) rfl (fun φ1 hR1 => ?_)
  obtain ⟨tpq1, hH1, hB1, hc1, hq1, fr1⟩ := hR1
  refine q_if0_s (p2 := 104) rfl (by decide) (by omega) rfl (fun hb => absurd hb (show ¬ (1 = 0) by omega)) (fun _ => ?_)
  refine q_load (v := (6, 0, 0)) (p2 := 105) rfl rfl rfl rfl ?_
  refine q_load (v := (0, i, 0)) (p2 := 106) rfl rfl rfl rfl ?_
  refine q_callrE (xs := [(0, i, 0), (6, 0, 0)]) (p2 := 107) rfl rfl rfl rfl (fun _ _ => rfl) rfl (zc_pn_1_1 hH1 hB1 (by omega) hc1) (Nat.le_refl _) (Nat.le_refl _) rfl (fun φ2 hR2 => ?_)
  obtain ⟨tpq2, hH2, hB2, hq2_0, hq2_1, fr2⟩ := hR2
  refine q_if0_s (p2 := 108) rfl (by decide) (by omega) rfl (fun hb => absurd hb (show ¬ (1 = 0) by omega)) (fun _ => ?_)
  refine q_const (p2 := 109) rfl rfl ?_
  refine q_goto rfl ?_
  refine q_store (loc2 := [(6, 0, 0), (0, x, 0), (0, i, 0), (0, j, 0), (0, 1, 0)]) (p2 := 112) rfl rfl rfl rfl rfl ?_
  refine q_load (v := (6, 0, 0)) (p2 := 113) rfl rfl rfl rfl ?_
  refine q_load (v := (0, 1, 0)) (p2 := 114) rfl rfl rfl rfl ?_
  refine q_if0_s (p2 := 115) rfl (by decide) (by omega) rfl (fun hb => absurd hb (show ¬ (1 = 0) by omega)) (fun _ => ?_)
  refine q_load (v := (6, 0, 0)) (p2 := 116) rfl rfl rfl rfl ?_
  refine q_load (v := (0, j, 0)) (p2 := 117) rfl rfl rfl rfl ?_
  refine q_const (p2 := 118) rfl rfl ?_
  have hm3 := (zTJ_at hTJ (fun j h1 h2 => ((fr2 j (by omega) (by omega)).trans (fr1 j (by omega) (by omega)))))
  have hm4 := (zEJ_at hEJ (fun j h1 h2 => ((fr2 j (by omega) (by omega)).trans (fr1 j (by omega) (by omega)))))
  have hm5 := (zq_nm_at hN ((fr2 239 (by decide) (by decide)).trans (fr1 239 (by decide) (by decide))) ((fr2 242 (by decide) (by decide)).trans (fr1 242 (by decide) (by decide))) ((fr2 244 (by decide) (by decide)).trans (fr1 244 (by decide) (by decide))))
  have hm6 := (x_KS_at2 hKS (fun j h1 h2 h3 h4 => ((fr2 j (by omega) (by omega)).trans (fr1 j (by omega) (by omega)))))
  refine x_n_lt (fun hlt8 => ?_)
  have hm7 := (x_PS_at hPS (fun j hj hne => by have hj2 := x_some_lt hlt0 hne; exact ((fr2 j (by omega) (by omega)).trans (fr1 j (by omega) (by omega)))))
  have hm9 := (x_LK_at2 hLK0 (fun j h1 h2 => ((fr2 j (by omega) (by omega)).trans (fr1 j (by omega) (by omega)))))
  have hm10 := (x_SP_at hSP (fun j hj hne => by have hj2 := x_some_lt hlt0 hne; exact ((fr2 j (by omega) (by omega)).trans (fr1 j (by omega) (by omega)))))
  have hm11 := (zq_V5_at hV5 ((fr2 485 (by decide) (by decide)).trans (fr1 485 (by decide) (by decide))))
  have hm12 := (zq_SL_at hSL ((fr2 482 (by decide) (by decide)).trans (fr1 482 (by decide) (by decide))))
  have hm13 := (zq_RW_at hRW ((fr2 483 (by decide) (by decide)).trans (fr1 483 (by decide) (by decide))))
  have hm14 := (zq_J_at hJ ((fr2 468 (by decide) (by decide)).trans (fr1 468 (by decide) (by decide))) ((fr2 469 (by decide) (by decide)).trans (fr1 469 (by decide) (by decide))) ((fr2 470 (by decide) (by decide)).trans (fr1 470 (by decide) (by decide))))
  have hm15 := (zFJ_at hFJ (fun j h1 h2 => ((fr2 j (by omega) (by omega)).trans (fr1 j (by omega) (by omega)))))
  have hm16 := (zWJ_at hWJ (fun j h1 h2 => ((fr2 j (by omega) (by omega)).trans (fr1 j (by omega) (by omega)))))
  have hm17 := (zq_OV_at hOV ((fr2 452 (by decide) (by decide)).trans (fr1 452 (by decide) (by decide))) ((fr2 453 (by decide) (by decide)).trans (fr1 453 (by decide) (by decide))))
  have hGz18 : zG φ2 2 tpq2 lf mi made sv svm comb hm sc sm mh noted verd ins ver sz bw := ⟨⟨_, _, hH2, (x_hw_at hhw (fun j hj hne => by have hj2 := x_some_lt hlt0 hne; exact ((fr2 j (by omega) (by omega)).trans (fr1 j (by omega) (by omega)))))⟩, hB2, hm3, hm4, hm5, ⟨_, ⟨_, _, _, _, _, _, _, _, _, _, hm6⟩, hco⟩, ⟨_, _, _, hm7, hm9⟩, hm10, hm11, ⟨_, hm12⟩, hm13, hm14, hm15, hm16, ⟨_, _, hm17, hovn, hovh⟩⟩
  refine q_callrB (xs := [(0, 3, 0), (0, j, 0), (6, 0, 0)]) (p2 := 119) rfl rfl rfl rfl (x_rcv_s 0 hH2) rfl (zc_set3_bad (x := j) hGz18 (by omega) hpv (by omega) (by omega) hna) rfl (fun w18 φ18 n18 sl18 hn18 hN18 hs18 hT18 hR18 => ?_)
  obtain ⟨hwz18, hGr18⟩ := hR18
  subst hwz18
  have hG := hGr18
  skip
  obtain ⟨⟨hand, ie, hH, hhw⟩, hB, hTJ, hEJ, hN, hKJ, ⟨A, B, s9, hPS, hLK0⟩, hSP, hV5, ⟨slq, hSL⟩, hRW, hJ, hFJ, hWJ, ⟨ovn, ovh, hOV, hovn, hovh⟩⟩ := hG
  refine x_n_lt (fun hlt0 => ?_)
  have hmade := x_PS_lt hPS
  obtain ⟨co, ⟨top_, fr_, pc_, mm, st, lo, re, rs, fl, se, hKS⟩, hco⟩ := hKJ
  refine q_goto rfl ?_
  refine q_callrE (xs := [(0, 4294967295, 0), (6, 0, 0)]) (p2 := 122) rfl rfl rfl rfl (fun _ _ => rfl) rfl (zc_done hH hPS (by omega)) (Nat.le_refl _) (Nat.le_refl _) rfl (fun φ20 hR20 => ?_)
  obtain ⟨hs20_0, fr20⟩ := hR20
  have hm21 := (zq_tp_at hB (fr20 1 (by decide)))
  have hm22 := (zTJ_at hTJ (fun j h1 h2 => (fr20 j (by omega))))
  have hm23 := (zEJ_at hEJ (fun j h1 h2 => (fr20 j (by omega))))
  have hm24 := (zq_nm_at hN (fr20 239 (by decide)) (fr20 242 (by decide)) (fr20 244 (by decide)))
  have hm25 := (x_KS_at2 hKS (fun j h1 h2 h3 h4 => (fr20 j (by omega))))
  refine x_n_lt (fun hlt27 => ?_)
  have hm26 := (x_PS_at hPS (fun j hj hne => by have hj2 := x_some_lt hlt0 hne; exact (fr20 j (by omega))))
  have hm28 := (x_LK_at2 hLK0 (fun j h1 h2 => (fr20 j (by omega))))
  have hm29 := (x_SP_at hSP (fun j hj hne => by have hj2 := x_some_lt hlt0 hne; exact (fr20 j (by omega))))
  have hm30 := (zq_V5_at hV5 (fr20 485 (by decide)))
  have hm31 := (zq_SL_at hSL (fr20 482 (by decide)))
  have hm32 := (zq_RW_at hRW (fr20 483 (by decide)))
  have hm33 := (zq_J_at hJ (fr20 468 (by decide)) (fr20 469 (by decide)) (fr20 470 (by decide)))
  have hm34 := (zFJ_at hFJ (fun j h1 h2 => (fr20 j (by omega))))
  have hm35 := (zWJ_at hWJ (fun j h1 h2 => (fr20 j (by omega))))
  have hm36 := (zq_OV_at hOV (fr20 452 (by decide)) (fr20 453 (by decide)))
  exact q_retv (v := (0, 4294967295, 0)) rfl rfl (⟨rfl, ⟨by omega, by omega⟩, ⟨by omega, by omega⟩, _, rfl, ⟨⟨_, _, hs20_0, (x_hw_at hhw (fun j hj hne => by have hj2 := x_some_lt hlt0 hne; exact (fr20 j (by omega))))⟩, hm21, hm22, hm23, hm24, ⟨_, ⟨_, _, _, _, _, _, _, _, _, _, hm25⟩, hco⟩, ⟨_, _, _, hm26, hm28⟩, hm29, hm30, ⟨_, hm31⟩, hm32, hm33, hm34, hm35, ⟨_, _, hm36, hovn, hovh⟩⟩⟩)
set_option maxHeartbeats 1000000 in
theorem zc_call_7_bad {d n sl : Nat} {φ : FH} {tp : Nat → Nat} {lf : Nat} {mi : Nat} {made : Nat} {sv : Nat} {svm : Nat} {comb : Nat → Nat} {hm : Nat → MV} {sc : Nat → Nat} {sm : Nat → MV} {mh : MV} {noted : Nat} {verd : Nat} {ins : Nat → Nat} {ver : Nat → Nat} {sz : Nat} {bw : Nat → Nat} {x : Nat} {s4 s7 i j : Nat}  (hG : zG φ 0 tp lf mi made sv svm comb hm sc sm mh noted verd ins ver sz bw) (hn0 : 486 ≤ n) (hpv : ∀ i, x_pv2 (hm i)) (hmi : mi + 300 ≤ 20000) (hx32 : x < 4294967296) (hf0 : x >>> 4 = s4) (hf1 : s4 &&& 7 = i) (hf2 : x >>> 7 = s7) (hf3 : s7 &&& 7 = j) (hf4 : x &&& 15 = 7) (hi : i < 8) (hj : j < 8) (hna : ¬ x_isA made comb j 1) : x_f x_P (d + 5) 4 [(6, 0, 0), (0, x, 0), (11, 0, 0), (11, 0, 0), (11, 0, 0)] φ n sl (x_bR n sl 0 0 (fun zw φ2 => ∃ tpZ : Nat → Nat, zw = (0, 4294967295, 0) ∧ zG φ2 0 tpZ lf mi made sv svm comb hm sc sm mh noted verd ins ver sz bw)) := by
  refine x_f_of rfl ?_
  have hG0 := hG
  obtain ⟨⟨hand, ie, hH, hhw⟩, hB, hTJ, hEJ, hN, hKJ, ⟨A, B, s9, hPS, hLK0⟩, hSP, hV5, ⟨slq, hSL⟩, hRW, hJ, hFJ, hWJ, ⟨ovn, ovh, hOV, hovn, hovh⟩⟩ := hG
  refine x_n_lt (fun hlt0 => ?_)
  have hmade := x_PS_lt hPS
  obtain ⟨co, ⟨top_, fr_, pc_, mm, st, lo, re, rs, fl, se, hKS⟩, hco⟩ := hKJ
  refine q_load (v := (0, x, 0)) (p2 := 1) rfl rfl rfl rfl ?_
  refine q_const (p2 := 2) rfl rfl ?_
  refine q_iushrz (z := s4) (p2 := 3) rfl (by omega) hf0 rfl ?_
  refine q_const (p2 := 4) rfl rfl ?_
  refine q_iandz (z := i) (p2 := 5) rfl hf1 (by omega) rfl ?_
  refine q_store (loc2 := [(6, 0, 0), (0, x, 0), (0, i, 0), (11, 0, 0), (11, 0, 0)]) (p2 := 6) rfl rfl rfl rfl rfl ?_
  refine q_load (v := (0, x, 0)) (p2 := 7) rfl rfl rfl rfl ?_
  refine q_const (p2 := 8) rfl rfl ?_
  refine q_iushrz (z := s7) (p2 := 9) rfl (by omega) hf2 rfl ?_
  refine q_const (p2 := 10) rfl rfl ?_
  refine q_iandz (z := j) (p2 := 11) rfl hf3 (by omega) rfl ?_
  refine q_store (loc2 := [(6, 0, 0), (0, x, 0), (0, i, 0), (0, j, 0), (11, 0, 0)]) (p2 := 12) rfl rfl rfl rfl rfl ?_
  refine q_const (p2 := 13) rfl rfl ?_
  refine q_store (loc2 := [(6, 0, 0), (0, x, 0), (0, i, 0), (0, j, 0), (0, 1, 0)]) (p2 := 14) rfl rfl rfl rfl rfl ?_
  refine q_load (v := (0, x, 0)) (p2 := 15) rfl rfl rfl rfl ?_
  refine q_const (p2 := 16) rfl rfl ?_
  refine q_iandz (z := 7) (p2 := 17) rfl hf4 (by omega) rfl ?_
  refine q_switch (tgt := 100) rfl (by decide) rfl ?_
  refine q_load (v := (6, 0, 0)) (p2 := 101) rfl rfl rfl rfl ?_
  refine q_const (p2 := 102) rfl rfl ?_
  refine q_callrE (xs := [(0, 35, 0), (6, 0, 0)]) (p2 := 103) rfl rfl rfl rfl (fun _ _ => rfl) rfl (zc_put hH hB (by omega) (by omega)) (Nat.le_refl _) (Nat.le_refl _) rfl (fun φ1 hR1 => ?_)
  obtain ⟨tpq1, hH1, hB1, hc1, hq1, fr1⟩ := hR1
  refine q_if0_s (p2 := 104) rfl (by decide) (by omega) rfl (fun hb => absurd hb (show ¬ (1 = 0) by omega)) (fun _ => ?_)
  refine q_load (v := (6, 0, 0)) (p2 := 105) rfl rfl rfl rfl ?_
  refine q_load (v := (0, i, 0)) (p2 := 106) rfl rfl rfl rfl ?_
  refine q_callrE (xs := [(0, i, 0), (6, 0, 0)]) (p2 := 107) rfl rfl rfl rfl (fun _ _ => rfl) rfl (zc_pn_1_1 hH1 hB1 (by omega) hc1) (Nat.le_refl _) (Nat.le_refl _) rfl (fun φ2 hR2 => ?_)
  obtain ⟨tpq2, hH2, hB2, hq2_0, hq2_1, fr2⟩ := hR2
  refine q_if0_s (p2 := 108) rfl (by decide) (by omega) rfl (fun hb => absurd hb (show ¬ (1 = 0) by omega)) (fun _ => ?_)
  refine q_const (p2 := 109) rfl rfl ?_
  refine q_goto rfl ?_
  refine q_store (loc2 := [(6, 0, 0), (0, x, 0), (0, i, 0), (0, j, 0), (0, 1, 0)]) (p2 := 112) rfl rfl rfl rfl rfl ?_
  refine q_load (v := (6, 0, 0)) (p2 := 113) rfl rfl rfl rfl ?_
  refine q_load (v := (0, 1, 0)) (p2 := 114) rfl rfl rfl rfl ?_
  refine q_if0_s (p2 := 115) rfl (by decide) (by omega) rfl (fun hb => absurd hb (show ¬ (1 = 0) by omega)) (fun _ => ?_)
  refine q_load (v := (6, 0, 0)) (p2 := 116) rfl rfl rfl rfl ?_
  refine q_load (v := (0, j, 0)) (p2 := 117) rfl rfl rfl rfl ?_
  refine q_const (p2 := 118) rfl rfl ?_
  have hm3 := (zTJ_at hTJ (fun j h1 h2 => ((fr2 j (by omega) (by omega)).trans (fr1 j (by omega) (by omega)))))
  have hm4 := (zEJ_at hEJ (fun j h1 h2 => ((fr2 j (by omega) (by omega)).trans (fr1 j (by omega) (by omega)))))
  have hm5 := (zq_nm_at hN ((fr2 239 (by decide) (by decide)).trans (fr1 239 (by decide) (by decide))) ((fr2 242 (by decide) (by decide)).trans (fr1 242 (by decide) (by decide))) ((fr2 244 (by decide) (by decide)).trans (fr1 244 (by decide) (by decide))))
  have hm6 := (x_KS_at2 hKS (fun j h1 h2 h3 h4 => ((fr2 j (by omega) (by omega)).trans (fr1 j (by omega) (by omega)))))
  refine x_n_lt (fun hlt8 => ?_)
  have hm7 := (x_PS_at hPS (fun j hj hne => by have hj2 := x_some_lt hlt0 hne; exact ((fr2 j (by omega) (by omega)).trans (fr1 j (by omega) (by omega)))))
  have hm9 := (x_LK_at2 hLK0 (fun j h1 h2 => ((fr2 j (by omega) (by omega)).trans (fr1 j (by omega) (by omega)))))
  have hm10 := (x_SP_at hSP (fun j hj hne => by have hj2 := x_some_lt hlt0 hne; exact ((fr2 j (by omega) (by omega)).trans (fr1 j (by omega) (by omega)))))
  have hm11 := (zq_V5_at hV5 ((fr2 485 (by decide) (by decide)).trans (fr1 485 (by decide) (by decide))))
  have hm12 := (zq_SL_at hSL ((fr2 482 (by decide) (by decide)).trans (fr1 482 (by decide) (by decide))))
  have hm13 := (zq_RW_at hRW ((fr2 483 (by decide) (by decide)).trans (fr1 483 (by decide) (by decide))))
  have hm14 := (zq_J_at hJ ((fr2 468 (by decide) (by decide)).trans (fr1 468 (by decide) (by decide))) ((fr2 469 (by decide) (by decide)).trans (fr1 469 (by decide) (by decide))) ((fr2 470 (by decide) (by decide)).trans (fr1 470 (by decide) (by decide))))
  have hm15 := (zFJ_at hFJ (fun j h1 h2 => ((fr2 j (by omega) (by omega)).trans (fr1 j (by omega) (by omega)))))
  have hm16 := (zWJ_at hWJ (fun j h1 h2 => ((fr2 j (by omega) (by omega)).trans (fr1 j (by omega) (by omega)))))
  have hm17 := (zq_OV_at hOV ((fr2 452 (by decide) (by decide)).trans (fr1 452 (by decide) (by decide))) ((fr2 453 (by decide) (by decide)).trans (fr1 453 (by decide) (by decide))))
  have hGz18 : zG φ2 2 tpq2 lf mi made sv svm comb hm sc sm mh noted verd ins ver sz bw := ⟨⟨_, _, hH2, (x_hw_at hhw (fun j hj hne => by have hj2 := x_some_lt hlt0 hne; exact ((fr2 j (by omega) (by omega)).trans (fr1 j (by omega) (by omega)))))⟩, hB2, hm3, hm4, hm5, ⟨_, ⟨_, _, _, _, _, _, _, _, _, _, hm6⟩, hco⟩, ⟨_, _, _, hm7, hm9⟩, hm10, hm11, ⟨_, hm12⟩, hm13, hm14, hm15, hm16, ⟨_, _, hm17, hovn, hovh⟩⟩
  refine q_callrB (xs := [(0, 3, 0), (0, j, 0), (6, 0, 0)]) (p2 := 119) rfl rfl rfl rfl (x_rcv_s 0 hH2) rfl (zc_set3_bad (x := j) hGz18 (by omega) hpv (by omega) (by omega) hna) rfl (fun w18 φ18 n18 sl18 hn18 hN18 hs18 hT18 hR18 => ?_)
  obtain ⟨hwz18, hGr18⟩ := hR18
  subst hwz18
  have hG := hGr18
  skip
  obtain ⟨⟨hand, ie, hH, hhw⟩, hB, hTJ, hEJ, hN, hKJ, ⟨A, B, s9, hPS, hLK0⟩, hSP, hV5, ⟨slq, hSL⟩, hRW, hJ, hFJ, hWJ, ⟨ovn, ovh, hOV, hovn, hovh⟩⟩ := hG
  refine x_n_lt (fun hlt0 => ?_)
  have hmade := x_PS_lt hPS
  obtain ⟨co, ⟨top_, fr_, pc_, mm, st, lo, re, rs, fl, se, hKS⟩, hco⟩ := hKJ
  refine q_goto rfl ?_
  refine q_callrE (xs := [(0, 4294967295, 0), (6, 0, 0)]) (p2 := 122) rfl rfl rfl rfl (fun _ _ => rfl) rfl (zc_done hH hPS (by omega)) (Nat.le_refl _) (Nat.le_refl _) rfl (fun φ20 hR20 => ?_)
  obtain ⟨hs20_0, fr20⟩ := hR20
  have hm21 := (zq_tp_at hB (fr20 1 (by decide)))
  have hm22 := (zTJ_at hTJ (fun j h1 h2 => (fr20 j (by omega))))
  have hm23 := (zEJ_at hEJ (fun j h1 h2 => (fr20 j (by omega))))
  have hm24 := (zq_nm_at hN (fr20 239 (by decide)) (fr20 242 (by decide)) (fr20 244 (by decide)))
  have hm25 := (x_KS_at2 hKS (fun j h1 h2 h3 h4 => (fr20 j (by omega))))
  refine x_n_lt (fun hlt27 => ?_)
  have hm26 := (x_PS_at hPS (fun j hj hne => by have hj2 := x_some_lt hlt0 hne; exact (fr20 j (by omega))))
  have hm28 := (x_LK_at2 hLK0 (fun j h1 h2 => (fr20 j (by omega))))
  have hm29 := (x_SP_at hSP (fun j hj hne => by have hj2 := x_some_lt hlt0 hne; exact (fr20 j (by omega))))
  have hm30 := (zq_V5_at hV5 (fr20 485 (by decide)))
  have hm31 := (zq_SL_at hSL (fr20 482 (by decide)))
  have hm32 := (zq_RW_at hRW (fr20 483 (by decide)))
  have hm33 := (zq_J_at hJ (fr20 468 (by decide)) (fr20 469 (by decide)) (fr20 470 (by decide)))
  have hm34 := (zFJ_at hFJ (fun j h1 h2 => (fr20 j (by omega))))
  have hm35 := (zWJ_at hWJ (fun j h1 h2 => (fr20 j (by omega))))
  have hm36 := (zq_OV_at hOV (fr20 452 (by decide)) (fr20 453 (by decide)))
  exact q_retv (v := (0, 4294967295, 0)) rfl rfl (⟨rfl, ⟨by omega, by omega⟩, ⟨by omega, by omega⟩, _, rfl, ⟨⟨_, _, hs20_0, (x_hw_at hhw (fun j hj hne => by have hj2 := x_some_lt hlt0 hne; exact (fr20 j (by omega))))⟩, hm21, hm22, hm23, hm24, ⟨_, ⟨_, _, _, _, _, _, _, _, _, _, hm25⟩, hco⟩, ⟨_, _, _, hm26, hm28⟩, hm29, hm30, ⟨_, hm31⟩, hm32, hm33, hm34, hm35, ⟨_, _, hm36, hovn, hovh⟩⟩⟩)
set_option maxHeartbeats 1000000 in
theorem zc_call_10_n {d n sl : Nat} {φ : FH} {tp : Nat → Nat} {lf : Nat} {mi : Nat} {made : Nat} {sv : Nat} {svm : Nat} {comb : Nat → Nat} {hm : Nat → MV} {sc : Nat → Nat} {sm : Nat → MV} {mh : MV} {noted : Nat} {verd : Nat} {ins : Nat → Nat} {ver : Nat → Nat} {sz : Nat} {bw : Nat → Nat} {x : Nat} {s4 s7 i j : Nat}  (hG : zG φ 0 tp lf mi made sv svm comb hm sc sm mh noted verd ins ver sz bw) (hn0 : 486 ≤ n) (hpv : ∀ i, x_pv2 (hm i)) (hmi : mi + 300 ≤ 20000) (hx32 : x < 4294967296) (hf0 : x >>> 4 = s4) (hf1 : s4 &&& 7 = i) (hf2 : x >>> 7 = s7) (hf3 : s7 &&& 7 = j) (hf4 : x &&& 15 = 10) (hi : i < 8) (hj : j < 8) (h1 : ¬ (i < made ∧ comb i ≠ 0)) : x_f x_P (d + 21) 4 [(6, 0, 0), (0, x, 0), (11, 0, 0), (11, 0, 0), (11, 0, 0)] φ n sl (x_bR n sl 2 14 (fun zw φ2 => ∃ tpZ : Nat → Nat, zw = (0, 0, 0) ∧ zG φ2 0 tpZ 0 (mi + 6) made sv svm comb hm sc sm MV0 noted verd ins ver sz bw)) := by
  refine x_f_of rfl ?_
  have hG0 := hG
  obtain ⟨⟨hand, ie, hH, hhw⟩, hB, hTJ, hEJ, hN, hKJ, ⟨A, B, s9, hPS, hLK0⟩, hSP, hV5, ⟨slq, hSL⟩, hRW, hJ, hFJ, hWJ, ⟨ovn, ovh, hOV, hovn, hovh⟩⟩ := hG
  refine x_n_lt (fun hlt0 => ?_)
  have hmade := x_PS_lt hPS
  obtain ⟨co, ⟨top_, fr_, pc_, mm, st, lo, re, rs, fl, se, hKS⟩, hco⟩ := hKJ
  refine q_load (v := (0, x, 0)) (p2 := 1) rfl rfl rfl rfl ?_
  refine q_const (p2 := 2) rfl rfl ?_
  refine q_iushrz (z := s4) (p2 := 3) rfl (by omega) hf0 rfl ?_
  refine q_const (p2 := 4) rfl rfl ?_
  refine q_iandz (z := i) (p2 := 5) rfl hf1 (by omega) rfl ?_
  refine q_store (loc2 := [(6, 0, 0), (0, x, 0), (0, i, 0), (11, 0, 0), (11, 0, 0)]) (p2 := 6) rfl rfl rfl rfl rfl ?_
  refine q_load (v := (0, x, 0)) (p2 := 7) rfl rfl rfl rfl ?_
  refine q_const (p2 := 8) rfl rfl ?_
  refine q_iushrz (z := s7) (p2 := 9) rfl (by omega) hf2 rfl ?_
  refine q_const (p2 := 10) rfl rfl ?_
  refine q_iandz (z := j) (p2 := 11) rfl hf3 (by omega) rfl ?_
  refine q_store (loc2 := [(6, 0, 0), (0, x, 0), (0, i, 0), (0, j, 0), (11, 0, 0)]) (p2 := 12) rfl rfl rfl rfl rfl ?_
  refine q_const (p2 := 13) rfl rfl ?_
  refine q_store (loc2 := [(6, 0, 0), (0, x, 0), (0, i, 0), (0, j, 0), (0, 1, 0)]) (p2 := 14) rfl rfl rfl rfl rfl ?_
  refine q_load (v := (0, x, 0)) (p2 := 15) rfl rfl rfl rfl ?_
  refine q_const (p2 := 16) rfl rfl ?_
  refine q_iandz (z := 10) (p2 := 17) rfl hf4 (by omega) rfl ?_
  refine q_switch (tgt := 146) rfl (by decide) rfl ?_
  refine q_load (v := (6, 0, 0)) (p2 := 147) rfl rfl rfl rfl ?_
  refine q_const (p2 := 148) rfl rfl ?_
  refine q_const (p2 := 149) rfl rfl ?_
  refine q_const (p2 := 150) rfl rfl ?_
  refine q_const (p2 := 151) rfl rfl ?_
  refine q_const (p2 := 152) rfl rfl ?_
  refine q_callrE (xs := [(0, 538976288, 0), (0, 538976288, 0), (0, 538976288, 0), (0, 538976288, 0), (0, 1713906464, 0), (6, 0, 0)]) (p2 := 153) rfl rfl rfl rfl (x_rcv_s 0 hH) rfl (zc_h_feed_call hH hB) (Nat.le_refl _) (Nat.le_refl _) rfl (fun φ1 hR1 => ?_)
  obtain ⟨hs1_0, hs1_1, fr1⟩ := hR1
  refine q_if0_s (p2 := 154) rfl (by decide) (by omega) rfl (fun hb => absurd hb (show ¬ (20 < 0) by omega)) (fun _ => ?_)
  refine q_load (v := (6, 0, 0)) (p2 := 155) rfl rfl rfl rfl ?_
  refine q_const (p2 := 156) rfl rfl ?_
  refine q_callrE (xs := [(0, 17, 0), (6, 0, 0)]) (p2 := 157) rfl rfl rfl rfl (x_rcv_s 0 hs1_0) rfl (zc_h_cut hs1_0 (by omega)) (Nat.le_refl _) (Nat.le_refl _) rfl (fun φ2 hR2 => ?_)
  obtain ⟨hs2_0, fr2⟩ := hR2
  refine q_if0_s (p2 := 158) rfl (by decide) (by omega) rfl (fun hb => absurd hb (show ¬ (3 < 0) by omega)) (fun _ => ?_)
  refine q_load (v := (6, 0, 0)) (p2 := 159) rfl rfl rfl rfl ?_
  refine q_load (v := (0, i, 0)) (p2 := 160) rfl rfl rfl rfl ?_
  have hm3 := (zq_tp_at hs1_1 (fr2 1 (by decide)))
  refine q_callrE (xs := [(0, i, 0), (6, 0, 0)]) (p2 := 161) rfl rfl rfl rfl (fun _ _ => rfl) rfl (zc_pn_1_3 hs2_0 hm3 (by omega) ((x_s_ne (by decide)).trans ((x_s_ne (by decide)).trans ((x_s_ne (by decide)).trans ((x_s_ne (by decide)).trans ((x_s_ne (by decide)).trans ((x_s_ne (by decide)).trans ((x_s_ne (by decide)).trans ((x_s_ne (by decide)).trans ((x_s_ne (by decide)).trans ((x_s_ne (by decide)).trans ((x_s_ne (by decide)).trans ((x_s_ne (by decide)).trans ((x_s_ne (by decide)).trans ((x_s_ne (by decide)).trans ((x_s_ne (by decide)).trans ((x_s_ne (by decide)).trans ((x_s_ne (by decide)).trans ((x_s_ne (by decide)).trans ((x_s_ne (by decide)).trans (x_s_eq)))))))))))))))))))) ((x_s_ne (by decide)).trans ((x_s_ne (by decide)).trans ((x_s_ne (by decide)).trans ((x_s_ne (by decide)).trans ((x_s_ne (by decide)).trans ((x_s_ne (by decide)).trans ((x_s_ne (by decide)).trans ((x_s_ne (by decide)).trans ((x_s_ne (by decide)).trans ((x_s_ne (by decide)).trans ((x_s_ne (by decide)).trans ((x_s_ne (by decide)).trans ((x_s_ne (by decide)).trans ((x_s_ne (by decide)).trans ((x_s_ne (by decide)).trans ((x_s_ne (by decide)).trans ((x_s_ne (by decide)).trans ((x_s_ne (by decide)).trans (x_s_eq))))))))))))))))))) ((x_s_ne (by decide)).trans ((x_s_ne (by decide)).trans ((x_s_ne (by decide)).trans ((x_s_ne (by decide)).trans ((x_s_ne (by decide)).trans ((x_s_ne (by decide)).trans ((x_s_ne (by decide)).trans ((x_s_ne (by decide)).trans ((x_s_ne (by decide)).trans ((x_s_ne (by decide)).trans ((x_s_ne (by decide)).trans ((x_s_ne (by decide)).trans ((x_s_ne (by decide)).trans ((x_s_ne (by decide)).trans ((x_s_ne (by decide)).trans ((x_s_ne (by decide)).trans ((x_s_ne (by decide)).trans (x_s_eq))))))))))))))))))) (Nat.le_refl _) (Nat.le_refl _) rfl (fun φ4 hR4 => ?_)
  obtain ⟨tpq4, hH4, hB4, hq4_0, hq4_1, hq4_2, hq4_3, fr4⟩ := hR4
  refine q_if0_s (p2 := 162) rfl (by decide) (by omega) rfl (fun hb => absurd hb (show ¬ (1 = 0) by omega)) (fun _ => ?_)
  refine q_load (v := (6, 0, 0)) (p2 := 163) rfl rfl rfl rfl ?_
  refine q_const (p2 := 164) rfl rfl ?_
  refine q_callrE (xs := [(0, 41, 0), (6, 0, 0)]) (p2 := 165) rfl rfl rfl rfl (fun _ _ => rfl) rfl (zc_put hH4 hB4 (by omega) (by omega)) (Nat.le_refl _) (Nat.le_refl _) rfl (fun φ5 hR5 => ?_)
  obtain ⟨tpq5, hH5, hB5, hc5, hq5, fr5⟩ := hR5
  refine q_if0_s (p2 := 166) rfl (by decide) (by omega) rfl (fun hb => absurd hb (show ¬ (1 = 0) by omega)) (fun _ => ?_)
  refine q_const (p2 := 167) rfl rfl ?_
  refine q_goto rfl ?_
  refine q_store (loc2 := [(6, 0, 0), (0, x, 0), (0, i, 0), (0, j, 0), (0, 1, 0)]) (p2 := 170) rfl rfl rfl rfl rfl ?_
  refine q_load (v := (6, 0, 0)) (p2 := 171) rfl rfl rfl rfl ?_
  refine q_load (v := (0, 1, 0)) (p2 := 172) rfl rfl rfl rfl ?_
  refine q_if0_s (p2 := 173) rfl (by decide) (by omega) rfl (fun hb => absurd hb (show ¬ (1 = 0) by omega)) (fun _ => ?_)
  refine q_load (v := (6, 0, 0)) (p2 := 174) rfl rfl rfl rfl ?_
  have hm6 := (zTJ_at hTJ (fun j h1 h2 => ((fr5 j (by omega) (by omega)).trans ((fr4 j (by omega) (by omega)).trans ((fr2 j (by omega)).trans (fr1 j (by omega) (by omega)))))))
  have hm7 := (zEJ_at hEJ (fun j h1 h2 => ((fr5 j (by omega) (by omega)).trans ((fr4 j (by omega) (by omega)).trans ((fr2 j (by omega)).trans (fr1 j (by omega) (by omega)))))))
  have hm8 := (zq_nm_at hN ((fr5 239 (by decide) (by decide)).trans ((fr4 239 (by decide) (by decide)).trans ((fr2 239 (by decide)).trans (fr1 239 (by decide) (by decide))))) ((fr5 242 (by decide) (by decide)).trans ((fr4 242 (by decide) (by decide)).trans ((fr2 242 (by decide)).trans (fr1 242 (by decide) (by decide))))) ((fr5 244 (by decide) (by decide)).trans ((fr4 244 (by decide) (by decide)).trans ((fr2 244 (by decide)).trans (fr1 244 (by decide) (by decide))))))
  have hm9 := (x_KS_at2 hKS (fun j h1 h2 h3 h4 => ((fr5 j (by omega) (by omega)).trans ((fr4 j (by omega) (by omega)).trans ((fr2 j (by omega)).trans (fr1 j (by omega) (by omega)))))))
  refine x_n_lt (fun hlt11 => ?_)
  have hm10 := (x_PS_at hPS (fun j hj hne => by have hj2 := x_some_lt hlt0 hne; exact ((fr5 j (by omega) (by omega)).trans ((fr4 j (by omega) (by omega)).trans ((fr2 j (by omega)).trans (fr1 j (by omega) (by omega)))))))
  have hm12 := (x_LK_at2 hLK0 (fun j h1 h2 => ((fr5 j (by omega) (by omega)).trans ((fr4 j (by omega) (by omega)).trans ((fr2 j (by omega)).trans (fr1 j (by omega) (by omega)))))))
  have hm13 := (x_SP_at hSP (fun j hj hne => by have hj2 := x_some_lt hlt0 hne; exact ((fr5 j (by omega) (by omega)).trans ((fr4 j (by omega) (by omega)).trans ((fr2 j (by omega)).trans (fr1 j (by omega) (by omega)))))))
  have hm14 := (zq_V5_at hV5 ((fr5 485 (by decide) (by decide)).trans ((fr4 485 (by decide) (by decide)).trans ((fr2 485 (by decide)).trans (fr1 485 (by decide) (by decide))))))
  have hm15 := (zq_SL_at hSL ((fr5 482 (by decide) (by decide)).trans ((fr4 482 (by decide) (by decide)).trans ((fr2 482 (by decide)).trans (fr1 482 (by decide) (by decide))))))
  have hm16 := (zq_RW_at hRW ((fr5 483 (by decide) (by decide)).trans ((fr4 483 (by decide) (by decide)).trans ((fr2 483 (by decide)).trans (fr1 483 (by decide) (by decide))))))
  have hm17 := (zq_J_at hJ ((fr5 468 (by decide) (by decide)).trans ((fr4 468 (by decide) (by decide)).trans ((fr2 468 (by decide)).trans (fr1 468 (by decide) (by decide))))) ((fr5 469 (by decide) (by decide)).trans ((fr4 469 (by decide) (by decide)).trans ((fr2 469 (by decide)).trans (fr1 469 (by decide) (by decide))))) ((fr5 470 (by decide) (by decide)).trans ((fr4 470 (by decide) (by decide)).trans ((fr2 470 (by decide)).trans (fr1 470 (by decide) (by decide))))))
  have hm18 := (zFJ_at hFJ (fun j h1 h2 => ((fr5 j (by omega) (by omega)).trans ((fr4 j (by omega) (by omega)).trans ((fr2 j (by omega)).trans (fr1 j (by omega) (by omega)))))))
  have hm19 := (zWJ_at hWJ (fun j h1 h2 => ((fr5 j (by omega) (by omega)).trans ((fr4 j (by omega) (by omega)).trans ((fr2 j (by omega)).trans (fr1 j (by omega) (by omega)))))))
  have hm20 := (zq_OV_at hOV ((fr5 452 (by decide) (by decide)).trans ((fr4 452 (by decide) (by decide)).trans ((fr2 452 (by decide)).trans (fr1 452 (by decide) (by decide))))) ((fr5 453 (by decide) (by decide)).trans ((fr4 453 (by decide) (by decide)).trans ((fr2 453 (by decide)).trans (fr1 453 (by decide) (by decide))))))
  have hGz21 : zG φ5 5 tpq5 lf mi made sv svm comb hm sc sm mh noted verd ins ver sz bw := ⟨⟨_, _, hH5, (x_hw_at hhw (fun j hj hne => by have hj2 := x_some_lt hlt0 hne; exact ((fr5 j (by omega) (by omega)).trans ((fr4 j (by omega) (by omega)).trans ((fr2 j (by omega)).trans (fr1 j (by omega) (by omega)))))))⟩, hB5, hm6, hm7, hm8, ⟨_, ⟨_, _, _, _, _, _, _, _, _, _, hm9⟩, hco⟩, ⟨_, _, _, hm10, hm12⟩, hm13, hm14, ⟨_, hm15⟩, hm16, hm17, hm18, hm19, ⟨_, _, hm20, hovn, hovh⟩⟩
  refine q_callrB (xs := [(6, 0, 0)]) (p2 := 175) rfl rfl rfl rfl (x_rcv_s 0 hH5) rfl (zc_work_call_n (w1 := i) hGz21 (by omega) hpv (by omega) (((hq5 0 (by omega)).trans hq4_0)) (((hq5 1 (by omega)).trans hq4_1)) (((hq5 2 (by omega)).trans hq4_2)) (((hq5 3 (by omega)).trans hq4_3)) (hc5) (by omega) (by omega) (by omega) h1) rfl (fun w21 φ21 n21 sl21 hn21 hN21 hs21 hT21 hR21 => ?_)
  obtain ⟨hwz21, hGr21⟩ := hR21
  subst hwz21
  have hG := hGr21
  skip
  obtain ⟨⟨hand, ie, hH, hhw⟩, hB, hTJ, hEJ, hN, hKJ, ⟨A, B, s9, hPS, hLK0⟩, hSP, hV5, ⟨slq, hSL⟩, hRW, hJ, hFJ, hWJ, ⟨ovn, ovh, hOV, hovn, hovh⟩⟩ := hG
  refine x_n_lt (fun hlt0 => ?_)
  have hmade := x_PS_lt hPS
  obtain ⟨co, ⟨top_, fr_, pc_, mm, st, lo, re, rs, fl, se, hKS⟩, hco⟩ := hKJ
  refine q_goto rfl ?_
  refine q_callrE (xs := [(0, 0, 0), (6, 0, 0)]) (p2 := 178) rfl rfl rfl rfl (fun _ _ => rfl) rfl (zc_done hH hPS (by omega)) (Nat.le_refl _) (Nat.le_refl _) rfl (fun φ23 hR23 => ?_)
  obtain ⟨hs23_0, fr23⟩ := hR23
  have hm24 := (zq_tp_at hB (fr23 1 (by decide)))
  have hm25 := (zTJ_at hTJ (fun j h1 h2 => (fr23 j (by omega))))
  have hm26 := (zEJ_at hEJ (fun j h1 h2 => (fr23 j (by omega))))
  have hm27 := (zq_nm_at hN (fr23 239 (by decide)) (fr23 242 (by decide)) (fr23 244 (by decide)))
  have hm28 := (x_KS_at2 hKS (fun j h1 h2 h3 h4 => (fr23 j (by omega))))
  refine x_n_lt (fun hlt30 => ?_)
  have hm29 := (x_PS_at hPS (fun j hj hne => by have hj2 := x_some_lt hlt0 hne; exact (fr23 j (by omega))))
  have hm31 := (x_LK_at2 hLK0 (fun j h1 h2 => (fr23 j (by omega))))
  have hm32 := (x_SP_at hSP (fun j hj hne => by have hj2 := x_some_lt hlt0 hne; exact (fr23 j (by omega))))
  have hm33 := (zq_V5_at hV5 (fr23 485 (by decide)))
  have hm34 := (zq_SL_at hSL (fr23 482 (by decide)))
  have hm35 := (zq_RW_at hRW (fr23 483 (by decide)))
  have hm36 := (zq_J_at hJ (fr23 468 (by decide)) (fr23 469 (by decide)) (fr23 470 (by decide)))
  have hm37 := (zFJ_at hFJ (fun j h1 h2 => (fr23 j (by omega))))
  have hm38 := (zWJ_at hWJ (fun j h1 h2 => (fr23 j (by omega))))
  have hm39 := (zq_OV_at hOV (fr23 452 (by decide)) (fr23 453 (by decide)))
  exact q_retv (v := (0, 0, 0)) rfl rfl (⟨rfl, ⟨by omega, by omega⟩, ⟨by omega, by omega⟩, _, rfl, ⟨⟨_, _, hs23_0, (x_hw_at hhw (fun j hj hne => by have hj2 := x_some_lt hlt0 hne; exact (fr23 j (by omega))))⟩, hm24, hm25, hm26, hm27, ⟨_, ⟨_, _, _, _, _, _, _, _, _, _, hm28⟩, hco⟩, ⟨_, _, _, hm29, hm31⟩, hm32, hm33, ⟨_, hm34⟩, hm35, hm36, hm37, hm38, ⟨_, _, hm39, hovn, hovh⟩⟩⟩)
set_option maxHeartbeats 1000000 in
theorem zc_call_10_y0 {d n sl : Nat} {φ : FH} {tp : Nat → Nat} {lf : Nat} {mi : Nat} {made : Nat} {sv : Nat} {svm : Nat} {comb : Nat → Nat} {hm : Nat → MV} {sc : Nat → Nat} {sm : Nat → MV} {mh : MV} {noted : Nat} {verd : Nat} {ins : Nat → Nat} {ver : Nat → Nat} {sz : Nat} {bw : Nat → Nat} {x : Nat} {s4 s7 i j : Nat}  (hG : zG φ 0 tp lf mi made sv svm comb hm sc sm mh noted verd ins ver sz bw) (hn0 : 486 ≤ n) (hpv : ∀ i, x_pv2 (hm i)) (hmi : mi + 300 ≤ 20000) (hx32 : x < 4294967296) (hf0 : x >>> 4 = s4) (hf1 : s4 &&& 7 = i) (hf2 : x >>> 7 = s7) (hf3 : s7 &&& 7 = j) (hf4 : x &&& 15 = 10) (hi : i < 8) (hj : j < 8) (h1 : (i < made ∧ comb i ≠ 0)) (hisA : x_isA made comb i 0) (hbit : 1 &&& comb i ≠ 0) (hk : hm (i * 40 + 0) = MV0) : x_f x_P (d + 21) 4 [(6, 0, 0), (0, x, 0), (11, 0, 0), (11, 0, 0), (11, 0, 0)] φ n sl (x_bR n sl 2 14 (fun zw φ2 => ∃ tpZ : Nat → Nat, zw = (0, 0, 0) ∧ zG φ2 0 tpZ 0 (mi + 6) made sv svm comb hm sc sm MV0 noted verd ins ver sz bw)) := by
  refine x_f_of rfl ?_
  have hG0 := hG
  obtain ⟨⟨hand, ie, hH, hhw⟩, hB, hTJ, hEJ, hN, hKJ, ⟨A, B, s9, hPS, hLK0⟩, hSP, hV5, ⟨slq, hSL⟩, hRW, hJ, hFJ, hWJ, ⟨ovn, ovh, hOV, hovn, hovh⟩⟩ := hG
  refine x_n_lt (fun hlt0 => ?_)
  have hmade := x_PS_lt hPS
  obtain ⟨co, ⟨top_, fr_, pc_, mm, st, lo, re, rs, fl, se, hKS⟩, hco⟩ := hKJ
  refine q_load (v := (0, x, 0)) (p2 := 1) rfl rfl rfl rfl ?_
  refine q_const (p2 := 2) rfl rfl ?_
  refine q_iushrz (z := s4) (p2 := 3) rfl (by omega) hf0 rfl ?_
  refine q_const (p2 := 4) rfl rfl ?_
  refine q_iandz (z := i) (p2 := 5) rfl hf1 (by omega) rfl ?_
  refine q_store (loc2 := [(6, 0, 0), (0, x, 0), (0, i, 0), (11, 0, 0), (11, 0, 0)]) (p2 := 6) rfl rfl rfl rfl rfl ?_
  refine q_load (v := (0, x, 0)) (p2 := 7) rfl rfl rfl rfl ?_
  refine q_const (p2 := 8) rfl rfl ?_
  refine q_iushrz (z := s7) (p2 := 9) rfl (by omega) hf2 rfl ?_
  refine q_const (p2 := 10) rfl rfl ?_
  refine q_iandz (z := j) (p2 := 11) rfl hf3 (by omega) rfl ?_
  refine q_store (loc2 := [(6, 0, 0), (0, x, 0), (0, i, 0), (0, j, 0), (11, 0, 0)]) (p2 := 12) rfl rfl rfl rfl rfl ?_
  refine q_const (p2 := 13) rfl rfl ?_
  refine q_store (loc2 := [(6, 0, 0), (0, x, 0), (0, i, 0), (0, j, 0), (0, 1, 0)]) (p2 := 14) rfl rfl rfl rfl rfl ?_
  refine q_load (v := (0, x, 0)) (p2 := 15) rfl rfl rfl rfl ?_
  refine q_const (p2 := 16) rfl rfl ?_
  refine q_iandz (z := 10) (p2 := 17) rfl hf4 (by omega) rfl ?_
  refine q_switch (tgt := 146) rfl (by decide) rfl ?_
  refine q_load (v := (6, 0, 0)) (p2 := 147) rfl rfl rfl rfl ?_
  refine q_const (p2 := 148) rfl rfl ?_
  refine q_const (p2 := 149) rfl rfl ?_
  refine q_const (p2 := 150) rfl rfl ?_
  refine q_const (p2 := 151) rfl rfl ?_
  refine q_const (p2 := 152) rfl rfl ?_
  refine q_callrE (xs := [(0, 538976288, 0), (0, 538976288, 0), (0, 538976288, 0), (0, 538976288, 0), (0, 1713906464, 0), (6, 0, 0)]) (p2 := 153) rfl rfl rfl rfl (x_rcv_s 0 hH) rfl (zc_h_feed_call hH hB) (Nat.le_refl _) (Nat.le_refl _) rfl (fun φ1 hR1 => ?_)
  obtain ⟨hs1_0, hs1_1, fr1⟩ := hR1
  refine q_if0_s (p2 := 154) rfl (by decide) (by omega) rfl (fun hb => absurd hb (show ¬ (20 < 0) by omega)) (fun _ => ?_)
  refine q_load (v := (6, 0, 0)) (p2 := 155) rfl rfl rfl rfl ?_
  refine q_const (p2 := 156) rfl rfl ?_
  refine q_callrE (xs := [(0, 17, 0), (6, 0, 0)]) (p2 := 157) rfl rfl rfl rfl (x_rcv_s 0 hs1_0) rfl (zc_h_cut hs1_0 (by omega)) (Nat.le_refl _) (Nat.le_refl _) rfl (fun φ2 hR2 => ?_)
  obtain ⟨hs2_0, fr2⟩ := hR2
  refine q_if0_s (p2 := 158) rfl (by decide) (by omega) rfl (fun hb => absurd hb (show ¬ (3 < 0) by omega)) (fun _ => ?_)
  refine q_load (v := (6, 0, 0)) (p2 := 159) rfl rfl rfl rfl ?_
  refine q_load (v := (0, i, 0)) (p2 := 160) rfl rfl rfl rfl ?_
  have hm3 := (zq_tp_at hs1_1 (fr2 1 (by decide)))
  refine q_callrE (xs := [(0, i, 0), (6, 0, 0)]) (p2 := 161) rfl rfl rfl rfl (fun _ _ => rfl) rfl (zc_pn_1_3 hs2_0 hm3 (by omega) ((x_s_ne (by decide)).trans ((x_s_ne (by decide)).trans ((x_s_ne (by decide)).trans ((x_s_ne (by decide)).trans ((x_s_ne (by decide)).trans ((x_s_ne (by decide)).trans ((x_s_ne (by decide)).trans ((x_s_ne (by decide)).trans ((x_s_ne (by decide)).trans ((x_s_ne (by decide)).trans ((x_s_ne (by decide)).trans ((x_s_ne (by decide)).trans ((x_s_ne (by decide)).trans ((x_s_ne (by decide)).trans ((x_s_ne (by decide)).trans ((x_s_ne (by decide)).trans ((x_s_ne (by decide)).trans ((x_s_ne (by decide)).trans ((x_s_ne (by decide)).trans (x_s_eq)))))))))))))))))))) ((x_s_ne (by decide)).trans ((x_s_ne (by decide)).trans ((x_s_ne (by decide)).trans ((x_s_ne (by decide)).trans ((x_s_ne (by decide)).trans ((x_s_ne (by decide)).trans ((x_s_ne (by decide)).trans ((x_s_ne (by decide)).trans ((x_s_ne (by decide)).trans ((x_s_ne (by decide)).trans ((x_s_ne (by decide)).trans ((x_s_ne (by decide)).trans ((x_s_ne (by decide)).trans ((x_s_ne (by decide)).trans ((x_s_ne (by decide)).trans ((x_s_ne (by decide)).trans ((x_s_ne (by decide)).trans ((x_s_ne (by decide)).trans (x_s_eq))))))))))))))))))) ((x_s_ne (by decide)).trans ((x_s_ne (by decide)).trans ((x_s_ne (by decide)).trans ((x_s_ne (by decide)).trans ((x_s_ne (by decide)).trans ((x_s_ne (by decide)).trans ((x_s_ne (by decide)).trans ((x_s_ne (by decide)).trans ((x_s_ne (by decide)).trans ((x_s_ne (by decide)).trans ((x_s_ne (by decide)).trans ((x_s_ne (by decide)).trans ((x_s_ne (by decide)).trans ((x_s_ne (by decide)).trans ((x_s_ne (by decide)).trans ((x_s_ne (by decide)).trans ((x_s_ne (by decide)).trans (x_s_eq))))))))))))))))))) (Nat.le_refl _) (Nat.le_refl _) rfl (fun φ4 hR4 => ?_)
  obtain ⟨tpq4, hH4, hB4, hq4_0, hq4_1, hq4_2, hq4_3, fr4⟩ := hR4
  refine q_if0_s (p2 := 162) rfl (by decide) (by omega) rfl (fun hb => absurd hb (show ¬ (1 = 0) by omega)) (fun _ => ?_)
  refine q_load (v := (6, 0, 0)) (p2 := 163) rfl rfl rfl rfl ?_
  refine q_const (p2 := 164) rfl rfl ?_
  refine q_callrE (xs := [(0, 41, 0), (6, 0, 0)]) (p2 := 165) rfl rfl rfl rfl (fun _ _ => rfl) rfl (zc_put hH4 hB4 (by omega) (by omega)) (Nat.le_refl _) (Nat.le_refl _) rfl (fun φ5 hR5 => ?_)
  obtain ⟨tpq5, hH5, hB5, hc5, hq5, fr5⟩ := hR5
  refine q_if0_s (p2 := 166) rfl (by decide) (by omega) rfl (fun hb => absurd hb (show ¬ (1 = 0) by omega)) (fun _ => ?_)
  refine q_const (p2 := 167) rfl rfl ?_
  refine q_goto rfl ?_
  refine q_store (loc2 := [(6, 0, 0), (0, x, 0), (0, i, 0), (0, j, 0), (0, 1, 0)]) (p2 := 170) rfl rfl rfl rfl rfl ?_
  refine q_load (v := (6, 0, 0)) (p2 := 171) rfl rfl rfl rfl ?_
  refine q_load (v := (0, 1, 0)) (p2 := 172) rfl rfl rfl rfl ?_
  refine q_if0_s (p2 := 173) rfl (by decide) (by omega) rfl (fun hb => absurd hb (show ¬ (1 = 0) by omega)) (fun _ => ?_)
  refine q_load (v := (6, 0, 0)) (p2 := 174) rfl rfl rfl rfl ?_
  have hm6 := (zTJ_at hTJ (fun j h1 h2 => ((fr5 j (by omega) (by omega)).trans ((fr4 j (by omega) (by omega)).trans ((fr2 j (by omega)).trans (fr1 j (by omega) (by omega)))))))
  have hm7 := (zEJ_at hEJ (fun j h1 h2 => ((fr5 j (by omega) (by omega)).trans ((fr4 j (by omega) (by omega)).trans ((fr2 j (by omega)).trans (fr1 j (by omega) (by omega)))))))
  have hm8 := (zq_nm_at hN ((fr5 239 (by decide) (by decide)).trans ((fr4 239 (by decide) (by decide)).trans ((fr2 239 (by decide)).trans (fr1 239 (by decide) (by decide))))) ((fr5 242 (by decide) (by decide)).trans ((fr4 242 (by decide) (by decide)).trans ((fr2 242 (by decide)).trans (fr1 242 (by decide) (by decide))))) ((fr5 244 (by decide) (by decide)).trans ((fr4 244 (by decide) (by decide)).trans ((fr2 244 (by decide)).trans (fr1 244 (by decide) (by decide))))))
  have hm9 := (x_KS_at2 hKS (fun j h1 h2 h3 h4 => ((fr5 j (by omega) (by omega)).trans ((fr4 j (by omega) (by omega)).trans ((fr2 j (by omega)).trans (fr1 j (by omega) (by omega)))))))
  refine x_n_lt (fun hlt11 => ?_)
  have hm10 := (x_PS_at hPS (fun j hj hne => by have hj2 := x_some_lt hlt0 hne; exact ((fr5 j (by omega) (by omega)).trans ((fr4 j (by omega) (by omega)).trans ((fr2 j (by omega)).trans (fr1 j (by omega) (by omega)))))))
  have hm12 := (x_LK_at2 hLK0 (fun j h1 h2 => ((fr5 j (by omega) (by omega)).trans ((fr4 j (by omega) (by omega)).trans ((fr2 j (by omega)).trans (fr1 j (by omega) (by omega)))))))
  have hm13 := (x_SP_at hSP (fun j hj hne => by have hj2 := x_some_lt hlt0 hne; exact ((fr5 j (by omega) (by omega)).trans ((fr4 j (by omega) (by omega)).trans ((fr2 j (by omega)).trans (fr1 j (by omega) (by omega)))))))
  have hm14 := (zq_V5_at hV5 ((fr5 485 (by decide) (by decide)).trans ((fr4 485 (by decide) (by decide)).trans ((fr2 485 (by decide)).trans (fr1 485 (by decide) (by decide))))))
  have hm15 := (zq_SL_at hSL ((fr5 482 (by decide) (by decide)).trans ((fr4 482 (by decide) (by decide)).trans ((fr2 482 (by decide)).trans (fr1 482 (by decide) (by decide))))))
  have hm16 := (zq_RW_at hRW ((fr5 483 (by decide) (by decide)).trans ((fr4 483 (by decide) (by decide)).trans ((fr2 483 (by decide)).trans (fr1 483 (by decide) (by decide))))))
  have hm17 := (zq_J_at hJ ((fr5 468 (by decide) (by decide)).trans ((fr4 468 (by decide) (by decide)).trans ((fr2 468 (by decide)).trans (fr1 468 (by decide) (by decide))))) ((fr5 469 (by decide) (by decide)).trans ((fr4 469 (by decide) (by decide)).trans ((fr2 469 (by decide)).trans (fr1 469 (by decide) (by decide))))) ((fr5 470 (by decide) (by decide)).trans ((fr4 470 (by decide) (by decide)).trans ((fr2 470 (by decide)).trans (fr1 470 (by decide) (by decide))))))
  have hm18 := (zFJ_at hFJ (fun j h1 h2 => ((fr5 j (by omega) (by omega)).trans ((fr4 j (by omega) (by omega)).trans ((fr2 j (by omega)).trans (fr1 j (by omega) (by omega)))))))
  have hm19 := (zWJ_at hWJ (fun j h1 h2 => ((fr5 j (by omega) (by omega)).trans ((fr4 j (by omega) (by omega)).trans ((fr2 j (by omega)).trans (fr1 j (by omega) (by omega)))))))
  have hm20 := (zq_OV_at hOV ((fr5 452 (by decide) (by decide)).trans ((fr4 452 (by decide) (by decide)).trans ((fr2 452 (by decide)).trans (fr1 452 (by decide) (by decide))))) ((fr5 453 (by decide) (by decide)).trans ((fr4 453 (by decide) (by decide)).trans ((fr2 453 (by decide)).trans (fr1 453 (by decide) (by decide))))))
  have hGz21 : zG φ5 5 tpq5 lf mi made sv svm comb hm sc sm mh noted verd ins ver sz bw := ⟨⟨_, _, hH5, (x_hw_at hhw (fun j hj hne => by have hj2 := x_some_lt hlt0 hne; exact ((fr5 j (by omega) (by omega)).trans ((fr4 j (by omega) (by omega)).trans ((fr2 j (by omega)).trans (fr1 j (by omega) (by omega)))))))⟩, hB5, hm6, hm7, hm8, ⟨_, ⟨_, _, _, _, _, _, _, _, _, _, hm9⟩, hco⟩, ⟨_, _, _, hm10, hm12⟩, hm13, hm14, ⟨_, hm15⟩, hm16, hm17, hm18, hm19, ⟨_, _, hm20, hovn, hovh⟩⟩
  refine q_callrB (xs := [(6, 0, 0)]) (p2 := 175) rfl rfl rfl rfl (x_rcv_s 0 hH5) rfl (zc_work_call_y0 (w1 := i) hGz21 (by omega) hpv (by omega) (((hq5 0 (by omega)).trans hq4_0)) (((hq5 1 (by omega)).trans hq4_1)) (((hq5 2 (by omega)).trans hq4_2)) (((hq5 3 (by omega)).trans hq4_3)) (hc5) (by omega) (by omega) (by omega) h1 hisA hbit hk) rfl (fun w21 φ21 n21 sl21 hn21 hN21 hs21 hT21 hR21 => ?_)
  obtain ⟨hwz21, hGr21⟩ := hR21
  subst hwz21
  have hG := hGr21
  skip
  obtain ⟨⟨hand, ie, hH, hhw⟩, hB, hTJ, hEJ, hN, hKJ, ⟨A, B, s9, hPS, hLK0⟩, hSP, hV5, ⟨slq, hSL⟩, hRW, hJ, hFJ, hWJ, ⟨ovn, ovh, hOV, hovn, hovh⟩⟩ := hG
  refine x_n_lt (fun hlt0 => ?_)
  have hmade := x_PS_lt hPS
  obtain ⟨co, ⟨top_, fr_, pc_, mm, st, lo, re, rs, fl, se, hKS⟩, hco⟩ := hKJ
  refine q_goto rfl ?_
  refine q_callrE (xs := [(0, 0, 0), (6, 0, 0)]) (p2 := 178) rfl rfl rfl rfl (fun _ _ => rfl) rfl (zc_done hH hPS (by omega)) (Nat.le_refl _) (Nat.le_refl _) rfl (fun φ23 hR23 => ?_)
  obtain ⟨hs23_0, fr23⟩ := hR23
  have hm24 := (zq_tp_at hB (fr23 1 (by decide)))
  have hm25 := (zTJ_at hTJ (fun j h1 h2 => (fr23 j (by omega))))
  have hm26 := (zEJ_at hEJ (fun j h1 h2 => (fr23 j (by omega))))
  have hm27 := (zq_nm_at hN (fr23 239 (by decide)) (fr23 242 (by decide)) (fr23 244 (by decide)))
  have hm28 := (x_KS_at2 hKS (fun j h1 h2 h3 h4 => (fr23 j (by omega))))
  refine x_n_lt (fun hlt30 => ?_)
  have hm29 := (x_PS_at hPS (fun j hj hne => by have hj2 := x_some_lt hlt0 hne; exact (fr23 j (by omega))))
  have hm31 := (x_LK_at2 hLK0 (fun j h1 h2 => (fr23 j (by omega))))
  have hm32 := (x_SP_at hSP (fun j hj hne => by have hj2 := x_some_lt hlt0 hne; exact (fr23 j (by omega))))
  have hm33 := (zq_V5_at hV5 (fr23 485 (by decide)))
  have hm34 := (zq_SL_at hSL (fr23 482 (by decide)))
  have hm35 := (zq_RW_at hRW (fr23 483 (by decide)))
  have hm36 := (zq_J_at hJ (fr23 468 (by decide)) (fr23 469 (by decide)) (fr23 470 (by decide)))
  have hm37 := (zFJ_at hFJ (fun j h1 h2 => (fr23 j (by omega))))
  have hm38 := (zWJ_at hWJ (fun j h1 h2 => (fr23 j (by omega))))
  have hm39 := (zq_OV_at hOV (fr23 452 (by decide)) (fr23 453 (by decide)))
  exact q_retv (v := (0, 0, 0)) rfl rfl (⟨rfl, ⟨by omega, by omega⟩, ⟨by omega, by omega⟩, _, rfl, ⟨⟨_, _, hs23_0, (x_hw_at hhw (fun j hj hne => by have hj2 := x_some_lt hlt0 hne; exact (fr23 j (by omega))))⟩, hm24, hm25, hm26, hm27, ⟨_, ⟨_, _, _, _, _, _, _, _, _, _, hm28⟩, hco⟩, ⟨_, _, _, hm29, hm31⟩, hm32, hm33, ⟨_, hm34⟩, hm35, hm36, hm37, hm38, ⟨_, _, hm39, hovn, hovh⟩⟩⟩)
set_option maxHeartbeats 1000000 in
theorem zc_call_10_y1 {d n sl : Nat} {φ : FH} {tp : Nat → Nat} {lf : Nat} {mi : Nat} {made : Nat} {sv : Nat} {svm : Nat} {comb : Nat → Nat} {hm : Nat → MV} {sc : Nat → Nat} {sm : Nat → MV} {mh : MV} {noted : Nat} {verd : Nat} {ins : Nat → Nat} {ver : Nat → Nat} {sz : Nat} {bw : Nat → Nat} {x : Nat} {s4 s7 i j : Nat} {kk : Nat} (hG : zG φ 0 tp lf mi made sv svm comb hm sc sm mh noted verd ins ver sz bw) (hn0 : 486 ≤ n) (hpv : ∀ i, x_pv2 (hm i)) (hmi : mi + 300 ≤ 20000) (hx32 : x < 4294967296) (hf0 : x >>> 4 = s4) (hf1 : s4 &&& 7 = i) (hf2 : x >>> 7 = s7) (hf3 : s7 &&& 7 = j) (hf4 : x &&& 15 = 10) (hi : i < 8) (hj : j < 8) (h1 : (i < made ∧ comb i ≠ 0)) (hisA : x_isA made comb i 0) (hbit : 1 &&& comb i ≠ 0) (hk : hm (i * 40 + 0) = (1, kk, 0, 0, [])) (hkk : kk < 1024) : x_f x_P (d + 21) 4 [(6, 0, 0), (0, x, 0), (11, 0, 0), (11, 0, 0), (11, 0, 0)] φ n sl (x_bR n sl 4 28 (fun zw φ2 => ∃ tpZ : Nat → Nat, zw = (0, 1, 0) ∧ zG φ2 0 tpZ 0 (mi + 11) made sv svm comb hm sc sm (1, kk + 1, 0, 0, []) noted verd ins ver sz bw)) := by
  refine x_f_of rfl ?_
  have hG0 := hG
  obtain ⟨⟨hand, ie, hH, hhw⟩, hB, hTJ, hEJ, hN, hKJ, ⟨A, B, s9, hPS, hLK0⟩, hSP, hV5, ⟨slq, hSL⟩, hRW, hJ, hFJ, hWJ, ⟨ovn, ovh, hOV, hovn, hovh⟩⟩ := hG
  refine x_n_lt (fun hlt0 => ?_)
  have hmade := x_PS_lt hPS
  obtain ⟨co, ⟨top_, fr_, pc_, mm, st, lo, re, rs, fl, se, hKS⟩, hco⟩ := hKJ
  refine q_load (v := (0, x, 0)) (p2 := 1) rfl rfl rfl rfl ?_
  refine q_const (p2 := 2) rfl rfl ?_
  refine q_iushrz (z := s4) (p2 := 3) rfl (by omega) hf0 rfl ?_
  refine q_const (p2 := 4) rfl rfl ?_
  refine q_iandz (z := i) (p2 := 5) rfl hf1 (by omega) rfl ?_
  refine q_store (loc2 := [(6, 0, 0), (0, x, 0), (0, i, 0), (11, 0, 0), (11, 0, 0)]) (p2 := 6) rfl rfl rfl rfl rfl ?_
  refine q_load (v := (0, x, 0)) (p2 := 7) rfl rfl rfl rfl ?_
  refine q_const (p2 := 8) rfl rfl ?_
  refine q_iushrz (z := s7) (p2 := 9) rfl (by omega) hf2 rfl ?_
  refine q_const (p2 := 10) rfl rfl ?_
  refine q_iandz (z := j) (p2 := 11) rfl hf3 (by omega) rfl ?_
  refine q_store (loc2 := [(6, 0, 0), (0, x, 0), (0, i, 0), (0, j, 0), (11, 0, 0)]) (p2 := 12) rfl rfl rfl rfl rfl ?_
  refine q_const (p2 := 13) rfl rfl ?_
  refine q_store (loc2 := [(6, 0, 0), (0, x, 0), (0, i, 0), (0, j, 0), (0, 1, 0)]) (p2 := 14) rfl rfl rfl rfl rfl ?_
  refine q_load (v := (0, x, 0)) (p2 := 15) rfl rfl rfl rfl ?_
  refine q_const (p2 := 16) rfl rfl ?_
  refine q_iandz (z := 10) (p2 := 17) rfl hf4 (by omega) rfl ?_
  refine q_switch (tgt := 146) rfl (by decide) rfl ?_
  refine q_load (v := (6, 0, 0)) (p2 := 147) rfl rfl rfl rfl ?_
  refine q_const (p2 := 148) rfl rfl ?_
  refine q_const (p2 := 149) rfl rfl ?_
  refine q_const (p2 := 150) rfl rfl ?_
  refine q_const (p2 := 151) rfl rfl ?_
  refine q_const (p2 := 152) rfl rfl ?_
  refine q_callrE (xs := [(0, 538976288, 0), (0, 538976288, 0), (0, 538976288, 0), (0, 538976288, 0), (0, 1713906464, 0), (6, 0, 0)]) (p2 := 153) rfl rfl rfl rfl (x_rcv_s 0 hH) rfl (zc_h_feed_call hH hB) (Nat.le_refl _) (Nat.le_refl _) rfl (fun φ1 hR1 => ?_)
  obtain ⟨hs1_0, hs1_1, fr1⟩ := hR1
  refine q_if0_s (p2 := 154) rfl (by decide) (by omega) rfl (fun hb => absurd hb (show ¬ (20 < 0) by omega)) (fun _ => ?_)
  refine q_load (v := (6, 0, 0)) (p2 := 155) rfl rfl rfl rfl ?_
  refine q_const (p2 := 156) rfl rfl ?_
  refine q_callrE (xs := [(0, 17, 0), (6, 0, 0)]) (p2 := 157) rfl rfl rfl rfl (x_rcv_s 0 hs1_0) rfl (zc_h_cut hs1_0 (by omega)) (Nat.le_refl _) (Nat.le_refl _) rfl (fun φ2 hR2 => ?_)
  obtain ⟨hs2_0, fr2⟩ := hR2
  refine q_if0_s (p2 := 158) rfl (by decide) (by omega) rfl (fun hb => absurd hb (show ¬ (3 < 0) by omega)) (fun _ => ?_)
  refine q_load (v := (6, 0, 0)) (p2 := 159) rfl rfl rfl rfl ?_
  refine q_load (v := (0, i, 0)) (p2 := 160) rfl rfl rfl rfl ?_
  have hm3 := (zq_tp_at hs1_1 (fr2 1 (by decide)))
  refine q_callrE (xs := [(0, i, 0), (6, 0, 0)]) (p2 := 161) rfl rfl rfl rfl (fun _ _ => rfl) rfl (zc_pn_1_3 hs2_0 hm3 (by omega) ((x_s_ne (by decide)).trans ((x_s_ne (by decide)).trans ((x_s_ne (by decide)).trans ((x_s_ne (by decide)).trans ((x_s_ne (by decide)).trans ((x_s_ne (by decide)).trans ((x_s_ne (by decide)).trans ((x_s_ne (by decide)).trans ((x_s_ne (by decide)).trans ((x_s_ne (by decide)).trans ((x_s_ne (by decide)).trans ((x_s_ne (by decide)).trans ((x_s_ne (by decide)).trans ((x_s_ne (by decide)).trans ((x_s_ne (by decide)).trans ((x_s_ne (by decide)).trans ((x_s_ne (by decide)).trans ((x_s_ne (by decide)).trans ((x_s_ne (by decide)).trans (x_s_eq)))))))))))))))))))) ((x_s_ne (by decide)).trans ((x_s_ne (by decide)).trans ((x_s_ne (by decide)).trans ((x_s_ne (by decide)).trans ((x_s_ne (by decide)).trans ((x_s_ne (by decide)).trans ((x_s_ne (by decide)).trans ((x_s_ne (by decide)).trans ((x_s_ne (by decide)).trans ((x_s_ne (by decide)).trans ((x_s_ne (by decide)).trans ((x_s_ne (by decide)).trans ((x_s_ne (by decide)).trans ((x_s_ne (by decide)).trans ((x_s_ne (by decide)).trans ((x_s_ne (by decide)).trans ((x_s_ne (by decide)).trans ((x_s_ne (by decide)).trans (x_s_eq))))))))))))))))))) ((x_s_ne (by decide)).trans ((x_s_ne (by decide)).trans ((x_s_ne (by decide)).trans ((x_s_ne (by decide)).trans ((x_s_ne (by decide)).trans ((x_s_ne (by decide)).trans ((x_s_ne (by decide)).trans ((x_s_ne (by decide)).trans ((x_s_ne (by decide)).trans ((x_s_ne (by decide)).trans ((x_s_ne (by decide)).trans ((x_s_ne (by decide)).trans ((x_s_ne (by decide)).trans ((x_s_ne (by decide)).trans ((x_s_ne (by decide)).trans ((x_s_ne (by decide)).trans ((x_s_ne (by decide)).trans (x_s_eq))))))))))))))))))) (Nat.le_refl _) (Nat.le_refl _) rfl (fun φ4 hR4 => ?_)
  obtain ⟨tpq4, hH4, hB4, hq4_0, hq4_1, hq4_2, hq4_3, fr4⟩ := hR4
  refine q_if0_s (p2 := 162) rfl (by decide) (by omega) rfl (fun hb => absurd hb (show ¬ (1 = 0) by omega)) (fun _ => ?_)
  refine q_load (v := (6, 0, 0)) (p2 := 163) rfl rfl rfl rfl ?_
  refine q_const (p2 := 164) rfl rfl ?_
  refine q_callrE (xs := [(0, 41, 0), (6, 0, 0)]) (p2 := 165) rfl rfl rfl rfl (fun _ _ => rfl) rfl (zc_put hH4 hB4 (by omega) (by omega)) (Nat.le_refl _) (Nat.le_refl _) rfl (fun φ5 hR5 => ?_)
  obtain ⟨tpq5, hH5, hB5, hc5, hq5, fr5⟩ := hR5
  refine q_if0_s (p2 := 166) rfl (by decide) (by omega) rfl (fun hb => absurd hb (show ¬ (1 = 0) by omega)) (fun _ => ?_)
  refine q_const (p2 := 167) rfl rfl ?_
  refine q_goto rfl ?_
  refine q_store (loc2 := [(6, 0, 0), (0, x, 0), (0, i, 0), (0, j, 0), (0, 1, 0)]) (p2 := 170) rfl rfl rfl rfl rfl ?_
  refine q_load (v := (6, 0, 0)) (p2 := 171) rfl rfl rfl rfl ?_
  refine q_load (v := (0, 1, 0)) (p2 := 172) rfl rfl rfl rfl ?_
  refine q_if0_s (p2 := 173) rfl (by decide) (by omega) rfl (fun hb => absurd hb (show ¬ (1 = 0) by omega)) (fun _ => ?_)
  refine q_load (v := (6, 0, 0)) (p2 := 174) rfl rfl rfl rfl ?_
  have hm6 := (zTJ_at hTJ (fun j h1 h2 => ((fr5 j (by omega) (by omega)).trans ((fr4 j (by omega) (by omega)).trans ((fr2 j (by omega)).trans (fr1 j (by omega) (by omega)))))))
  have hm7 := (zEJ_at hEJ (fun j h1 h2 => ((fr5 j (by omega) (by omega)).trans ((fr4 j (by omega) (by omega)).trans ((fr2 j (by omega)).trans (fr1 j (by omega) (by omega)))))))
  have hm8 := (zq_nm_at hN ((fr5 239 (by decide) (by decide)).trans ((fr4 239 (by decide) (by decide)).trans ((fr2 239 (by decide)).trans (fr1 239 (by decide) (by decide))))) ((fr5 242 (by decide) (by decide)).trans ((fr4 242 (by decide) (by decide)).trans ((fr2 242 (by decide)).trans (fr1 242 (by decide) (by decide))))) ((fr5 244 (by decide) (by decide)).trans ((fr4 244 (by decide) (by decide)).trans ((fr2 244 (by decide)).trans (fr1 244 (by decide) (by decide))))))
  have hm9 := (x_KS_at2 hKS (fun j h1 h2 h3 h4 => ((fr5 j (by omega) (by omega)).trans ((fr4 j (by omega) (by omega)).trans ((fr2 j (by omega)).trans (fr1 j (by omega) (by omega)))))))
  refine x_n_lt (fun hlt11 => ?_)
  have hm10 := (x_PS_at hPS (fun j hj hne => by have hj2 := x_some_lt hlt0 hne; exact ((fr5 j (by omega) (by omega)).trans ((fr4 j (by omega) (by omega)).trans ((fr2 j (by omega)).trans (fr1 j (by omega) (by omega)))))))
  have hm12 := (x_LK_at2 hLK0 (fun j h1 h2 => ((fr5 j (by omega) (by omega)).trans ((fr4 j (by omega) (by omega)).trans ((fr2 j (by omega)).trans (fr1 j (by omega) (by omega)))))))
  have hm13 := (x_SP_at hSP (fun j hj hne => by have hj2 := x_some_lt hlt0 hne; exact ((fr5 j (by omega) (by omega)).trans ((fr4 j (by omega) (by omega)).trans ((fr2 j (by omega)).trans (fr1 j (by omega) (by omega)))))))
  have hm14 := (zq_V5_at hV5 ((fr5 485 (by decide) (by decide)).trans ((fr4 485 (by decide) (by decide)).trans ((fr2 485 (by decide)).trans (fr1 485 (by decide) (by decide))))))
  have hm15 := (zq_SL_at hSL ((fr5 482 (by decide) (by decide)).trans ((fr4 482 (by decide) (by decide)).trans ((fr2 482 (by decide)).trans (fr1 482 (by decide) (by decide))))))
  have hm16 := (zq_RW_at hRW ((fr5 483 (by decide) (by decide)).trans ((fr4 483 (by decide) (by decide)).trans ((fr2 483 (by decide)).trans (fr1 483 (by decide) (by decide))))))
  have hm17 := (zq_J_at hJ ((fr5 468 (by decide) (by decide)).trans ((fr4 468 (by decide) (by decide)).trans ((fr2 468 (by decide)).trans (fr1 468 (by decide) (by decide))))) ((fr5 469 (by decide) (by decide)).trans ((fr4 469 (by decide) (by decide)).trans ((fr2 469 (by decide)).trans (fr1 469 (by decide) (by decide))))) ((fr5 470 (by decide) (by decide)).trans ((fr4 470 (by decide) (by decide)).trans ((fr2 470 (by decide)).trans (fr1 470 (by decide) (by decide))))))
  have hm18 := (zFJ_at hFJ (fun j h1 h2 => ((fr5 j (by omega) (by omega)).trans ((fr4 j (by omega) (by omega)).trans ((fr2 j (by omega)).trans (fr1 j (by omega) (by omega)))))))
  have hm19 := (zWJ_at hWJ (fun j h1 h2 => ((fr5 j (by omega) (by omega)).trans ((fr4 j (by omega) (by omega)).trans ((fr2 j (by omega)).trans (fr1 j (by omega) (by omega)))))))
  have hm20 := (zq_OV_at hOV ((fr5 452 (by decide) (by decide)).trans ((fr4 452 (by decide) (by decide)).trans ((fr2 452 (by decide)).trans (fr1 452 (by decide) (by decide))))) ((fr5 453 (by decide) (by decide)).trans ((fr4 453 (by decide) (by decide)).trans ((fr2 453 (by decide)).trans (fr1 453 (by decide) (by decide))))))
  have hGz21 : zG φ5 5 tpq5 lf mi made sv svm comb hm sc sm mh noted verd ins ver sz bw := ⟨⟨_, _, hH5, (x_hw_at hhw (fun j hj hne => by have hj2 := x_some_lt hlt0 hne; exact ((fr5 j (by omega) (by omega)).trans ((fr4 j (by omega) (by omega)).trans ((fr2 j (by omega)).trans (fr1 j (by omega) (by omega)))))))⟩, hB5, hm6, hm7, hm8, ⟨_, ⟨_, _, _, _, _, _, _, _, _, _, hm9⟩, hco⟩, ⟨_, _, _, hm10, hm12⟩, hm13, hm14, ⟨_, hm15⟩, hm16, hm17, hm18, hm19, ⟨_, _, hm20, hovn, hovh⟩⟩
  refine q_callrB (xs := [(6, 0, 0)]) (p2 := 175) rfl rfl rfl rfl (x_rcv_s 0 hH5) rfl (zc_work_call_y1 (w1 := i) (kk := kk) hGz21 (by omega) hpv (by omega) (((hq5 0 (by omega)).trans hq4_0)) (((hq5 1 (by omega)).trans hq4_1)) (((hq5 2 (by omega)).trans hq4_2)) (((hq5 3 (by omega)).trans hq4_3)) (hc5) (by omega) (by omega) (by omega) h1 hisA hbit hk (by omega)) rfl (fun w21 φ21 n21 sl21 hn21 hN21 hs21 hT21 hR21 => ?_)
  obtain ⟨hwz21, hGr21⟩ := hR21
  subst hwz21
  have hG := hGr21
  skip
  obtain ⟨⟨hand, ie, hH, hhw⟩, hB, hTJ, hEJ, hN, hKJ, ⟨A, B, s9, hPS, hLK0⟩, hSP, hV5, ⟨slq, hSL⟩, hRW, hJ, hFJ, hWJ, ⟨ovn, ovh, hOV, hovn, hovh⟩⟩ := hG
  refine x_n_lt (fun hlt0 => ?_)
  have hmade := x_PS_lt hPS
  obtain ⟨co, ⟨top_, fr_, pc_, mm, st, lo, re, rs, fl, se, hKS⟩, hco⟩ := hKJ
  refine q_goto rfl ?_
  refine q_callrE (xs := [(0, 1, 0), (6, 0, 0)]) (p2 := 178) rfl rfl rfl rfl (fun _ _ => rfl) rfl (zc_done hH hPS (by omega)) (Nat.le_refl _) (Nat.le_refl _) rfl (fun φ23 hR23 => ?_)
  obtain ⟨hs23_0, fr23⟩ := hR23
  have hm24 := (zq_tp_at hB (fr23 1 (by decide)))
  have hm25 := (zTJ_at hTJ (fun j h1 h2 => (fr23 j (by omega))))
  have hm26 := (zEJ_at hEJ (fun j h1 h2 => (fr23 j (by omega))))
  have hm27 := (zq_nm_at hN (fr23 239 (by decide)) (fr23 242 (by decide)) (fr23 244 (by decide)))
  have hm28 := (x_KS_at2 hKS (fun j h1 h2 h3 h4 => (fr23 j (by omega))))
  refine x_n_lt (fun hlt30 => ?_)
  have hm29 := (x_PS_at hPS (fun j hj hne => by have hj2 := x_some_lt hlt0 hne; exact (fr23 j (by omega))))
  have hm31 := (x_LK_at2 hLK0 (fun j h1 h2 => (fr23 j (by omega))))
  have hm32 := (x_SP_at hSP (fun j hj hne => by have hj2 := x_some_lt hlt0 hne; exact (fr23 j (by omega))))
  have hm33 := (zq_V5_at hV5 (fr23 485 (by decide)))
  have hm34 := (zq_SL_at hSL (fr23 482 (by decide)))
  have hm35 := (zq_RW_at hRW (fr23 483 (by decide)))
  have hm36 := (zq_J_at hJ (fr23 468 (by decide)) (fr23 469 (by decide)) (fr23 470 (by decide)))
  have hm37 := (zFJ_at hFJ (fun j h1 h2 => (fr23 j (by omega))))
  have hm38 := (zWJ_at hWJ (fun j h1 h2 => (fr23 j (by omega))))
  have hm39 := (zq_OV_at hOV (fr23 452 (by decide)) (fr23 453 (by decide)))
  exact q_retv (v := (0, 1, 0)) rfl rfl (⟨rfl, ⟨by omega, by omega⟩, ⟨by omega, by omega⟩, _, rfl, ⟨⟨_, _, hs23_0, (x_hw_at hhw (fun j hj hne => by have hj2 := x_some_lt hlt0 hne; exact (fr23 j (by omega))))⟩, hm24, hm25, hm26, hm27, ⟨_, ⟨_, _, _, _, _, _, _, _, _, _, hm28⟩, hco⟩, ⟨_, _, _, hm29, hm31⟩, hm32, hm33, ⟨_, hm34⟩, hm35, hm36, hm37, hm38, ⟨_, _, hm39, hovn, hovh⟩⟩⟩)
set_option maxHeartbeats 1000000 in
theorem zc_call_8_drop {d n sl : Nat} {φ : FH} {tp : Nat → Nat} {lf : Nat} {mi : Nat} {made : Nat} {sv : Nat} {svm : Nat} {comb : Nat → Nat} {hm : Nat → MV} {sc : Nat → Nat} {sm : Nat → MV} {mh : MV} {noted : Nat} {verd : Nat} {ins : Nat → Nat} {ver : Nat → Nat} {sz : Nat} {bw : Nat → Nat} {x : Nat} {s4 s7 i j : Nat} {s10 : Nat} (hG : zG φ 0 tp lf mi made sv svm comb hm sc sm mh noted verd ins ver sz bw) (hn0 : 486 ≤ n) (hpv : ∀ i, x_pv2 (hm i)) (hmi : mi + 300 ≤ 20000) (hx32 : x < 4294967296) (hf0 : x >>> 4 = s4) (hf1 : s4 &&& 7 = i) (hf2 : x >>> 7 = s7) (hf3 : s7 &&& 7 = j) (hf4 : x &&& 15 = 8) (hf5 : x >>> 10 = s10) (hf6 : s10 &&& 7 = 0) (hi : i < 8) (hj : j < 8) (hex : i < made ∧ comb i ≠ 0) (hcnt : x_cnt (x_em i hm) (made * 40) ≤ 40) : x_f x_P (d + 5) 4 [(6, 0, 0), (0, x, 0), (11, 0, 0), (11, 0, 0), (11, 0, 0)] φ n sl (x_bR n sl 120 2200 (fun zw φ2 => ∃ tpZ : Nat → Nat, zw = (0, 1, 0) ∧ zG φ2 0 tpZ lf mi made sv svm (x_s comb i 0) (x_rm i (x_em i hm) (made * 40)) sc sm mh noted verd ins ver sz bw)) := by
  refine x_f_of rfl ?_
  have hG0 := hG
  obtain ⟨⟨hand, ie, hH, hhw⟩, hB, hTJ, hEJ, hN, hKJ, ⟨A, B, s9, hPS, hLK0⟩, hSP, hV5, ⟨slq, hSL⟩, hRW, hJ, hFJ, hWJ, ⟨ovn, ovh, hOV, hovn, hovh⟩⟩ := hG
  refine x_n_lt (fun hlt0 => ?_)
  have hmade := x_PS_lt hPS
  obtain ⟨co, ⟨top_, fr_, pc_, mm, st, lo, re, rs, fl, se, hKS⟩, hco⟩ := hKJ
  refine q_load (v := (0, x, 0)) (p2 := 1) rfl rfl rfl rfl ?_
  refine q_const (p2 := 2) rfl rfl ?_
  refine q_iushrz (z := s4) (p2 := 3) rfl (by omega) hf0 rfl ?_
  refine q_const (p2 := 4) rfl rfl ?_
  refine q_iandz (z := i) (p2 := 5) rfl hf1 (by omega) rfl ?_
  refine q_store (loc2 := [(6, 0, 0), (0, x, 0), (0, i, 0), (11, 0, 0), (11, 0, 0)]) (p2 := 6) rfl rfl rfl rfl rfl ?_
  refine q_load (v := (0, x, 0)) (p2 := 7) rfl rfl rfl rfl ?_
  refine q_const (p2 := 8) rfl rfl ?_
  refine q_iushrz (z := s7) (p2 := 9) rfl (by omega) hf2 rfl ?_
  refine q_const (p2 := 10) rfl rfl ?_
  refine q_iandz (z := j) (p2 := 11) rfl hf3 (by omega) rfl ?_
  refine q_store (loc2 := [(6, 0, 0), (0, x, 0), (0, i, 0), (0, j, 0), (11, 0, 0)]) (p2 := 12) rfl rfl rfl rfl rfl ?_
  refine q_const (p2 := 13) rfl rfl ?_
  refine q_store (loc2 := [(6, 0, 0), (0, x, 0), (0, i, 0), (0, j, 0), (0, 1, 0)]) (p2 := 14) rfl rfl rfl rfl rfl ?_
  refine q_load (v := (0, x, 0)) (p2 := 15) rfl rfl rfl rfl ?_
  refine q_const (p2 := 16) rfl rfl ?_
  refine q_iandz (z := 8) (p2 := 17) rfl hf4 (by omega) rfl ?_
  refine q_switch (tgt := 123) rfl (by decide) rfl ?_
  refine q_load (v := (0, x, 0)) (p2 := 124) rfl rfl rfl rfl ?_
  refine q_const (p2 := 125) rfl rfl ?_
  refine q_iushrz (z := s10) (p2 := 126) rfl (by omega) hf5 rfl ?_
  refine q_const (p2 := 127) rfl rfl ?_
  refine q_iandz (z := 0) (p2 := 128) rfl hf6 (by omega) rfl ?_
  refine q_if0_s (p2 := 129) rfl (by decide) (by omega) rfl (fun hb => absurd hb (show ¬ (¬ (0 = 0)) by omega)) (fun _ => ?_)
  refine q_load (v := (6, 0, 0)) (p2 := 130) rfl rfl rfl rfl ?_
  refine q_load (v := (0, i, 0)) (p2 := 131) rfl rfl rfl rfl ?_
  have hGz1 : zG φ 0 tp lf mi made sv svm comb hm sc sm mh noted verd ins ver sz bw := ⟨⟨_, _, hH, hhw⟩, hB, hTJ, hEJ, hN, ⟨_, ⟨_, _, _, _, _, _, _, _, _, _, hKS⟩, hco⟩, ⟨_, _, _, hPS, hLK0⟩, hSP, hV5, ⟨_, hSL⟩, hRW, hJ, hFJ, hWJ, ⟨_, _, hOV, hovn, hovh⟩⟩
  refine q_callrB (xs := [(0, i, 0), (6, 0, 0)]) (p2 := 132) rfl rfl rfl rfl (x_rcv_s 0 hH) rfl (zc_drop (x := i) hGz1 (by omega) hpv (by omega) (by omega) hex hcnt) rfl (fun w1 φ1 n1 sl1 hn1 hN1 hs1 hT1 hR1 => ?_)
  obtain ⟨hwz1, hGr1⟩ := hR1
  subst hwz1
  have hG := hGr1
  skip
  obtain ⟨⟨hand, ie, hH, hhw⟩, hB, hTJ, hEJ, hN, hKJ, ⟨A, B, s9, hPS, hLK0⟩, hSP, hV5, ⟨slq, hSL⟩, hRW, hJ, hFJ, hWJ, ⟨ovn, ovh, hOV, hovn, hovh⟩⟩ := hG
  refine x_n_lt (fun hlt0 => ?_)
  have hmade := x_PS_lt hPS
  obtain ⟨co, ⟨top_, fr_, pc_, mm, st, lo, re, rs, fl, se, hKS⟩, hco⟩ := hKJ
  refine q_goto rfl ?_
  exact q_retv (v := (0, 1, 0)) rfl rfl (⟨rfl, ⟨by omega, by omega⟩, ⟨by omega, by omega⟩, _, rfl, ⟨⟨_, _, hH, hhw⟩, hB, hTJ, hEJ, hN, ⟨_, ⟨_, _, _, _, _, _, _, _, _, _, hKS⟩, hco⟩, ⟨_, _, _, hPS, hLK0⟩, hSP, hV5, ⟨_, hSL⟩, hRW, hJ, hFJ, hWJ, ⟨_, _, hOV, hovn, hovh⟩⟩⟩)
set_option maxHeartbeats 1000000 in
theorem zc_call_8_dropn {d n sl : Nat} {φ : FH} {tp : Nat → Nat} {lf : Nat} {mi : Nat} {made : Nat} {sv : Nat} {svm : Nat} {comb : Nat → Nat} {hm : Nat → MV} {sc : Nat → Nat} {sm : Nat → MV} {mh : MV} {noted : Nat} {verd : Nat} {ins : Nat → Nat} {ver : Nat → Nat} {sz : Nat} {bw : Nat → Nat} {x : Nat} {s4 s7 i j : Nat} {s10 : Nat} (hG : zG φ 0 tp lf mi made sv svm comb hm sc sm mh noted verd ins ver sz bw) (hn0 : 486 ≤ n) (hpv : ∀ i, x_pv2 (hm i)) (hmi : mi + 300 ≤ 20000) (hx32 : x < 4294967296) (hf0 : x >>> 4 = s4) (hf1 : s4 &&& 7 = i) (hf2 : x >>> 7 = s7) (hf3 : s7 &&& 7 = j) (hf4 : x &&& 15 = 8) (hf5 : x >>> 10 = s10) (hf6 : s10 &&& 7 = 0) (hi : i < 8) (hj : j < 8) (hex : ¬ (i < made ∧ comb i ≠ 0)) : x_f x_P (d + 3) 4 [(6, 0, 0), (0, x, 0), (11, 0, 0), (11, 0, 0), (11, 0, 0)] φ n sl (x_bR n sl 0 0 (fun zw φ2 => ∃ tpZ : Nat → Nat, zw = (0, 4294967295, 0) ∧ zG φ2 0 tpZ lf mi made sv svm comb hm sc sm mh noted verd ins ver sz bw)) := by
  refine x_f_of rfl ?_
  have hG0 := hG
  obtain ⟨⟨hand, ie, hH, hhw⟩, hB, hTJ, hEJ, hN, hKJ, ⟨A, B, s9, hPS, hLK0⟩, hSP, hV5, ⟨slq, hSL⟩, hRW, hJ, hFJ, hWJ, ⟨ovn, ovh, hOV, hovn, hovh⟩⟩ := hG
  refine x_n_lt (fun hlt0 => ?_)
  have hmade := x_PS_lt hPS
  obtain ⟨co, ⟨top_, fr_, pc_, mm, st, lo, re, rs, fl, se, hKS⟩, hco⟩ := hKJ
  refine q_load (v := (0, x, 0)) (p2 := 1) rfl rfl rfl rfl ?_
  refine q_const (p2 := 2) rfl rfl ?_
  refine q_iushrz (z := s4) (p2 := 3) rfl (by omega) hf0 rfl ?_
  refine q_const (p2 := 4) rfl rfl ?_
  refine q_iandz (z := i) (p2 := 5) rfl hf1 (by omega) rfl ?_
  refine q_store (loc2 := [(6, 0, 0), (0, x, 0), (0, i, 0), (11, 0, 0), (11, 0, 0)]) (p2 := 6) rfl rfl rfl rfl rfl ?_
  refine q_load (v := (0, x, 0)) (p2 := 7) rfl rfl rfl rfl ?_
  refine q_const (p2 := 8) rfl rfl ?_
  refine q_iushrz (z := s7) (p2 := 9) rfl (by omega) hf2 rfl ?_
  refine q_const (p2 := 10) rfl rfl ?_
  refine q_iandz (z := j) (p2 := 11) rfl hf3 (by omega) rfl ?_
  refine q_store (loc2 := [(6, 0, 0), (0, x, 0), (0, i, 0), (0, j, 0), (11, 0, 0)]) (p2 := 12) rfl rfl rfl rfl rfl ?_
  refine q_const (p2 := 13) rfl rfl ?_
  refine q_store (loc2 := [(6, 0, 0), (0, x, 0), (0, i, 0), (0, j, 0), (0, 1, 0)]) (p2 := 14) rfl rfl rfl rfl rfl ?_
  refine q_load (v := (0, x, 0)) (p2 := 15) rfl rfl rfl rfl ?_
  refine q_const (p2 := 16) rfl rfl ?_
  refine q_iandz (z := 8) (p2 := 17) rfl hf4 (by omega) rfl ?_
  refine q_switch (tgt := 123) rfl (by decide) rfl ?_
  refine q_load (v := (0, x, 0)) (p2 := 124) rfl rfl rfl rfl ?_
  refine q_const (p2 := 125) rfl rfl ?_
  refine q_iushrz (z := s10) (p2 := 126) rfl (by omega) hf5 rfl ?_
  refine q_const (p2 := 127) rfl rfl ?_
  refine q_iandz (z := 0) (p2 := 128) rfl hf6 (by omega) rfl ?_
  refine q_if0_s (p2 := 129) rfl (by decide) (by omega) rfl (fun hb => absurd hb (show ¬ (¬ (0 = 0)) by omega)) (fun _ => ?_)
  refine q_load (v := (6, 0, 0)) (p2 := 130) rfl rfl rfl rfl ?_
  refine q_load (v := (0, i, 0)) (p2 := 131) rfl rfl rfl rfl ?_
  have hGz1 : zG φ 0 tp lf mi made sv svm comb hm sc sm mh noted verd ins ver sz bw := ⟨⟨_, _, hH, hhw⟩, hB, hTJ, hEJ, hN, ⟨_, ⟨_, _, _, _, _, _, _, _, _, _, hKS⟩, hco⟩, ⟨_, _, _, hPS, hLK0⟩, hSP, hV5, ⟨_, hSL⟩, hRW, hJ, hFJ, hWJ, ⟨_, _, hOV, hovn, hovh⟩⟩
  refine q_callrB (xs := [(0, i, 0), (6, 0, 0)]) (p2 := 132) rfl rfl rfl rfl (x_rcv_s 0 hH) rfl (zc_drop_no (x := i) hGz1 (by omega) hpv (by omega) (by omega) hex) rfl (fun w1 φ1 n1 sl1 hn1 hN1 hs1 hT1 hR1 => ?_)
  obtain ⟨hwz1, hGr1⟩ := hR1
  subst hwz1
  have hG := hGr1
  skip
  obtain ⟨⟨hand, ie, hH, hhw⟩, hB, hTJ, hEJ, hN, hKJ, ⟨A, B, s9, hPS, hLK0⟩, hSP, hV5, ⟨slq, hSL⟩, hRW, hJ, hFJ, hWJ, ⟨ovn, ovh, hOV, hovn, hovh⟩⟩ := hG
  refine x_n_lt (fun hlt0 => ?_)
  have hmade := x_PS_lt hPS
  obtain ⟨co, ⟨top_, fr_, pc_, mm, st, lo, re, rs, fl, se, hKS⟩, hco⟩ := hKJ
  refine q_goto rfl ?_
  exact q_retv (v := (0, 4294967295, 0)) rfl rfl (⟨rfl, ⟨by omega, by omega⟩, ⟨by omega, by omega⟩, _, rfl, ⟨⟨_, _, hH, hhw⟩, hB, hTJ, hEJ, hN, ⟨_, ⟨_, _, _, _, _, _, _, _, _, _, hKS⟩, hco⟩, ⟨_, _, _, hPS, hLK0⟩, hSP, hV5, ⟨_, hSL⟩, hRW, hJ, hFJ, hWJ, ⟨_, _, hOV, hovn, hovh⟩⟩⟩)
set_option maxHeartbeats 1000000 in
theorem zc_call_8_get0_bad {d n sl : Nat} {φ : FH} {tp : Nat → Nat} {lf : Nat} {mi : Nat} {made : Nat} {sv : Nat} {svm : Nat} {comb : Nat → Nat} {hm : Nat → MV} {sc : Nat → Nat} {sm : Nat → MV} {mh : MV} {noted : Nat} {verd : Nat} {ins : Nat → Nat} {ver : Nat → Nat} {sz : Nat} {bw : Nat → Nat} {x : Nat} {s4 s7 s10 t7 i : Nat}  (hG : zG φ 0 tp lf mi made sv svm comb hm sc sm mh noted verd ins ver sz bw) (hn0 : 486 ≤ n) (hpv : ∀ i, x_pv2 (hm i)) (hmi : mi + 300 ≤ 20000) (hx32 : x < 4294967296) (hf0 : x >>> 4 = s4) (hf1 : s4 &&& 7 = i) (hf2 : x >>> 7 = s7) (hf3 : s7 &&& 7 = 0) (hf4 : x &&& 15 = 8) (hf5 : x >>> 10 = s10) (hf6 : s10 &&& 7 = t7) (hi : i < 8) (ht7 : t7 ≠ 0 ∧ t7 < 8) (hna : ¬ x_isA made comb i 0) : x_f x_P (d + 5) 4 [(6, 0, 0), (0, x, 0), (11, 0, 0), (11, 0, 0), (11, 0, 0)] φ n sl (x_bR n sl 0 0 (fun zw φ2 => ∃ tpZ : Nat → Nat, zw = (0, 4294967295, 0) ∧ zG φ2 0 tpZ lf mi made sv svm comb hm sc sm mh noted verd ins ver sz bw)) := by
  refine x_f_of rfl ?_
  have hG0 := hG
  obtain ⟨⟨hand, ie, hH, hhw⟩, hB, hTJ, hEJ, hN, hKJ, ⟨A, B, s9, hPS, hLK0⟩, hSP, hV5, ⟨slq, hSL⟩, hRW, hJ, hFJ, hWJ, ⟨ovn, ovh, hOV, hovn, hovh⟩⟩ := hG
  refine x_n_lt (fun hlt0 => ?_)
  have hmade := x_PS_lt hPS
  obtain ⟨co, ⟨top_, fr_, pc_, mm, st, lo, re, rs, fl, se, hKS⟩, hco⟩ := hKJ
  refine q_load (v := (0, x, 0)) (p2 := 1) rfl rfl rfl rfl ?_
  refine q_const (p2 := 2) rfl rfl ?_
  refine q_iushrz (z := s4) (p2 := 3) rfl (by omega) hf0 rfl ?_
  refine q_const (p2 := 4) rfl rfl ?_
  refine q_iandz (z := i) (p2 := 5) rfl hf1 (by omega) rfl ?_
  refine q_store (loc2 := [(6, 0, 0), (0, x, 0), (0, i, 0), (11, 0, 0), (11, 0, 0)]) (p2 := 6) rfl rfl rfl rfl rfl ?_
  refine q_load (v := (0, x, 0)) (p2 := 7) rfl rfl rfl rfl ?_
  refine q_const (p2 := 8) rfl rfl ?_
  refine q_iushrz (z := s7) (p2 := 9) rfl (by omega) hf2 rfl ?_
  refine q_const (p2 := 10) rfl rfl ?_
  refine q_iandz (z := 0) (p2 := 11) rfl hf3 (by omega) rfl ?_
  refine q_store (loc2 := [(6, 0, 0), (0, x, 0), (0, i, 0), (0, 0, 0), (11, 0, 0)]) (p2 := 12) rfl rfl rfl rfl rfl ?_
  refine q_const (p2 := 13) rfl rfl ?_
  refine q_store (loc2 := [(6, 0, 0), (0, x, 0), (0, i, 0), (0, 0, 0), (0, 1, 0)]) (p2 := 14) rfl rfl rfl rfl rfl ?_
  refine q_load (v := (0, x, 0)) (p2 := 15) rfl rfl rfl rfl ?_
  refine q_const (p2 := 16) rfl rfl ?_
  refine q_iandz (z := 8) (p2 := 17) rfl hf4 (by omega) rfl ?_
  refine q_switch (tgt := 123) rfl (by decide) rfl ?_
  refine q_load (v := (0, x, 0)) (p2 := 124) rfl rfl rfl rfl ?_
  refine q_const (p2 := 125) rfl rfl ?_
  refine q_iushrz (z := s10) (p2 := 126) rfl (by omega) hf5 rfl ?_
  refine q_const (p2 := 127) rfl rfl ?_
  refine q_iandz (z := t7) (p2 := 128) rfl hf6 (by omega) rfl ?_
  refine q_if0_s (p2 := 129) rfl (by decide) (by omega) rfl (fun _ => ?_) (fun hb => absurd (show ¬ (t7 = 0) by omega) hb)
  refine q_load (v := (6, 0, 0)) (p2 := 134) rfl rfl rfl rfl ?_
  refine q_load (v := (0, i, 0)) (p2 := 135) rfl rfl rfl rfl ?_
  refine q_load (v := (0, 0, 0)) (p2 := 136) rfl rfl rfl rfl ?_
  have hGz1 : zG φ 0 tp lf mi made sv svm comb hm sc sm mh noted verd ins ver sz bw := ⟨⟨_, _, hH, hhw⟩, hB, hTJ, hEJ, hN, ⟨_, ⟨_, _, _, _, _, _, _, _, _, _, hKS⟩, hco⟩, ⟨_, _, _, hPS, hLK0⟩, hSP, hV5, ⟨_, hSL⟩, hRW, hJ, hFJ, hWJ, ⟨_, _, hOV, hovn, hovh⟩⟩
  refine q_callrB (xs := [(0, 0, 0), (0, i, 0), (6, 0, 0)]) (p2 := 137) rfl rfl rfl rfl (x_rcv_s 0 hH) rfl (zc_get0_bad (x := i) hGz1 (by omega) hpv (by omega) (by omega) hna) rfl (fun w1 φ1 n1 sl1 hn1 hN1 hs1 hT1 hR1 => ?_)
  obtain ⟨hwz1, hGr1⟩ := hR1
  subst hwz1
  have hG := hGr1
  skip
  obtain ⟨⟨hand, ie, hH, hhw⟩, hB, hTJ, hEJ, hN, hKJ, ⟨A, B, s9, hPS, hLK0⟩, hSP, hV5, ⟨slq, hSL⟩, hRW, hJ, hFJ, hWJ, ⟨ovn, ovh, hOV, hovn, hovh⟩⟩ := hG
  refine x_n_lt (fun hlt0 => ?_)
  have hmade := x_PS_lt hPS
  obtain ⟨co, ⟨top_, fr_, pc_, mm, st, lo, re, rs, fl, se, hKS⟩, hco⟩ := hKJ
  exact q_retv (v := (0, 4294967295, 0)) rfl rfl (⟨rfl, ⟨by omega, by omega⟩, ⟨by omega, by omega⟩, _, rfl, ⟨⟨_, _, hH, hhw⟩, hB, hTJ, hEJ, hN, ⟨_, ⟨_, _, _, _, _, _, _, _, _, _, hKS⟩, hco⟩, ⟨_, _, _, hPS, hLK0⟩, hSP, hV5, ⟨_, hSL⟩, hRW, hJ, hFJ, hWJ, ⟨_, _, hOV, hovn, hovh⟩⟩⟩)
set_option maxHeartbeats 1000000 in
theorem zc_call_8_get0 {d n sl : Nat} {φ : FH} {tp : Nat → Nat} {lf : Nat} {mi : Nat} {made : Nat} {sv : Nat} {svm : Nat} {comb : Nat → Nat} {hm : Nat → MV} {sc : Nat → Nat} {sm : Nat → MV} {mh : MV} {noted : Nat} {verd : Nat} {ins : Nat → Nat} {ver : Nat → Nat} {sz : Nat} {bw : Nat → Nat} {x : Nat} {s4 s7 s10 t7 i : Nat}  (hG : zG φ 0 tp lf mi made sv svm comb hm sc sm mh noted verd ins ver sz bw) (hn0 : 486 ≤ n) (hpv : ∀ i, x_pv2 (hm i)) (hmi : mi + 300 ≤ 20000) (hx32 : x < 4294967296) (hf0 : x >>> 4 = s4) (hf1 : s4 &&& 7 = i) (hf2 : x >>> 7 = s7) (hf3 : s7 &&& 7 = 0) (hf4 : x &&& 15 = 8) (hf5 : x >>> 10 = s10) (hf6 : s10 &&& 7 = t7) (hi : i < 8) (ht7 : t7 ≠ 0 ∧ t7 < 8) (hisA : x_isA made comb i 0) : x_f x_P (d + 9) 4 [(6, 0, 0), (0, x, 0), (11, 0, 0), (11, 0, 0), (11, 0, 0)] φ n sl (x_bR n sl 1 7 (fun zw φ2 => ∃ tpZ : Nat → Nat, zw = (0, (hm (i * 40)).1, 0) ∧ zG φ2 0 tpZ lf mi made sv svm comb hm sc sm (hm (i * 40)) noted verd ins ver sz bw)) := by
  refine x_f_of rfl ?_
  have hG0 := hG
  obtain ⟨⟨hand, ie, hH, hhw⟩, hB, hTJ, hEJ, hN, hKJ, ⟨A, B, s9, hPS, hLK0⟩, hSP, hV5, ⟨slq, hSL⟩, hRW, hJ, hFJ, hWJ, ⟨ovn, ovh, hOV, hovn, hovh⟩⟩ := hG
  refine x_n_lt (fun hlt0 => ?_)
  have hmade := x_PS_lt hPS
  obtain ⟨co, ⟨top_, fr_, pc_, mm, st, lo, re, rs, fl, se, hKS⟩, hco⟩ := hKJ
  refine q_load (v := (0, x, 0)) (p2 := 1) rfl rfl rfl rfl ?_
  refine q_const (p2 := 2) rfl rfl ?_
  refine q_iushrz (z := s4) (p2 := 3) rfl (by omega) hf0 rfl ?_
  refine q_const (p2 := 4) rfl rfl ?_
  refine q_iandz (z := i) (p2 := 5) rfl hf1 (by omega) rfl ?_
  refine q_store (loc2 := [(6, 0, 0), (0, x, 0), (0, i, 0), (11, 0, 0), (11, 0, 0)]) (p2 := 6) rfl rfl rfl rfl rfl ?_
  refine q_load (v := (0, x, 0)) (p2 := 7) rfl rfl rfl rfl ?_
  refine q_const (p2 := 8) rfl rfl ?_
  refine q_iushrz (z := s7) (p2 := 9) rfl (by omega) hf2 rfl ?_
  refine q_const (p2 := 10) rfl rfl ?_
  refine q_iandz (z := 0) (p2 := 11) rfl hf3 (by omega) rfl ?_
  refine q_store (loc2 := [(6, 0, 0), (0, x, 0), (0, i, 0), (0, 0, 0), (11, 0, 0)]) (p2 := 12) rfl rfl rfl rfl rfl ?_
  refine q_const (p2 := 13) rfl rfl ?_
  refine q_store (loc2 := [(6, 0, 0), (0, x, 0), (0, i, 0), (0, 0, 0), (0, 1, 0)]) (p2 := 14) rfl rfl rfl rfl rfl ?_
  refine q_load (v := (0, x, 0)) (p2 := 15) rfl rfl rfl rfl ?_
  refine q_const (p2 := 16) rfl rfl ?_
  refine q_iandz (z := 8) (p2 := 17) rfl hf4 (by omega) rfl ?_
  refine q_switch (tgt := 123) rfl (by decide) rfl ?_
  refine q_load (v := (0, x, 0)) (p2 := 124) rfl rfl rfl rfl ?_
  refine q_const (p2 := 125) rfl rfl ?_
  refine q_iushrz (z := s10) (p2 := 126) rfl (by omega) hf5 rfl ?_
  refine q_const (p2 := 127) rfl rfl ?_
  refine q_iandz (z := t7) (p2 := 128) rfl hf6 (by omega) rfl ?_
  refine q_if0_s (p2 := 129) rfl (by decide) (by omega) rfl (fun _ => ?_) (fun hb => absurd (show ¬ (t7 = 0) by omega) hb)
  refine q_load (v := (6, 0, 0)) (p2 := 134) rfl rfl rfl rfl ?_
  refine q_load (v := (0, i, 0)) (p2 := 135) rfl rfl rfl rfl ?_
  refine q_load (v := (0, 0, 0)) (p2 := 136) rfl rfl rfl rfl ?_
  have hGz1 : zG φ 0 tp lf mi made sv svm comb hm sc sm mh noted verd ins ver sz bw := ⟨⟨_, _, hH, hhw⟩, hB, hTJ, hEJ, hN, ⟨_, ⟨_, _, _, _, _, _, _, _, _, _, hKS⟩, hco⟩, ⟨_, _, _, hPS, hLK0⟩, hSP, hV5, ⟨_, hSL⟩, hRW, hJ, hFJ, hWJ, ⟨_, _, hOV, hovn, hovh⟩⟩
  refine q_callrB (xs := [(0, 0, 0), (0, i, 0), (6, 0, 0)]) (p2 := 137) rfl rfl rfl rfl (x_rcv_s 0 hH) rfl (zc_get0 (x := i) hGz1 (by omega) hpv (by omega) (by omega) hisA) rfl (fun w1 φ1 n1 sl1 hn1 hN1 hs1 hT1 hR1 => ?_)
  obtain ⟨hwz1, hGr1⟩ := hR1
  subst hwz1
  have hG := hGr1
  skip
  obtain ⟨⟨hand, ie, hH, hhw⟩, hB, hTJ, hEJ, hN, hKJ, ⟨A, B, s9, hPS, hLK0⟩, hSP, hV5, ⟨slq, hSL⟩, hRW, hJ, hFJ, hWJ, ⟨ovn, ovh, hOV, hovn, hovh⟩⟩ := hG
  refine x_n_lt (fun hlt0 => ?_)
  have hmade := x_PS_lt hPS
  obtain ⟨co, ⟨top_, fr_, pc_, mm, st, lo, re, rs, fl, se, hKS⟩, hco⟩ := hKJ
  exact q_retv (v := (0, (hm (i * 40)).1, 0)) rfl rfl (⟨rfl, ⟨by omega, by omega⟩, ⟨by omega, by omega⟩, _, rfl, ⟨⟨_, _, hH, hhw⟩, hB, hTJ, hEJ, hN, ⟨_, ⟨_, _, _, _, _, _, _, _, _, _, hKS⟩, hco⟩, ⟨_, _, _, hPS, hLK0⟩, hSP, hV5, ⟨_, hSL⟩, hRW, hJ, hFJ, hWJ, ⟨_, _, hOV, hovn, hovh⟩⟩⟩)
set_option maxHeartbeats 1000000 in
theorem zc_call_8_get1_bad {d n sl : Nat} {φ : FH} {tp : Nat → Nat} {lf : Nat} {mi : Nat} {made : Nat} {sv : Nat} {svm : Nat} {comb : Nat → Nat} {hm : Nat → MV} {sc : Nat → Nat} {sm : Nat → MV} {mh : MV} {noted : Nat} {verd : Nat} {ins : Nat → Nat} {ver : Nat → Nat} {sz : Nat} {bw : Nat → Nat} {x : Nat} {s4 s7 s10 t7 i : Nat}  (hG : zG φ 0 tp lf mi made sv svm comb hm sc sm mh noted verd ins ver sz bw) (hn0 : 486 ≤ n) (hpv : ∀ i, x_pv2 (hm i)) (hmi : mi + 300 ≤ 20000) (hx32 : x < 4294967296) (hf0 : x >>> 4 = s4) (hf1 : s4 &&& 7 = i) (hf2 : x >>> 7 = s7) (hf3 : s7 &&& 7 = 1) (hf4 : x &&& 15 = 8) (hf5 : x >>> 10 = s10) (hf6 : s10 &&& 7 = t7) (hi : i < 8) (ht7 : t7 ≠ 0 ∧ t7 < 8) (hna : ¬ x_isA made comb i 0) : x_f x_P (d + 5) 4 [(6, 0, 0), (0, x, 0), (11, 0, 0), (11, 0, 0), (11, 0, 0)] φ n sl (x_bR n sl 0 0 (fun zw φ2 => ∃ tpZ : Nat → Nat, zw = (0, 4294967295, 0) ∧ zG φ2 0 tpZ lf mi made sv svm comb hm sc sm mh noted verd ins ver sz bw)) := by
  refine x_f_of rfl ?_
  have hG0 := hG
  obtain ⟨⟨hand, ie, hH, hhw⟩, hB, hTJ, hEJ, hN, hKJ, ⟨A, B, s9, hPS, hLK0⟩, hSP, hV5, ⟨slq, hSL⟩, hRW, hJ, hFJ, hWJ, ⟨ovn, ovh, hOV, hovn, hovh⟩⟩ := hG
  refine x_n_lt (fun hlt0 => ?_)
  have hmade := x_PS_lt hPS
  obtain ⟨co, ⟨top_, fr_, pc_, mm, st, lo, re, rs, fl, se, hKS⟩, hco⟩ := hKJ
  refine q_load (v := (0, x, 0)) (p2 := 1) rfl rfl rfl rfl ?_
  refine q_const (p2 := 2) rfl rfl ?_
  refine q_iushrz (z := s4) (p2 := 3) rfl (by omega) hf0 rfl ?_
  refine q_const (p2 := 4) rfl rfl ?_
  refine q_iandz (z := i) (p2 := 5) rfl hf1 (by omega) rfl ?_
  refine q_store (loc2 := [(6, 0, 0), (0, x, 0), (0, i, 0), (11, 0, 0), (11, 0, 0)]) (p2 := 6) rfl rfl rfl rfl rfl ?_
  refine q_load (v := (0, x, 0)) (p2 := 7) rfl rfl rfl rfl ?_
  refine q_const (p2 := 8) rfl rfl ?_
  refine q_iushrz (z := s7) (p2 := 9) rfl (by omega) hf2 rfl ?_
  refine q_const (p2 := 10) rfl rfl ?_
  refine q_iandz (z := 1) (p2 := 11) rfl hf3 (by omega) rfl ?_
  refine q_store (loc2 := [(6, 0, 0), (0, x, 0), (0, i, 0), (0, 1, 0), (11, 0, 0)]) (p2 := 12) rfl rfl rfl rfl rfl ?_
  refine q_const (p2 := 13) rfl rfl ?_
  refine q_store (loc2 := [(6, 0, 0), (0, x, 0), (0, i, 0), (0, 1, 0), (0, 1, 0)]) (p2 := 14) rfl rfl rfl rfl rfl ?_
  refine q_load (v := (0, x, 0)) (p2 := 15) rfl rfl rfl rfl ?_
  refine q_const (p2 := 16) rfl rfl ?_
  refine q_iandz (z := 8) (p2 := 17) rfl hf4 (by omega) rfl ?_
  refine q_switch (tgt := 123) rfl (by decide) rfl ?_
  refine q_load (v := (0, x, 0)) (p2 := 124) rfl rfl rfl rfl ?_
  refine q_const (p2 := 125) rfl rfl ?_
  refine q_iushrz (z := s10) (p2 := 126) rfl (by omega) hf5 rfl ?_
  refine q_const (p2 := 127) rfl rfl ?_
  refine q_iandz (z := t7) (p2 := 128) rfl hf6 (by omega) rfl ?_
  refine q_if0_s (p2 := 129) rfl (by decide) (by omega) rfl (fun _ => ?_) (fun hb => absurd (show ¬ (t7 = 0) by omega) hb)
  refine q_load (v := (6, 0, 0)) (p2 := 134) rfl rfl rfl rfl ?_
  refine q_load (v := (0, i, 0)) (p2 := 135) rfl rfl rfl rfl ?_
  refine q_load (v := (0, 1, 0)) (p2 := 136) rfl rfl rfl rfl ?_
  have hGz1 : zG φ 0 tp lf mi made sv svm comb hm sc sm mh noted verd ins ver sz bw := ⟨⟨_, _, hH, hhw⟩, hB, hTJ, hEJ, hN, ⟨_, ⟨_, _, _, _, _, _, _, _, _, _, hKS⟩, hco⟩, ⟨_, _, _, hPS, hLK0⟩, hSP, hV5, ⟨_, hSL⟩, hRW, hJ, hFJ, hWJ, ⟨_, _, hOV, hovn, hovh⟩⟩
  refine q_callrB (xs := [(0, 1, 0), (0, i, 0), (6, 0, 0)]) (p2 := 137) rfl rfl rfl rfl (x_rcv_s 0 hH) rfl (zc_get1_bad (x := i) hGz1 (by omega) hpv (by omega) (by omega) hna) rfl (fun w1 φ1 n1 sl1 hn1 hN1 hs1 hT1 hR1 => ?_)
  obtain ⟨hwz1, hGr1⟩ := hR1
  subst hwz1
  have hG := hGr1
  skip
  obtain ⟨⟨hand, ie, hH, hhw⟩, hB, hTJ, hEJ, hN, hKJ, ⟨A, B, s9, hPS, hLK0⟩, hSP, hV5, ⟨slq, hSL⟩, hRW, hJ, hFJ, hWJ, ⟨ovn, ovh, hOV, hovn, hovh⟩⟩ := hG
  refine x_n_lt (fun hlt0 => ?_)
  have hmade := x_PS_lt hPS
  obtain ⟨co, ⟨top_, fr_, pc_, mm, st, lo, re, rs, fl, se, hKS⟩, hco⟩ := hKJ
  exact q_retv (v := (0, 4294967295, 0)) rfl rfl (⟨rfl, ⟨by omega, by omega⟩, ⟨by omega, by omega⟩, _, rfl, ⟨⟨_, _, hH, hhw⟩, hB, hTJ, hEJ, hN, ⟨_, ⟨_, _, _, _, _, _, _, _, _, _, hKS⟩, hco⟩, ⟨_, _, _, hPS, hLK0⟩, hSP, hV5, ⟨_, hSL⟩, hRW, hJ, hFJ, hWJ, ⟨_, _, hOV, hovn, hovh⟩⟩⟩)
set_option maxHeartbeats 1000000 in
theorem zc_call_8_get1 {d n sl : Nat} {φ : FH} {tp : Nat → Nat} {lf : Nat} {mi : Nat} {made : Nat} {sv : Nat} {svm : Nat} {comb : Nat → Nat} {hm : Nat → MV} {sc : Nat → Nat} {sm : Nat → MV} {mh : MV} {noted : Nat} {verd : Nat} {ins : Nat → Nat} {ver : Nat → Nat} {sz : Nat} {bw : Nat → Nat} {x : Nat} {s4 s7 s10 t7 i : Nat}  (hG : zG φ 0 tp lf mi made sv svm comb hm sc sm mh noted verd ins ver sz bw) (hn0 : 486 ≤ n) (hpv : ∀ i, x_pv2 (hm i)) (hmi : mi + 300 ≤ 20000) (hx32 : x < 4294967296) (hf0 : x >>> 4 = s4) (hf1 : s4 &&& 7 = i) (hf2 : x >>> 7 = s7) (hf3 : s7 &&& 7 = 1) (hf4 : x &&& 15 = 8) (hf5 : x >>> 10 = s10) (hf6 : s10 &&& 7 = t7) (hi : i < 8) (ht7 : t7 ≠ 0 ∧ t7 < 8) (hisA : x_isA made comb i 0) : x_f x_P (d + 9) 4 [(6, 0, 0), (0, x, 0), (11, 0, 0), (11, 0, 0), (11, 0, 0)] φ n sl (x_bR n sl 1 7 (fun zw φ2 => ∃ tpZ : Nat → Nat, zw = (0, (hm (i * 40 + 1)).1, 0) ∧ zG φ2 0 tpZ lf mi made sv svm comb hm sc sm (hm (i * 40 + 1)) noted verd ins ver sz bw)) := by
  refine x_f_of rfl ?_
  have hG0 := hG
  obtain ⟨⟨hand, ie, hH, hhw⟩, hB, hTJ, hEJ, hN, hKJ, ⟨A, B, s9, hPS, hLK0⟩, hSP, hV5, ⟨slq, hSL⟩, hRW, hJ, hFJ, hWJ, ⟨ovn, ovh, hOV, hovn, hovh⟩⟩ := hG
  refine x_n_lt (fun hlt0 => ?_)
  have hmade := x_PS_lt hPS
  obtain ⟨co, ⟨top_, fr_, pc_, mm, st, lo, re, rs, fl, se, hKS⟩, hco⟩ := hKJ
  refine q_load (v := (0, x, 0)) (p2 := 1) rfl rfl rfl rfl ?_
  refine q_const (p2 := 2) rfl rfl ?_
  refine q_iushrz (z := s4) (p2 := 3) rfl (by omega) hf0 rfl ?_
  refine q_const (p2 := 4) rfl rfl ?_
  refine q_iandz (z := i) (p2 := 5) rfl hf1 (by omega) rfl ?_
  refine q_store (loc2 := [(6, 0, 0), (0, x, 0), (0, i, 0), (11, 0, 0), (11, 0, 0)]) (p2 := 6) rfl rfl rfl rfl rfl ?_
  refine q_load (v := (0, x, 0)) (p2 := 7) rfl rfl rfl rfl ?_
  refine q_const (p2 := 8) rfl rfl ?_
  refine q_iushrz (z := s7) (p2 := 9) rfl (by omega) hf2 rfl ?_
  refine q_const (p2 := 10) rfl rfl ?_
  refine q_iandz (z := 1) (p2 := 11) rfl hf3 (by omega) rfl ?_
  refine q_store (loc2 := [(6, 0, 0), (0, x, 0), (0, i, 0), (0, 1, 0), (11, 0, 0)]) (p2 := 12) rfl rfl rfl rfl rfl ?_
  refine q_const (p2 := 13) rfl rfl ?_
  refine q_store (loc2 := [(6, 0, 0), (0, x, 0), (0, i, 0), (0, 1, 0), (0, 1, 0)]) (p2 := 14) rfl rfl rfl rfl rfl ?_
  refine q_load (v := (0, x, 0)) (p2 := 15) rfl rfl rfl rfl ?_
  refine q_const (p2 := 16) rfl rfl ?_
  refine q_iandz (z := 8) (p2 := 17) rfl hf4 (by omega) rfl ?_
  refine q_switch (tgt := 123) rfl (by decide) rfl ?_
  refine q_load (v := (0, x, 0)) (p2 := 124) rfl rfl rfl rfl ?_
  refine q_const (p2 := 125) rfl rfl ?_
  refine q_iushrz (z := s10) (p2 := 126) rfl (by omega) hf5 rfl ?_
  refine q_const (p2 := 127) rfl rfl ?_
  refine q_iandz (z := t7) (p2 := 128) rfl hf6 (by omega) rfl ?_
  refine q_if0_s (p2 := 129) rfl (by decide) (by omega) rfl (fun _ => ?_) (fun hb => absurd (show ¬ (t7 = 0) by omega) hb)
  refine q_load (v := (6, 0, 0)) (p2 := 134) rfl rfl rfl rfl ?_
  refine q_load (v := (0, i, 0)) (p2 := 135) rfl rfl rfl rfl ?_
  refine q_load (v := (0, 1, 0)) (p2 := 136) rfl rfl rfl rfl ?_
  have hGz1 : zG φ 0 tp lf mi made sv svm comb hm sc sm mh noted verd ins ver sz bw := ⟨⟨_, _, hH, hhw⟩, hB, hTJ, hEJ, hN, ⟨_, ⟨_, _, _, _, _, _, _, _, _, _, hKS⟩, hco⟩, ⟨_, _, _, hPS, hLK0⟩, hSP, hV5, ⟨_, hSL⟩, hRW, hJ, hFJ, hWJ, ⟨_, _, hOV, hovn, hovh⟩⟩
  refine q_callrB (xs := [(0, 1, 0), (0, i, 0), (6, 0, 0)]) (p2 := 137) rfl rfl rfl rfl (x_rcv_s 0 hH) rfl (zc_get1 (x := i) hGz1 (by omega) hpv (by omega) (by omega) hisA) rfl (fun w1 φ1 n1 sl1 hn1 hN1 hs1 hT1 hR1 => ?_)
  obtain ⟨hwz1, hGr1⟩ := hR1
  subst hwz1
  have hG := hGr1
  skip
  obtain ⟨⟨hand, ie, hH, hhw⟩, hB, hTJ, hEJ, hN, hKJ, ⟨A, B, s9, hPS, hLK0⟩, hSP, hV5, ⟨slq, hSL⟩, hRW, hJ, hFJ, hWJ, ⟨ovn, ovh, hOV, hovn, hovh⟩⟩ := hG
  refine x_n_lt (fun hlt0 => ?_)
  have hmade := x_PS_lt hPS
  obtain ⟨co, ⟨top_, fr_, pc_, mm, st, lo, re, rs, fl, se, hKS⟩, hco⟩ := hKJ
  exact q_retv (v := (0, (hm (i * 40 + 1)).1, 0)) rfl rfl (⟨rfl, ⟨by omega, by omega⟩, ⟨by omega, by omega⟩, _, rfl, ⟨⟨_, _, hH, hhw⟩, hB, hTJ, hEJ, hN, ⟨_, ⟨_, _, _, _, _, _, _, _, _, _, hKS⟩, hco⟩, ⟨_, _, _, hPS, hLK0⟩, hSP, hV5, ⟨_, hSL⟩, hRW, hJ, hFJ, hWJ, ⟨_, _, hOV, hovn, hovh⟩⟩⟩)
set_option maxHeartbeats 1000000 in
theorem zc_call_8_get2_bad {d n sl : Nat} {φ : FH} {tp : Nat → Nat} {lf : Nat} {mi : Nat} {made : Nat} {sv : Nat} {svm : Nat} {comb : Nat → Nat} {hm : Nat → MV} {sc : Nat → Nat} {sm : Nat → MV} {mh : MV} {noted : Nat} {verd : Nat} {ins : Nat → Nat} {ver : Nat → Nat} {sz : Nat} {bw : Nat → Nat} {x : Nat} {s4 s7 s10 t7 i : Nat}  (hG : zG φ 0 tp lf mi made sv svm comb hm sc sm mh noted verd ins ver sz bw) (hn0 : 486 ≤ n) (hpv : ∀ i, x_pv2 (hm i)) (hmi : mi + 300 ≤ 20000) (hx32 : x < 4294967296) (hf0 : x >>> 4 = s4) (hf1 : s4 &&& 7 = i) (hf2 : x >>> 7 = s7) (hf3 : s7 &&& 7 = 2) (hf4 : x &&& 15 = 8) (hf5 : x >>> 10 = s10) (hf6 : s10 &&& 7 = t7) (hi : i < 8) (ht7 : t7 ≠ 0 ∧ t7 < 8) (hna : ¬ x_isA made comb i 0) : x_f x_P (d + 5) 4 [(6, 0, 0), (0, x, 0), (11, 0, 0), (11, 0, 0), (11, 0, 0)] φ n sl (x_bR n sl 0 0 (fun zw φ2 => ∃ tpZ : Nat → Nat, zw = (0, 4294967295, 0) ∧ zG φ2 0 tpZ lf mi made sv svm comb hm sc sm mh noted verd ins ver sz bw)) := by
  refine x_f_of rfl ?_
  have hG0 := hG
  obtain ⟨⟨hand, ie, hH, hhw⟩, hB, hTJ, hEJ, hN, hKJ, ⟨A, B, s9, hPS, hLK0⟩, hSP, hV5, ⟨slq, hSL⟩, hRW, hJ, hFJ, hWJ, ⟨ovn, ovh, hOV, hovn, hovh⟩⟩ := hG
  refine x_n_lt (fun hlt0 => ?_)
  have hmade := x_PS_lt hPS
  obtain ⟨co, ⟨top_, fr_, pc_, mm, st, lo, re, rs, fl, se, hKS⟩, hco⟩ := hKJ
  refine q_load (v := (0, x, 0)) (p2 := 1) rfl rfl rfl rfl ?_
  refine q_const (p2 := 2) rfl rfl ?_
  refine q_iushrz (z := s4) (p2 := 3) rfl (by omega) hf0 rfl ?_
  refine q_const (p2 := 4) rfl rfl ?_
  refine q_iandz (z := i) (p2 := 5) rfl hf1 (by omega) rfl ?_
  refine q_store (loc2 := [(6, 0, 0), (0, x, 0), (0, i, 0), (11, 0, 0), (11, 0, 0)]) (p2 := 6) rfl rfl rfl rfl rfl ?_
  refine q_load (v := (0, x, 0)) (p2 := 7) rfl rfl rfl rfl ?_
  refine q_const (p2 := 8) rfl rfl ?_
  refine q_iushrz (z := s7) (p2 := 9) rfl (by omega) hf2 rfl ?_
  refine q_const (p2 := 10) rfl rfl ?_
  refine q_iandz (z := 2) (p2 := 11) rfl hf3 (by omega) rfl ?_
  refine q_store (loc2 := [(6, 0, 0), (0, x, 0), (0, i, 0), (0, 2, 0), (11, 0, 0)]) (p2 := 12) rfl rfl rfl rfl rfl ?_
  refine q_const (p2 := 13) rfl rfl ?_
  refine q_store (loc2 := [(6, 0, 0), (0, x, 0), (0, i, 0), (0, 2, 0), (0, 1, 0)]) (p2 := 14) rfl rfl rfl rfl rfl ?_
  refine q_load (v := (0, x, 0)) (p2 := 15) rfl rfl rfl rfl ?_
  refine q_const (p2 := 16) rfl rfl ?_
  refine q_iandz (z := 8) (p2 := 17) rfl hf4 (by omega) rfl ?_
  refine q_switch (tgt := 123) rfl (by decide) rfl ?_
  refine q_load (v := (0, x, 0)) (p2 := 124) rfl rfl rfl rfl ?_
  refine q_const (p2 := 125) rfl rfl ?_
  refine q_iushrz (z := s10) (p2 := 126) rfl (by omega) hf5 rfl ?_
  refine q_const (p2 := 127) rfl rfl ?_
  refine q_iandz (z := t7) (p2 := 128) rfl hf6 (by omega) rfl ?_
  refine q_if0_s (p2 := 129) rfl (by decide) (by omega) rfl (fun _ => ?_) (fun hb => absurd (show ¬ (t7 = 0) by omega) hb)
  refine q_load (v := (6, 0, 0)) (p2 := 134) rfl rfl rfl rfl ?_
  refine q_load (v := (0, i, 0)) (p2 := 135) rfl rfl rfl rfl ?_
  refine q_load (v := (0, 2, 0)) (p2 := 136) rfl rfl rfl rfl ?_
  have hGz1 : zG φ 0 tp lf mi made sv svm comb hm sc sm mh noted verd ins ver sz bw := ⟨⟨_, _, hH, hhw⟩, hB, hTJ, hEJ, hN, ⟨_, ⟨_, _, _, _, _, _, _, _, _, _, hKS⟩, hco⟩, ⟨_, _, _, hPS, hLK0⟩, hSP, hV5, ⟨_, hSL⟩, hRW, hJ, hFJ, hWJ, ⟨_, _, hOV, hovn, hovh⟩⟩
  refine q_callrB (xs := [(0, 2, 0), (0, i, 0), (6, 0, 0)]) (p2 := 137) rfl rfl rfl rfl (x_rcv_s 0 hH) rfl (zc_get2_bad (x := i) hGz1 (by omega) hpv (by omega) (by omega) hna) rfl (fun w1 φ1 n1 sl1 hn1 hN1 hs1 hT1 hR1 => ?_)
  obtain ⟨hwz1, hGr1⟩ := hR1
  subst hwz1
  have hG := hGr1
  skip
  obtain ⟨⟨hand, ie, hH, hhw⟩, hB, hTJ, hEJ, hN, hKJ, ⟨A, B, s9, hPS, hLK0⟩, hSP, hV5, ⟨slq, hSL⟩, hRW, hJ, hFJ, hWJ, ⟨ovn, ovh, hOV, hovn, hovh⟩⟩ := hG
  refine x_n_lt (fun hlt0 => ?_)
  have hmade := x_PS_lt hPS
  obtain ⟨co, ⟨top_, fr_, pc_, mm, st, lo, re, rs, fl, se, hKS⟩, hco⟩ := hKJ
  exact q_retv (v := (0, 4294967295, 0)) rfl rfl (⟨rfl, ⟨by omega, by omega⟩, ⟨by omega, by omega⟩, _, rfl, ⟨⟨_, _, hH, hhw⟩, hB, hTJ, hEJ, hN, ⟨_, ⟨_, _, _, _, _, _, _, _, _, _, hKS⟩, hco⟩, ⟨_, _, _, hPS, hLK0⟩, hSP, hV5, ⟨_, hSL⟩, hRW, hJ, hFJ, hWJ, ⟨_, _, hOV, hovn, hovh⟩⟩⟩)
set_option maxHeartbeats 1000000 in
theorem zc_call_8_get2_0 {d n sl : Nat} {φ : FH} {tp : Nat → Nat} {lf : Nat} {mi : Nat} {made : Nat} {sv : Nat} {svm : Nat} {comb : Nat → Nat} {hm : Nat → MV} {sc : Nat → Nat} {sm : Nat → MV} {mh : MV} {noted : Nat} {verd : Nat} {ins : Nat → Nat} {ver : Nat → Nat} {sz : Nat} {bw : Nat → Nat} {x : Nat} {s4 s7 s10 t7 i : Nat}  (hG : zG φ 0 tp lf mi made sv svm comb hm sc sm mh noted verd ins ver sz bw) (hn0 : 486 ≤ n) (hpv : ∀ i, x_pv2 (hm i)) (hmi : mi + 300 ≤ 20000) (hx32 : x < 4294967296) (hf0 : x >>> 4 = s4) (hf1 : s4 &&& 7 = i) (hf2 : x >>> 7 = s7) (hf3 : s7 &&& 7 = 2) (hf4 : x &&& 15 = 8) (hf5 : x >>> 10 = s10) (hf6 : s10 &&& 7 = t7) (hi : i < 8) (ht7 : t7 ≠ 0 ∧ t7 < 8) (hisA : x_isA made comb i 0) (hk : hm (i * 40 + 0) = MV0) : x_f x_P (d + 9) 4 [(6, 0, 0), (0, x, 0), (11, 0, 0), (11, 0, 0), (11, 0, 0)] φ n sl (x_bR n sl 3 21 (fun zw φ2 => ∃ tpZ : Nat → Nat, zw = (0, 0, 0) ∧ zG φ2 0 tpZ lf (mi + 3) made sv svm comb hm sc sm MV0 noted verd ins ver sz bw)) := by
  refine x_f_of rfl ?_
  have hG0 := hG
  obtain ⟨⟨hand, ie, hH, hhw⟩, hB, hTJ, hEJ, hN, hKJ, ⟨A, B, s9, hPS, hLK0⟩, hSP, hV5, ⟨slq, hSL⟩, hRW, hJ, hFJ, hWJ, ⟨ovn, ovh, hOV, hovn, hovh⟩⟩ := hG
  refine x_n_lt (fun hlt0 => ?_)
  have hmade := x_PS_lt hPS
  obtain ⟨co, ⟨top_, fr_, pc_, mm, st, lo, re, rs, fl, se, hKS⟩, hco⟩ := hKJ
  refine q_load (v := (0, x, 0)) (p2 := 1) rfl rfl rfl rfl ?_
  refine q_const (p2 := 2) rfl rfl ?_
  refine q_iushrz (z := s4) (p2 := 3) rfl (by omega) hf0 rfl ?_
  refine q_const (p2 := 4) rfl rfl ?_
  refine q_iandz (z := i) (p2 := 5) rfl hf1 (by omega) rfl ?_
  refine q_store (loc2 := [(6, 0, 0), (0, x, 0), (0, i, 0), (11, 0, 0), (11, 0, 0)]) (p2 := 6) rfl rfl rfl rfl rfl ?_
  refine q_load (v := (0, x, 0)) (p2 := 7) rfl rfl rfl rfl ?_
  refine q_const (p2 := 8) rfl rfl ?_
  refine q_iushrz (z := s7) (p2 := 9) rfl (by omega) hf2 rfl ?_
  refine q_const (p2 := 10) rfl rfl ?_
  refine q_iandz (z := 2) (p2 := 11) rfl hf3 (by omega) rfl ?_
  refine q_store (loc2 := [(6, 0, 0), (0, x, 0), (0, i, 0), (0, 2, 0), (11, 0, 0)]) (p2 := 12) rfl rfl rfl rfl rfl ?_
  refine q_const (p2 := 13) rfl rfl ?_
  refine q_store (loc2 := [(6, 0, 0), (0, x, 0), (0, i, 0), (0, 2, 0), (0, 1, 0)]) (p2 := 14) rfl rfl rfl rfl rfl ?_
  refine q_load (v := (0, x, 0)) (p2 := 15) rfl rfl rfl rfl ?_
  refine q_const (p2 := 16) rfl rfl ?_
  refine q_iandz (z := 8) (p2 := 17) rfl hf4 (by omega) rfl ?_
  refine q_switch (tgt := 123) rfl (by decide) rfl ?_
  refine q_load (v := (0, x, 0)) (p2 := 124) rfl rfl rfl rfl ?_
  refine q_const (p2 := 125) rfl rfl ?_
  refine q_iushrz (z := s10) (p2 := 126) rfl (by omega) hf5 rfl ?_
  refine q_const (p2 := 127) rfl rfl ?_
  refine q_iandz (z := t7) (p2 := 128) rfl hf6 (by omega) rfl ?_
  refine q_if0_s (p2 := 129) rfl (by decide) (by omega) rfl (fun _ => ?_) (fun hb => absurd (show ¬ (t7 = 0) by omega) hb)
  refine q_load (v := (6, 0, 0)) (p2 := 134) rfl rfl rfl rfl ?_
  refine q_load (v := (0, i, 0)) (p2 := 135) rfl rfl rfl rfl ?_
  refine q_load (v := (0, 2, 0)) (p2 := 136) rfl rfl rfl rfl ?_
  have hGz1 : zG φ 0 tp lf mi made sv svm comb hm sc sm mh noted verd ins ver sz bw := ⟨⟨_, _, hH, hhw⟩, hB, hTJ, hEJ, hN, ⟨_, ⟨_, _, _, _, _, _, _, _, _, _, hKS⟩, hco⟩, ⟨_, _, _, hPS, hLK0⟩, hSP, hV5, ⟨_, hSL⟩, hRW, hJ, hFJ, hWJ, ⟨_, _, hOV, hovn, hovh⟩⟩
  refine q_callrB (xs := [(0, 2, 0), (0, i, 0), (6, 0, 0)]) (p2 := 137) rfl rfl rfl rfl (x_rcv_s 0 hH) rfl (zc_get2_0 (x := i) hGz1 (by omega) hpv (by omega) (by omega) hisA hk) rfl (fun w1 φ1 n1 sl1 hn1 hN1 hs1 hT1 hR1 => ?_)
  obtain ⟨hwz1, hGr1⟩ := hR1
  subst hwz1
  have hG := hGr1
  skip
  obtain ⟨⟨hand, ie, hH, hhw⟩, hB, hTJ, hEJ, hN, hKJ, ⟨A, B, s9, hPS, hLK0⟩, hSP, hV5, ⟨slq, hSL⟩, hRW, hJ, hFJ, hWJ, ⟨ovn, ovh, hOV, hovn, hovh⟩⟩ := hG
  refine x_n_lt (fun hlt0 => ?_)
  have hmade := x_PS_lt hPS
  obtain ⟨co, ⟨top_, fr_, pc_, mm, st, lo, re, rs, fl, se, hKS⟩, hco⟩ := hKJ
  exact q_retv (v := (0, 0, 0)) rfl rfl (⟨rfl, ⟨by omega, by omega⟩, ⟨by omega, by omega⟩, _, rfl, ⟨⟨_, _, hH, hhw⟩, hB, hTJ, hEJ, hN, ⟨_, ⟨_, _, _, _, _, _, _, _, _, _, hKS⟩, hco⟩, ⟨_, _, _, hPS, hLK0⟩, hSP, hV5, ⟨_, hSL⟩, hRW, hJ, hFJ, hWJ, ⟨_, _, hOV, hovn, hovh⟩⟩⟩)
set_option maxHeartbeats 1000000 in
theorem zc_call_8_get2_1 {d n sl : Nat} {φ : FH} {tp : Nat → Nat} {lf : Nat} {mi : Nat} {made : Nat} {sv : Nat} {svm : Nat} {comb : Nat → Nat} {hm : Nat → MV} {sc : Nat → Nat} {sm : Nat → MV} {mh : MV} {noted : Nat} {verd : Nat} {ins : Nat → Nat} {ver : Nat → Nat} {sz : Nat} {bw : Nat → Nat} {x : Nat} {s4 s7 s10 t7 i : Nat} {kk : Nat} (hG : zG φ 0 tp lf mi made sv svm comb hm sc sm mh noted verd ins ver sz bw) (hn0 : 486 ≤ n) (hpv : ∀ i, x_pv2 (hm i)) (hmi : mi + 300 ≤ 20000) (hx32 : x < 4294967296) (hf0 : x >>> 4 = s4) (hf1 : s4 &&& 7 = i) (hf2 : x >>> 7 = s7) (hf3 : s7 &&& 7 = 2) (hf4 : x &&& 15 = 8) (hf5 : x >>> 10 = s10) (hf6 : s10 &&& 7 = t7) (hi : i < 8) (ht7 : t7 ≠ 0 ∧ t7 < 8) (hisA : x_isA made comb i 0) (hk : hm (i * 40 + 0) = (1, kk, 0, 0, [])) (hkk : kk < 1024) : x_f x_P (d + 9) 4 [(6, 0, 0), (0, x, 0), (11, 0, 0), (11, 0, 0), (11, 0, 0)] φ n sl (x_bR n sl 3 21 (fun zw φ2 => ∃ tpZ : Nat → Nat, zw = (0, 1, 0) ∧ zG φ2 0 tpZ lf (mi + 3) made sv svm comb hm sc sm (1, kk * 2, 0, 0, []) noted verd ins ver sz bw)) := by
  refine x_f_of rfl ?_
  have hG0 := hG
  obtain ⟨⟨hand, ie, hH, hhw⟩, hB, hTJ, hEJ, hN, hKJ, ⟨A, B, s9, hPS, hLK0⟩, hSP, hV5, ⟨slq, hSL⟩, hRW, hJ, hFJ, hWJ, ⟨ovn, ovh, hOV, hovn, hovh⟩⟩ := hG
  refine x_n_lt (fun hlt0 => ?_)
  have hmade := x_PS_lt hPS
  obtain ⟨co, ⟨top_, fr_, pc_, mm, st, lo, re, rs, fl, se, hKS⟩, hco⟩ := hKJ
  refine q_load (v := (0, x, 0)) (p2 := 1) rfl rfl rfl rfl ?_
  refine q_const (p2 := 2) rfl rfl ?_
  refine q_iushrz (z := s4) (p2 := 3) rfl (by omega) hf0 rfl ?_
  refine q_const (p2 := 4) rfl rfl ?_
  refine q_iandz (z := i) (p2 := 5) rfl hf1 (by omega) rfl ?_
  refine q_store (loc2 := [(6, 0, 0), (0, x, 0), (0, i, 0), (11, 0, 0), (11, 0, 0)]) (p2 := 6) rfl rfl rfl rfl rfl ?_
  refine q_load (v := (0, x, 0)) (p2 := 7) rfl rfl rfl rfl ?_
  refine q_const (p2 := 8) rfl rfl ?_
  refine q_iushrz (z := s7) (p2 := 9) rfl (by omega) hf2 rfl ?_
  refine q_const (p2 := 10) rfl rfl ?_
  refine q_iandz (z := 2) (p2 := 11) rfl hf3 (by omega) rfl ?_
  refine q_store (loc2 := [(6, 0, 0), (0, x, 0), (0, i, 0), (0, 2, 0), (11, 0, 0)]) (p2 := 12) rfl rfl rfl rfl rfl ?_
  refine q_const (p2 := 13) rfl rfl ?_
  refine q_store (loc2 := [(6, 0, 0), (0, x, 0), (0, i, 0), (0, 2, 0), (0, 1, 0)]) (p2 := 14) rfl rfl rfl rfl rfl ?_
  refine q_load (v := (0, x, 0)) (p2 := 15) rfl rfl rfl rfl ?_
  refine q_const (p2 := 16) rfl rfl ?_
  refine q_iandz (z := 8) (p2 := 17) rfl hf4 (by omega) rfl ?_
  refine q_switch (tgt := 123) rfl (by decide) rfl ?_
  refine q_load (v := (0, x, 0)) (p2 := 124) rfl rfl rfl rfl ?_
  refine q_const (p2 := 125) rfl rfl ?_
  refine q_iushrz (z := s10) (p2 := 126) rfl (by omega) hf5 rfl ?_
  refine q_const (p2 := 127) rfl rfl ?_
  refine q_iandz (z := t7) (p2 := 128) rfl hf6 (by omega) rfl ?_
  refine q_if0_s (p2 := 129) rfl (by decide) (by omega) rfl (fun _ => ?_) (fun hb => absurd (show ¬ (t7 = 0) by omega) hb)
  refine q_load (v := (6, 0, 0)) (p2 := 134) rfl rfl rfl rfl ?_
  refine q_load (v := (0, i, 0)) (p2 := 135) rfl rfl rfl rfl ?_
  refine q_load (v := (0, 2, 0)) (p2 := 136) rfl rfl rfl rfl ?_
  have hGz1 : zG φ 0 tp lf mi made sv svm comb hm sc sm mh noted verd ins ver sz bw := ⟨⟨_, _, hH, hhw⟩, hB, hTJ, hEJ, hN, ⟨_, ⟨_, _, _, _, _, _, _, _, _, _, hKS⟩, hco⟩, ⟨_, _, _, hPS, hLK0⟩, hSP, hV5, ⟨_, hSL⟩, hRW, hJ, hFJ, hWJ, ⟨_, _, hOV, hovn, hovh⟩⟩
  refine q_callrB (xs := [(0, 2, 0), (0, i, 0), (6, 0, 0)]) (p2 := 137) rfl rfl rfl rfl (x_rcv_s 0 hH) rfl (zc_get2_1 (x := i) (kk := kk) hGz1 (by omega) hpv (by omega) (by omega) hisA hk (by omega)) rfl (fun w1 φ1 n1 sl1 hn1 hN1 hs1 hT1 hR1 => ?_)
  obtain ⟨hwz1, hGr1⟩ := hR1
  subst hwz1
  have hG := hGr1
  skip
  obtain ⟨⟨hand, ie, hH, hhw⟩, hB, hTJ, hEJ, hN, hKJ, ⟨A, B, s9, hPS, hLK0⟩, hSP, hV5, ⟨slq, hSL⟩, hRW, hJ, hFJ, hWJ, ⟨ovn, ovh, hOV, hovn, hovh⟩⟩ := hG
  refine x_n_lt (fun hlt0 => ?_)
  have hmade := x_PS_lt hPS
  obtain ⟨co, ⟨top_, fr_, pc_, mm, st, lo, re, rs, fl, se, hKS⟩, hco⟩ := hKJ
  exact q_retv (v := (0, 1, 0)) rfl rfl (⟨rfl, ⟨by omega, by omega⟩, ⟨by omega, by omega⟩, _, rfl, ⟨⟨_, _, hH, hhw⟩, hB, hTJ, hEJ, hN, ⟨_, ⟨_, _, _, _, _, _, _, _, _, _, hKS⟩, hco⟩, ⟨_, _, _, hPS, hLK0⟩, hSP, hV5, ⟨_, hSL⟩, hRW, hJ, hFJ, hWJ, ⟨_, _, hOV, hovn, hovh⟩⟩⟩)
set_option maxHeartbeats 1000000 in
theorem zc_call_8_get3_bad {d n sl : Nat} {φ : FH} {tp : Nat → Nat} {lf : Nat} {mi : Nat} {made : Nat} {sv : Nat} {svm : Nat} {comb : Nat → Nat} {hm : Nat → MV} {sc : Nat → Nat} {sm : Nat → MV} {mh : MV} {noted : Nat} {verd : Nat} {ins : Nat → Nat} {ver : Nat → Nat} {sz : Nat} {bw : Nat → Nat} {x : Nat} {s4 s7 s10 t7 i : Nat}  (hG : zG φ 0 tp lf mi made sv svm comb hm sc sm mh noted verd ins ver sz bw) (hn0 : 486 ≤ n) (hpv : ∀ i, x_pv2 (hm i)) (hmi : mi + 300 ≤ 20000) (hx32 : x < 4294967296) (hf0 : x >>> 4 = s4) (hf1 : s4 &&& 7 = i) (hf2 : x >>> 7 = s7) (hf3 : s7 &&& 7 = 3) (hf4 : x &&& 15 = 8) (hf5 : x >>> 10 = s10) (hf6 : s10 &&& 7 = t7) (hi : i < 8) (ht7 : t7 ≠ 0 ∧ t7 < 8) (hna : ¬ x_isA made comb i 1) : x_f x_P (d + 5) 4 [(6, 0, 0), (0, x, 0), (11, 0, 0), (11, 0, 0), (11, 0, 0)] φ n sl (x_bR n sl 0 0 (fun zw φ2 => ∃ tpZ : Nat → Nat, zw = (0, 4294967295, 0) ∧ zG φ2 0 tpZ lf mi made sv svm comb hm sc sm mh noted verd ins ver sz bw)) := by
  refine x_f_of rfl ?_
  have hG0 := hG
  obtain ⟨⟨hand, ie, hH, hhw⟩, hB, hTJ, hEJ, hN, hKJ, ⟨A, B, s9, hPS, hLK0⟩, hSP, hV5, ⟨slq, hSL⟩, hRW, hJ, hFJ, hWJ, ⟨ovn, ovh, hOV, hovn, hovh⟩⟩ := hG
  refine x_n_lt (fun hlt0 => ?_)
  have hmade := x_PS_lt hPS
  obtain ⟨co, ⟨top_, fr_, pc_, mm, st, lo, re, rs, fl, se, hKS⟩, hco⟩ := hKJ
  refine q_load (v := (0, x, 0)) (p2 := 1) rfl rfl rfl rfl ?_
  refine q_const (p2 := 2) rfl rfl ?_
  refine q_iushrz (z := s4) (p2 := 3) rfl (by omega) hf0 rfl ?_
  refine q_const (p2 := 4) rfl rfl ?_
  refine q_iandz (z := i) (p2 := 5) rfl hf1 (by omega) rfl ?_
  refine q_store (loc2 := [(6, 0, 0), (0, x, 0), (0, i, 0), (11, 0, 0), (11, 0, 0)]) (p2 := 6) rfl rfl rfl rfl rfl ?_
  refine q_load (v := (0, x, 0)) (p2 := 7) rfl rfl rfl rfl ?_
  refine q_const (p2 := 8) rfl rfl ?_
  refine q_iushrz (z := s7) (p2 := 9) rfl (by omega) hf2 rfl ?_
  refine q_const (p2 := 10) rfl rfl ?_
  refine q_iandz (z := 3) (p2 := 11) rfl hf3 (by omega) rfl ?_
  refine q_store (loc2 := [(6, 0, 0), (0, x, 0), (0, i, 0), (0, 3, 0), (11, 0, 0)]) (p2 := 12) rfl rfl rfl rfl rfl ?_
  refine q_const (p2 := 13) rfl rfl ?_
  refine q_store (loc2 := [(6, 0, 0), (0, x, 0), (0, i, 0), (0, 3, 0), (0, 1, 0)]) (p2 := 14) rfl rfl rfl rfl rfl ?_
  refine q_load (v := (0, x, 0)) (p2 := 15) rfl rfl rfl rfl ?_
  refine q_const (p2 := 16) rfl rfl ?_
  refine q_iandz (z := 8) (p2 := 17) rfl hf4 (by omega) rfl ?_
  refine q_switch (tgt := 123) rfl (by decide) rfl ?_
  refine q_load (v := (0, x, 0)) (p2 := 124) rfl rfl rfl rfl ?_
  refine q_const (p2 := 125) rfl rfl ?_
  refine q_iushrz (z := s10) (p2 := 126) rfl (by omega) hf5 rfl ?_
  refine q_const (p2 := 127) rfl rfl ?_
  refine q_iandz (z := t7) (p2 := 128) rfl hf6 (by omega) rfl ?_
  refine q_if0_s (p2 := 129) rfl (by decide) (by omega) rfl (fun _ => ?_) (fun hb => absurd (show ¬ (t7 = 0) by omega) hb)
  refine q_load (v := (6, 0, 0)) (p2 := 134) rfl rfl rfl rfl ?_
  refine q_load (v := (0, i, 0)) (p2 := 135) rfl rfl rfl rfl ?_
  refine q_load (v := (0, 3, 0)) (p2 := 136) rfl rfl rfl rfl ?_
  have hGz1 : zG φ 0 tp lf mi made sv svm comb hm sc sm mh noted verd ins ver sz bw := ⟨⟨_, _, hH, hhw⟩, hB, hTJ, hEJ, hN, ⟨_, ⟨_, _, _, _, _, _, _, _, _, _, hKS⟩, hco⟩, ⟨_, _, _, hPS, hLK0⟩, hSP, hV5, ⟨_, hSL⟩, hRW, hJ, hFJ, hWJ, ⟨_, _, hOV, hovn, hovh⟩⟩
  refine q_callrB (xs := [(0, 3, 0), (0, i, 0), (6, 0, 0)]) (p2 := 137) rfl rfl rfl rfl (x_rcv_s 0 hH) rfl (zc_get3_bad (x := i) hGz1 (by omega) hpv (by omega) (by omega) hna) rfl (fun w1 φ1 n1 sl1 hn1 hN1 hs1 hT1 hR1 => ?_)
  obtain ⟨hwz1, hGr1⟩ := hR1
  subst hwz1
  have hG := hGr1
  skip
  obtain ⟨⟨hand, ie, hH, hhw⟩, hB, hTJ, hEJ, hN, hKJ, ⟨A, B, s9, hPS, hLK0⟩, hSP, hV5, ⟨slq, hSL⟩, hRW, hJ, hFJ, hWJ, ⟨ovn, ovh, hOV, hovn, hovh⟩⟩ := hG
  refine x_n_lt (fun hlt0 => ?_)
  have hmade := x_PS_lt hPS
  obtain ⟨co, ⟨top_, fr_, pc_, mm, st, lo, re, rs, fl, se, hKS⟩, hco⟩ := hKJ
  exact q_retv (v := (0, 4294967295, 0)) rfl rfl (⟨rfl, ⟨by omega, by omega⟩, ⟨by omega, by omega⟩, _, rfl, ⟨⟨_, _, hH, hhw⟩, hB, hTJ, hEJ, hN, ⟨_, ⟨_, _, _, _, _, _, _, _, _, _, hKS⟩, hco⟩, ⟨_, _, _, hPS, hLK0⟩, hSP, hV5, ⟨_, hSL⟩, hRW, hJ, hFJ, hWJ, ⟨_, _, hOV, hovn, hovh⟩⟩⟩)
set_option maxHeartbeats 1000000 in
theorem zc_call_8_get3 {d n sl : Nat} {φ : FH} {tp : Nat → Nat} {lf : Nat} {mi : Nat} {made : Nat} {sv : Nat} {svm : Nat} {comb : Nat → Nat} {hm : Nat → MV} {sc : Nat → Nat} {sm : Nat → MV} {mh : MV} {noted : Nat} {verd : Nat} {ins : Nat → Nat} {ver : Nat → Nat} {sz : Nat} {bw : Nat → Nat} {x : Nat} {s4 s7 s10 t7 i : Nat}  (hG : zG φ 0 tp lf mi made sv svm comb hm sc sm mh noted verd ins ver sz bw) (hn0 : 486 ≤ n) (hpv : ∀ i, x_pv2 (hm i)) (hmi : mi + 300 ≤ 20000) (hx32 : x < 4294967296) (hf0 : x >>> 4 = s4) (hf1 : s4 &&& 7 = i) (hf2 : x >>> 7 = s7) (hf3 : s7 &&& 7 = 3) (hf4 : x &&& 15 = 8) (hf5 : x >>> 10 = s10) (hf6 : s10 &&& 7 = t7) (hi : i < 8) (ht7 : t7 ≠ 0 ∧ t7 < 8) (hisA : x_isA made comb i 1) : x_f x_P (d + 9) 4 [(6, 0, 0), (0, x, 0), (11, 0, 0), (11, 0, 0), (11, 0, 0)] φ n sl (x_bR n sl 1 7 (fun zw φ2 => ∃ tpZ : Nat → Nat, zw = (0, (hm (i * 40 + 3)).1, 0) ∧ zG φ2 0 tpZ lf mi made sv svm comb hm sc sm (hm (i * 40 + 3)) noted verd ins ver sz bw)) := by
  refine x_f_of rfl ?_
  have hG0 := hG
  obtain ⟨⟨hand, ie, hH, hhw⟩, hB, hTJ, hEJ, hN, hKJ, ⟨A, B, s9, hPS, hLK0⟩, hSP, hV5, ⟨slq, hSL⟩, hRW, hJ, hFJ, hWJ, ⟨ovn, ovh, hOV, hovn, hovh⟩⟩ := hG
  refine x_n_lt (fun hlt0 => ?_)
  have hmade := x_PS_lt hPS
  obtain ⟨co, ⟨top_, fr_, pc_, mm, st, lo, re, rs, fl, se, hKS⟩, hco⟩ := hKJ
  refine q_load (v := (0, x, 0)) (p2 := 1) rfl rfl rfl rfl ?_
  refine q_const (p2 := 2) rfl rfl ?_
  refine q_iushrz (z := s4) (p2 := 3) rfl (by omega) hf0 rfl ?_
  refine q_const (p2 := 4) rfl rfl ?_
  refine q_iandz (z := i) (p2 := 5) rfl hf1 (by omega) rfl ?_
  refine q_store (loc2 := [(6, 0, 0), (0, x, 0), (0, i, 0), (11, 0, 0), (11, 0, 0)]) (p2 := 6) rfl rfl rfl rfl rfl ?_
  refine q_load (v := (0, x, 0)) (p2 := 7) rfl rfl rfl rfl ?_
  refine q_const (p2 := 8) rfl rfl ?_
  refine q_iushrz (z := s7) (p2 := 9) rfl (by omega) hf2 rfl ?_
  refine q_const (p2 := 10) rfl rfl ?_
  refine q_iandz (z := 3) (p2 := 11) rfl hf3 (by omega) rfl ?_
  refine q_store (loc2 := [(6, 0, 0), (0, x, 0), (0, i, 0), (0, 3, 0), (11, 0, 0)]) (p2 := 12) rfl rfl rfl rfl rfl ?_
  refine q_const (p2 := 13) rfl rfl ?_
  refine q_store (loc2 := [(6, 0, 0), (0, x, 0), (0, i, 0), (0, 3, 0), (0, 1, 0)]) (p2 := 14) rfl rfl rfl rfl rfl ?_
  refine q_load (v := (0, x, 0)) (p2 := 15) rfl rfl rfl rfl ?_
  refine q_const (p2 := 16) rfl rfl ?_
  refine q_iandz (z := 8) (p2 := 17) rfl hf4 (by omega) rfl ?_
  refine q_switch (tgt := 123) rfl (by decide) rfl ?_
  refine q_load (v := (0, x, 0)) (p2 := 124) rfl rfl rfl rfl ?_
  refine q_const (p2 := 125) rfl rfl ?_
  refine q_iushrz (z := s10) (p2 := 126) rfl (by omega) hf5 rfl ?_
  refine q_const (p2 := 127) rfl rfl ?_
  refine q_iandz (z := t7) (p2 := 128) rfl hf6 (by omega) rfl ?_
  refine q_if0_s (p2 := 129) rfl (by decide) (by omega) rfl (fun _ => ?_) (fun hb => absurd (show ¬ (t7 = 0) by omega) hb)
  refine q_load (v := (6, 0, 0)) (p2 := 134) rfl rfl rfl rfl ?_
  refine q_load (v := (0, i, 0)) (p2 := 135) rfl rfl rfl rfl ?_
  refine q_load (v := (0, 3, 0)) (p2 := 136) rfl rfl rfl rfl ?_
  have hGz1 : zG φ 0 tp lf mi made sv svm comb hm sc sm mh noted verd ins ver sz bw := ⟨⟨_, _, hH, hhw⟩, hB, hTJ, hEJ, hN, ⟨_, ⟨_, _, _, _, _, _, _, _, _, _, hKS⟩, hco⟩, ⟨_, _, _, hPS, hLK0⟩, hSP, hV5, ⟨_, hSL⟩, hRW, hJ, hFJ, hWJ, ⟨_, _, hOV, hovn, hovh⟩⟩
  refine q_callrB (xs := [(0, 3, 0), (0, i, 0), (6, 0, 0)]) (p2 := 137) rfl rfl rfl rfl (x_rcv_s 0 hH) rfl (zc_get3 (x := i) hGz1 (by omega) hpv (by omega) (by omega) hisA) rfl (fun w1 φ1 n1 sl1 hn1 hN1 hs1 hT1 hR1 => ?_)
  obtain ⟨hwz1, hGr1⟩ := hR1
  subst hwz1
  have hG := hGr1
  skip
  obtain ⟨⟨hand, ie, hH, hhw⟩, hB, hTJ, hEJ, hN, hKJ, ⟨A, B, s9, hPS, hLK0⟩, hSP, hV5, ⟨slq, hSL⟩, hRW, hJ, hFJ, hWJ, ⟨ovn, ovh, hOV, hovn, hovh⟩⟩ := hG
  refine x_n_lt (fun hlt0 => ?_)
  have hmade := x_PS_lt hPS
  obtain ⟨co, ⟨top_, fr_, pc_, mm, st, lo, re, rs, fl, se, hKS⟩, hco⟩ := hKJ
  exact q_retv (v := (0, (hm (i * 40 + 3)).1, 0)) rfl rfl (⟨rfl, ⟨by omega, by omega⟩, ⟨by omega, by omega⟩, _, rfl, ⟨⟨_, _, hH, hhw⟩, hB, hTJ, hEJ, hN, ⟨_, ⟨_, _, _, _, _, _, _, _, _, _, hKS⟩, hco⟩, ⟨_, _, _, hPS, hLK0⟩, hSP, hV5, ⟨_, hSL⟩, hRW, hJ, hFJ, hWJ, ⟨_, _, hOV, hovn, hovh⟩⟩⟩)
set_option maxHeartbeats 1000000 in
theorem zc_call_8_get4_bad {d n sl : Nat} {φ : FH} {tp : Nat → Nat} {lf : Nat} {mi : Nat} {made : Nat} {sv : Nat} {svm : Nat} {comb : Nat → Nat} {hm : Nat → MV} {sc : Nat → Nat} {sm : Nat → MV} {mh : MV} {noted : Nat} {verd : Nat} {ins : Nat → Nat} {ver : Nat → Nat} {sz : Nat} {bw : Nat → Nat} {x : Nat} {s4 s7 s10 t7 i : Nat}  (hG : zG φ 0 tp lf mi made sv svm comb hm sc sm mh noted verd ins ver sz bw) (hn0 : 486 ≤ n) (hpv : ∀ i, x_pv2 (hm i)) (hmi : mi + 300 ≤ 20000) (hx32 : x < 4294967296) (hf0 : x >>> 4 = s4) (hf1 : s4 &&& 7 = i) (hf2 : x >>> 7 = s7) (hf3 : s7 &&& 7 = 4) (hf4 : x &&& 15 = 8) (hf5 : x >>> 10 = s10) (hf6 : s10 &&& 7 = t7) (hi : i < 8) (ht7 : t7 ≠ 0 ∧ t7 < 8) (hna : ¬ x_isA made comb i 2) : x_f x_P (d + 5) 4 [(6, 0, 0), (0, x, 0), (11, 0, 0), (11, 0, 0), (11, 0, 0)] φ n sl (x_bR n sl 0 0 (fun zw φ2 => ∃ tpZ : Nat → Nat, zw = (0, 4294967295, 0) ∧ zG φ2 0 tpZ lf mi made sv svm comb hm sc sm mh noted verd ins ver sz bw)) := by
  refine x_f_of rfl ?_
  have hG0 := hG
  obtain ⟨⟨hand, ie, hH, hhw⟩, hB, hTJ, hEJ, hN, hKJ, ⟨A, B, s9, hPS, hLK0⟩, hSP, hV5, ⟨slq, hSL⟩, hRW, hJ, hFJ, hWJ, ⟨ovn, ovh, hOV, hovn, hovh⟩⟩ := hG
  refine x_n_lt (fun hlt0 => ?_)
  have hmade := x_PS_lt hPS
  obtain ⟨co, ⟨top_, fr_, pc_, mm, st, lo, re, rs, fl, se, hKS⟩, hco⟩ := hKJ
  refine q_load (v := (0, x, 0)) (p2 := 1) rfl rfl rfl rfl ?_
  refine q_const (p2 := 2) rfl rfl ?_
  refine q_iushrz (z := s4) (p2 := 3) rfl (by omega) hf0 rfl ?_
  refine q_const (p2 := 4) rfl rfl ?_
  refine q_iandz (z := i) (p2 := 5) rfl hf1 (by omega) rfl ?_
  refine q_store (loc2 := [(6, 0, 0), (0, x, 0), (0, i, 0), (11, 0, 0), (11, 0, 0)]) (p2 := 6) rfl rfl rfl rfl rfl ?_
  refine q_load (v := (0, x, 0)) (p2 := 7) rfl rfl rfl rfl ?_
  refine q_const (p2 := 8) rfl rfl ?_
  refine q_iushrz (z := s7) (p2 := 9) rfl (by omega) hf2 rfl ?_
  refine q_const (p2 := 10) rfl rfl ?_
  refine q_iandz (z := 4) (p2 := 11) rfl hf3 (by omega) rfl ?_
  refine q_store (loc2 := [(6, 0, 0), (0, x, 0), (0, i, 0), (0, 4, 0), (11, 0, 0)]) (p2 := 12) rfl rfl rfl rfl rfl ?_
  refine q_const (p2 := 13) rfl rfl ?_
  refine q_store (loc2 := [(6, 0, 0), (0, x, 0), (0, i, 0), (0, 4, 0), (0, 1, 0)]) (p2 := 14) rfl rfl rfl rfl rfl ?_
  refine q_load (v := (0, x, 0)) (p2 := 15) rfl rfl rfl rfl ?_
  refine q_const (p2 := 16) rfl rfl ?_
  refine q_iandz (z := 8) (p2 := 17) rfl hf4 (by omega) rfl ?_
  refine q_switch (tgt := 123) rfl (by decide) rfl ?_
  refine q_load (v := (0, x, 0)) (p2 := 124) rfl rfl rfl rfl ?_
  refine q_const (p2 := 125) rfl rfl ?_
  refine q_iushrz (z := s10) (p2 := 126) rfl (by omega) hf5 rfl ?_
  refine q_const (p2 := 127) rfl rfl ?_
  refine q_iandz (z := t7) (p2 := 128) rfl hf6 (by omega) rfl ?_
  refine q_if0_s (p2 := 129) rfl (by decide) (by omega) rfl (fun _ => ?_) (fun hb => absurd (show ¬ (t7 = 0) by omega) hb)
  refine q_load (v := (6, 0, 0)) (p2 := 134) rfl rfl rfl rfl ?_
  refine q_load (v := (0, i, 0)) (p2 := 135) rfl rfl rfl rfl ?_
  refine q_load (v := (0, 4, 0)) (p2 := 136) rfl rfl rfl rfl ?_
  have hGz1 : zG φ 0 tp lf mi made sv svm comb hm sc sm mh noted verd ins ver sz bw := ⟨⟨_, _, hH, hhw⟩, hB, hTJ, hEJ, hN, ⟨_, ⟨_, _, _, _, _, _, _, _, _, _, hKS⟩, hco⟩, ⟨_, _, _, hPS, hLK0⟩, hSP, hV5, ⟨_, hSL⟩, hRW, hJ, hFJ, hWJ, ⟨_, _, hOV, hovn, hovh⟩⟩
  refine q_callrB (xs := [(0, 4, 0), (0, i, 0), (6, 0, 0)]) (p2 := 137) rfl rfl rfl rfl (x_rcv_s 0 hH) rfl (zc_get4_bad (x := i) hGz1 (by omega) hpv (by omega) (by omega) hna) rfl (fun w1 φ1 n1 sl1 hn1 hN1 hs1 hT1 hR1 => ?_)
  obtain ⟨hwz1, hGr1⟩ := hR1
  subst hwz1
  have hG := hGr1
  skip
  obtain ⟨⟨hand, ie, hH, hhw⟩, hB, hTJ, hEJ, hN, hKJ, ⟨A, B, s9, hPS, hLK0⟩, hSP, hV5, ⟨slq, hSL⟩, hRW, hJ, hFJ, hWJ, ⟨ovn, ovh, hOV, hovn, hovh⟩⟩ := hG
  refine x_n_lt (fun hlt0 => ?_)
  have hmade := x_PS_lt hPS
  obtain ⟨co, ⟨top_, fr_, pc_, mm, st, lo, re, rs, fl, se, hKS⟩, hco⟩ := hKJ
  exact q_retv (v := (0, 4294967295, 0)) rfl rfl (⟨rfl, ⟨by omega, by omega⟩, ⟨by omega, by omega⟩, _, rfl, ⟨⟨_, _, hH, hhw⟩, hB, hTJ, hEJ, hN, ⟨_, ⟨_, _, _, _, _, _, _, _, _, _, hKS⟩, hco⟩, ⟨_, _, _, hPS, hLK0⟩, hSP, hV5, ⟨_, hSL⟩, hRW, hJ, hFJ, hWJ, ⟨_, _, hOV, hovn, hovh⟩⟩⟩)
set_option maxHeartbeats 1000000 in
theorem zc_call_8_get4 {d n sl : Nat} {φ : FH} {tp : Nat → Nat} {lf : Nat} {mi : Nat} {made : Nat} {sv : Nat} {svm : Nat} {comb : Nat → Nat} {hm : Nat → MV} {sc : Nat → Nat} {sm : Nat → MV} {mh : MV} {noted : Nat} {verd : Nat} {ins : Nat → Nat} {ver : Nat → Nat} {sz : Nat} {bw : Nat → Nat} {x : Nat} {s4 s7 s10 t7 i : Nat}  (hG : zG φ 0 tp lf mi made sv svm comb hm sc sm mh noted verd ins ver sz bw) (hn0 : 486 ≤ n) (hpv : ∀ i, x_pv2 (hm i)) (hmi : mi + 300 ≤ 20000) (hx32 : x < 4294967296) (hf0 : x >>> 4 = s4) (hf1 : s4 &&& 7 = i) (hf2 : x >>> 7 = s7) (hf3 : s7 &&& 7 = 4) (hf4 : x &&& 15 = 8) (hf5 : x >>> 10 = s10) (hf6 : s10 &&& 7 = t7) (hi : i < 8) (ht7 : t7 ≠ 0 ∧ t7 < 8) (hisA : x_isA made comb i 2) : x_f x_P (d + 9) 4 [(6, 0, 0), (0, x, 0), (11, 0, 0), (11, 0, 0), (11, 0, 0)] φ n sl (x_bR n sl 4 62 (fun zw φ2 => ∃ tpZ : Nat → Nat, zw = (0, (if (x_fl (fun y => comb y ≠ 0 ∧ x_ho (hm (y * 40 + 3)) i) made).length ≤ 24 then (6, 0, 3, 5, (x_fl (fun y => comb y ≠ 0 ∧ x_ho (hm (y * 40 + 3)) i) made)) else MV0 : MV).1, 0) ∧ zG φ2 0 tpZ lf mi made sv svm comb hm sc sm (if (x_fl (fun y => comb y ≠ 0 ∧ x_ho (hm (y * 40 + 3)) i) made).length ≤ 24 then (6, 0, 3, 5, (x_fl (fun y => comb y ≠ 0 ∧ x_ho (hm (y * 40 + 3)) i) made)) else MV0) noted verd ins ver sz bw)) := by
  refine x_f_of rfl ?_
  have hG0 := hG
  obtain ⟨⟨hand, ie, hH, hhw⟩, hB, hTJ, hEJ, hN, hKJ, ⟨A, B, s9, hPS, hLK0⟩, hSP, hV5, ⟨slq, hSL⟩, hRW, hJ, hFJ, hWJ, ⟨ovn, ovh, hOV, hovn, hovh⟩⟩ := hG
  refine x_n_lt (fun hlt0 => ?_)
  have hmade := x_PS_lt hPS
  obtain ⟨co, ⟨top_, fr_, pc_, mm, st, lo, re, rs, fl, se, hKS⟩, hco⟩ := hKJ
  refine q_load (v := (0, x, 0)) (p2 := 1) rfl rfl rfl rfl ?_
  refine q_const (p2 := 2) rfl rfl ?_
  refine q_iushrz (z := s4) (p2 := 3) rfl (by omega) hf0 rfl ?_
  refine q_const (p2 := 4) rfl rfl ?_
  refine q_iandz (z := i) (p2 := 5) rfl hf1 (by omega) rfl ?_
  refine q_store (loc2 := [(6, 0, 0), (0, x, 0), (0, i, 0), (11, 0, 0), (11, 0, 0)]) (p2 := 6) rfl rfl rfl rfl rfl ?_
  refine q_load (v := (0, x, 0)) (p2 := 7) rfl rfl rfl rfl ?_
  refine q_const (p2 := 8) rfl rfl ?_
  refine q_iushrz (z := s7) (p2 := 9) rfl (by omega) hf2 rfl ?_
  refine q_const (p2 := 10) rfl rfl ?_
  refine q_iandz (z := 4) (p2 := 11) rfl hf3 (by omega) rfl ?_
  refine q_store (loc2 := [(6, 0, 0), (0, x, 0), (0, i, 0), (0, 4, 0), (11, 0, 0)]) (p2 := 12) rfl rfl rfl rfl rfl ?_
  refine q_const (p2 := 13) rfl rfl ?_
  refine q_store (loc2 := [(6, 0, 0), (0, x, 0), (0, i, 0), (0, 4, 0), (0, 1, 0)]) (p2 := 14) rfl rfl rfl rfl rfl ?_
  refine q_load (v := (0, x, 0)) (p2 := 15) rfl rfl rfl rfl ?_
  refine q_const (p2 := 16) rfl rfl ?_
  refine q_iandz (z := 8) (p2 := 17) rfl hf4 (by omega) rfl ?_
  refine q_switch (tgt := 123) rfl (by decide) rfl ?_
  refine q_load (v := (0, x, 0)) (p2 := 124) rfl rfl rfl rfl ?_
  refine q_const (p2 := 125) rfl rfl ?_
  refine q_iushrz (z := s10) (p2 := 126) rfl (by omega) hf5 rfl ?_
  refine q_const (p2 := 127) rfl rfl ?_
  refine q_iandz (z := t7) (p2 := 128) rfl hf6 (by omega) rfl ?_
  refine q_if0_s (p2 := 129) rfl (by decide) (by omega) rfl (fun _ => ?_) (fun hb => absurd (show ¬ (t7 = 0) by omega) hb)
  refine q_load (v := (6, 0, 0)) (p2 := 134) rfl rfl rfl rfl ?_
  refine q_load (v := (0, i, 0)) (p2 := 135) rfl rfl rfl rfl ?_
  refine q_load (v := (0, 4, 0)) (p2 := 136) rfl rfl rfl rfl ?_
  have hGz1 : zG φ 0 tp lf mi made sv svm comb hm sc sm mh noted verd ins ver sz bw := ⟨⟨_, _, hH, hhw⟩, hB, hTJ, hEJ, hN, ⟨_, ⟨_, _, _, _, _, _, _, _, _, _, hKS⟩, hco⟩, ⟨_, _, _, hPS, hLK0⟩, hSP, hV5, ⟨_, hSL⟩, hRW, hJ, hFJ, hWJ, ⟨_, _, hOV, hovn, hovh⟩⟩
  refine q_callrB (xs := [(0, 4, 0), (0, i, 0), (6, 0, 0)]) (p2 := 137) rfl rfl rfl rfl (x_rcv_s 0 hH) rfl (zc_get4 (x := i) hGz1 (by omega) hpv (by omega) (by omega) hisA) rfl (fun w1 φ1 n1 sl1 hn1 hN1 hs1 hT1 hR1 => ?_)
  obtain ⟨hwz1, hGr1⟩ := hR1
  subst hwz1
  have hG := hGr1
  skip
  obtain ⟨⟨hand, ie, hH, hhw⟩, hB, hTJ, hEJ, hN, hKJ, ⟨A, B, s9, hPS, hLK0⟩, hSP, hV5, ⟨slq, hSL⟩, hRW, hJ, hFJ, hWJ, ⟨ovn, ovh, hOV, hovn, hovh⟩⟩ := hG
  refine x_n_lt (fun hlt0 => ?_)
  have hmade := x_PS_lt hPS
  obtain ⟨co, ⟨top_, fr_, pc_, mm, st, lo, re, rs, fl, se, hKS⟩, hco⟩ := hKJ
  exact q_retv (v := (0, (if (x_fl (fun y => comb y ≠ 0 ∧ x_ho (hm (y * 40 + 3)) i) made).length ≤ 24 then (6, 0, 3, 5, (x_fl (fun y => comb y ≠ 0 ∧ x_ho (hm (y * 40 + 3)) i) made)) else MV0 : MV).1, 0)) rfl rfl (⟨rfl, ⟨by omega, by omega⟩, ⟨by omega, by omega⟩, _, rfl, ⟨⟨_, _, hH, hhw⟩, hB, hTJ, hEJ, hN, ⟨_, ⟨_, _, _, _, _, _, _, _, _, _, hKS⟩, hco⟩, ⟨_, _, _, hPS, hLK0⟩, hSP, hV5, ⟨_, hSL⟩, hRW, hJ, hFJ, hWJ, ⟨_, _, hOV, hovn, hovh⟩⟩⟩)
set_option maxHeartbeats 1000000 in
theorem zc_call_8_get5 {d n sl : Nat} {φ : FH} {tp : Nat → Nat} {lf : Nat} {mi : Nat} {made : Nat} {sv : Nat} {svm : Nat} {comb : Nat → Nat} {hm : Nat → MV} {sc : Nat → Nat} {sm : Nat → MV} {mh : MV} {noted : Nat} {verd : Nat} {ins : Nat → Nat} {ver : Nat → Nat} {sz : Nat} {bw : Nat → Nat} {x : Nat} {s4 s7 s10 t7 i : Nat}  (hG : zG φ 0 tp lf mi made sv svm comb hm sc sm mh noted verd ins ver sz bw) (hn0 : 486 ≤ n) (hpv : ∀ i, x_pv2 (hm i)) (hmi : mi + 300 ≤ 20000) (hx32 : x < 4294967296) (hf0 : x >>> 4 = s4) (hf1 : s4 &&& 7 = i) (hf2 : x >>> 7 = s7) (hf3 : s7 &&& 7 = 5) (hf4 : x &&& 15 = 8) (hf5 : x >>> 10 = s10) (hf6 : s10 &&& 7 = t7) (hi : i < 8) (ht7 : t7 ≠ 0 ∧ t7 < 8)  : x_f x_P (d + 5) 4 [(6, 0, 0), (0, x, 0), (11, 0, 0), (11, 0, 0), (11, 0, 0)] φ n sl (x_bR n sl 0 0 (fun zw φ2 => ∃ tpZ : Nat → Nat, zw = (0, 4294967295, 0) ∧ zG φ2 0 tpZ lf mi made sv svm comb hm sc sm mh noted verd ins ver sz bw)) := by
  refine x_f_of rfl ?_
  have hG0 := hG
  obtain ⟨⟨hand, ie, hH, hhw⟩, hB, hTJ, hEJ, hN, hKJ, ⟨A, B, s9, hPS, hLK0⟩, hSP, hV5, ⟨slq, hSL⟩, hRW, hJ, hFJ, hWJ, ⟨ovn, ovh, hOV, hovn, hovh⟩⟩ := hG
  refine x_n_lt (fun hlt0 => ?_)
  have hmade := x_PS_lt hPS
  obtain ⟨co, ⟨top_, fr_, pc_, mm, st, lo, re, rs, fl, se, hKS⟩, hco⟩ := hKJ
  refine q_load (v := (0, x, 0)) (p2 := 1) rfl rfl rfl rfl ?_
  refine q_const (p2 := 2) rfl rfl ?_
  refine q_iushrz (z := s4) (p2 := 3) rfl (by omega) hf0 rfl ?_
  refine q_const (p2 := 4) rfl rfl ?_
  refine q_iandz (z := i) (p2 := 5) rfl hf1 (by omega) rfl ?_
  refine q_store (loc2 := [(6, 0, 0), (0, x, 0), (0, i, 0), (11, 0, 0), (11, 0, 0)]) (p2 := 6) rfl rfl rfl rfl rfl ?_
  refine q_load (v := (0, x, 0)) (p2 := 7) rfl rfl rfl rfl ?_
  refine q_const (p2 := 8) rfl rfl ?_
  refine q_iushrz (z := s7) (p2 := 9) rfl (by omega) hf2 rfl ?_
  refine q_const (p2 := 10) rfl rfl ?_
  refine q_iandz (z := 5) (p2 := 11) rfl hf3 (by omega) rfl ?_
  refine q_store (loc2 := [(6, 0, 0), (0, x, 0), (0, i, 0), (0, 5, 0), (11, 0, 0)]) (p2 := 12) rfl rfl rfl rfl rfl ?_
  refine q_const (p2 := 13) rfl rfl ?_
  refine q_store (loc2 := [(6, 0, 0), (0, x, 0), (0, i, 0), (0, 5, 0), (0, 1, 0)]) (p2 := 14) rfl rfl rfl rfl rfl ?_
  refine q_load (v := (0, x, 0)) (p2 := 15) rfl rfl rfl rfl ?_
  refine q_const (p2 := 16) rfl rfl ?_
  refine q_iandz (z := 8) (p2 := 17) rfl hf4 (by omega) rfl ?_
  refine q_switch (tgt := 123) rfl (by decide) rfl ?_
  refine q_load (v := (0, x, 0)) (p2 := 124) rfl rfl rfl rfl ?_
  refine q_const (p2 := 125) rfl rfl ?_
  refine q_iushrz (z := s10) (p2 := 126) rfl (by omega) hf5 rfl ?_
  refine q_const (p2 := 127) rfl rfl ?_
  refine q_iandz (z := t7) (p2 := 128) rfl hf6 (by omega) rfl ?_
  refine q_if0_s (p2 := 129) rfl (by decide) (by omega) rfl (fun _ => ?_) (fun hb => absurd (show ¬ (t7 = 0) by omega) hb)
  refine q_load (v := (6, 0, 0)) (p2 := 134) rfl rfl rfl rfl ?_
  refine q_load (v := (0, i, 0)) (p2 := 135) rfl rfl rfl rfl ?_
  refine q_load (v := (0, 5, 0)) (p2 := 136) rfl rfl rfl rfl ?_
  have hGz1 : zG φ 0 tp lf mi made sv svm comb hm sc sm mh noted verd ins ver sz bw := ⟨⟨_, _, hH, hhw⟩, hB, hTJ, hEJ, hN, ⟨_, ⟨_, _, _, _, _, _, _, _, _, _, hKS⟩, hco⟩, ⟨_, _, _, hPS, hLK0⟩, hSP, hV5, ⟨_, hSL⟩, hRW, hJ, hFJ, hWJ, ⟨_, _, hOV, hovn, hovh⟩⟩
  refine q_callrB (xs := [(0, 5, 0), (0, i, 0), (6, 0, 0)]) (p2 := 137) rfl rfl rfl rfl (x_rcv_s 0 hH) rfl (zc_get_no5 (x := i) hGz1 (by omega) hpv (by omega) (by omega)) rfl (fun w1 φ1 n1 sl1 hn1 hN1 hs1 hT1 hR1 => ?_)
  obtain ⟨hwz1, hGr1⟩ := hR1
  subst hwz1
  have hG := hGr1
  skip
  obtain ⟨⟨hand, ie, hH, hhw⟩, hB, hTJ, hEJ, hN, hKJ, ⟨A, B, s9, hPS, hLK0⟩, hSP, hV5, ⟨slq, hSL⟩, hRW, hJ, hFJ, hWJ, ⟨ovn, ovh, hOV, hovn, hovh⟩⟩ := hG
  refine x_n_lt (fun hlt0 => ?_)
  have hmade := x_PS_lt hPS
  obtain ⟨co, ⟨top_, fr_, pc_, mm, st, lo, re, rs, fl, se, hKS⟩, hco⟩ := hKJ
  exact q_retv (v := (0, 4294967295, 0)) rfl rfl (⟨rfl, ⟨by omega, by omega⟩, ⟨by omega, by omega⟩, _, rfl, ⟨⟨_, _, hH, hhw⟩, hB, hTJ, hEJ, hN, ⟨_, ⟨_, _, _, _, _, _, _, _, _, _, hKS⟩, hco⟩, ⟨_, _, _, hPS, hLK0⟩, hSP, hV5, ⟨_, hSL⟩, hRW, hJ, hFJ, hWJ, ⟨_, _, hOV, hovn, hovh⟩⟩⟩)
set_option maxHeartbeats 1000000 in
theorem zc_call_8_get6 {d n sl : Nat} {φ : FH} {tp : Nat → Nat} {lf : Nat} {mi : Nat} {made : Nat} {sv : Nat} {svm : Nat} {comb : Nat → Nat} {hm : Nat → MV} {sc : Nat → Nat} {sm : Nat → MV} {mh : MV} {noted : Nat} {verd : Nat} {ins : Nat → Nat} {ver : Nat → Nat} {sz : Nat} {bw : Nat → Nat} {x : Nat} {s4 s7 s10 t7 i : Nat}  (hG : zG φ 0 tp lf mi made sv svm comb hm sc sm mh noted verd ins ver sz bw) (hn0 : 486 ≤ n) (hpv : ∀ i, x_pv2 (hm i)) (hmi : mi + 300 ≤ 20000) (hx32 : x < 4294967296) (hf0 : x >>> 4 = s4) (hf1 : s4 &&& 7 = i) (hf2 : x >>> 7 = s7) (hf3 : s7 &&& 7 = 6) (hf4 : x &&& 15 = 8) (hf5 : x >>> 10 = s10) (hf6 : s10 &&& 7 = t7) (hi : i < 8) (ht7 : t7 ≠ 0 ∧ t7 < 8)  : x_f x_P (d + 5) 4 [(6, 0, 0), (0, x, 0), (11, 0, 0), (11, 0, 0), (11, 0, 0)] φ n sl (x_bR n sl 0 0 (fun zw φ2 => ∃ tpZ : Nat → Nat, zw = (0, 4294967295, 0) ∧ zG φ2 0 tpZ lf mi made sv svm comb hm sc sm mh noted verd ins ver sz bw)) := by
  refine x_f_of rfl ?_
  have hG0 := hG
  obtain ⟨⟨hand, ie, hH, hhw⟩, hB, hTJ, hEJ, hN, hKJ, ⟨A, B, s9, hPS, hLK0⟩, hSP, hV5, ⟨slq, hSL⟩, hRW, hJ, hFJ, hWJ, ⟨ovn, ovh, hOV, hovn, hovh⟩⟩ := hG
  refine x_n_lt (fun hlt0 => ?_)
  have hmade := x_PS_lt hPS
  obtain ⟨co, ⟨top_, fr_, pc_, mm, st, lo, re, rs, fl, se, hKS⟩, hco⟩ := hKJ
  refine q_load (v := (0, x, 0)) (p2 := 1) rfl rfl rfl rfl ?_
  refine q_const (p2 := 2) rfl rfl ?_
  refine q_iushrz (z := s4) (p2 := 3) rfl (by omega) hf0 rfl ?_
  refine q_const (p2 := 4) rfl rfl ?_
  refine q_iandz (z := i) (p2 := 5) rfl hf1 (by omega) rfl ?_
  refine q_store (loc2 := [(6, 0, 0), (0, x, 0), (0, i, 0), (11, 0, 0), (11, 0, 0)]) (p2 := 6) rfl rfl rfl rfl rfl ?_
  refine q_load (v := (0, x, 0)) (p2 := 7) rfl rfl rfl rfl ?_
  refine q_const (p2 := 8) rfl rfl ?_
  refine q_iushrz (z := s7) (p2 := 9) rfl (by omega) hf2 rfl ?_
  refine q_const (p2 := 10) rfl rfl ?_
  refine q_iandz (z := 6) (p2 := 11) rfl hf3 (by omega) rfl ?_
  refine q_store (loc2 := [(6, 0, 0), (0, x, 0), (0, i, 0), (0, 6, 0), (11, 0, 0)]) (p2 := 12) rfl rfl rfl rfl rfl ?_
  refine q_const (p2 := 13) rfl rfl ?_
  refine q_store (loc2 := [(6, 0, 0), (0, x, 0), (0, i, 0), (0, 6, 0), (0, 1, 0)]) (p2 := 14) rfl rfl rfl rfl rfl ?_
  refine q_load (v := (0, x, 0)) (p2 := 15) rfl rfl rfl rfl ?_
  refine q_const (p2 := 16) rfl rfl ?_
  refine q_iandz (z := 8) (p2 := 17) rfl hf4 (by omega) rfl ?_
  refine q_switch (tgt := 123) rfl (by decide) rfl ?_
  refine q_load (v := (0, x, 0)) (p2 := 124) rfl rfl rfl rfl ?_
  refine q_const (p2 := 125) rfl rfl ?_
  refine q_iushrz (z := s10) (p2 := 126) rfl (by omega) hf5 rfl ?_
  refine q_const (p2 := 127) rfl rfl ?_
  refine q_iandz (z := t7) (p2 := 128) rfl hf6 (by omega) rfl ?_
  refine q_if0_s (p2 := 129) rfl (by decide) (by omega) rfl (fun _ => ?_) (fun hb => absurd (show ¬ (t7 = 0) by omega) hb)
  refine q_load (v := (6, 0, 0)) (p2 := 134) rfl rfl rfl rfl ?_
  refine q_load (v := (0, i, 0)) (p2 := 135) rfl rfl rfl rfl ?_
  refine q_load (v := (0, 6, 0)) (p2 := 136) rfl rfl rfl rfl ?_
  have hGz1 : zG φ 0 tp lf mi made sv svm comb hm sc sm mh noted verd ins ver sz bw := ⟨⟨_, _, hH, hhw⟩, hB, hTJ, hEJ, hN, ⟨_, ⟨_, _, _, _, _, _, _, _, _, _, hKS⟩, hco⟩, ⟨_, _, _, hPS, hLK0⟩, hSP, hV5, ⟨_, hSL⟩, hRW, hJ, hFJ, hWJ, ⟨_, _, hOV, hovn, hovh⟩⟩
  refine q_callrB (xs := [(0, 6, 0), (0, i, 0), (6, 0, 0)]) (p2 := 137) rfl rfl rfl rfl (x_rcv_s 0 hH) rfl (zc_get_no6 (x := i) hGz1 (by omega) hpv (by omega) (by omega)) rfl (fun w1 φ1 n1 sl1 hn1 hN1 hs1 hT1 hR1 => ?_)
  obtain ⟨hwz1, hGr1⟩ := hR1
  subst hwz1
  have hG := hGr1
  skip
  obtain ⟨⟨hand, ie, hH, hhw⟩, hB, hTJ, hEJ, hN, hKJ, ⟨A, B, s9, hPS, hLK0⟩, hSP, hV5, ⟨slq, hSL⟩, hRW, hJ, hFJ, hWJ, ⟨ovn, ovh, hOV, hovn, hovh⟩⟩ := hG
  refine x_n_lt (fun hlt0 => ?_)
  have hmade := x_PS_lt hPS
  obtain ⟨co, ⟨top_, fr_, pc_, mm, st, lo, re, rs, fl, se, hKS⟩, hco⟩ := hKJ
  exact q_retv (v := (0, 4294967295, 0)) rfl rfl (⟨rfl, ⟨by omega, by omega⟩, ⟨by omega, by omega⟩, _, rfl, ⟨⟨_, _, hH, hhw⟩, hB, hTJ, hEJ, hN, ⟨_, ⟨_, _, _, _, _, _, _, _, _, _, hKS⟩, hco⟩, ⟨_, _, _, hPS, hLK0⟩, hSP, hV5, ⟨_, hSL⟩, hRW, hJ, hFJ, hWJ, ⟨_, _, hOV, hovn, hovh⟩⟩⟩)
set_option maxHeartbeats 1000000 in
theorem zc_call_8_get7 {d n sl : Nat} {φ : FH} {tp : Nat → Nat} {lf : Nat} {mi : Nat} {made : Nat} {sv : Nat} {svm : Nat} {comb : Nat → Nat} {hm : Nat → MV} {sc : Nat → Nat} {sm : Nat → MV} {mh : MV} {noted : Nat} {verd : Nat} {ins : Nat → Nat} {ver : Nat → Nat} {sz : Nat} {bw : Nat → Nat} {x : Nat} {s4 s7 s10 t7 i : Nat}  (hG : zG φ 0 tp lf mi made sv svm comb hm sc sm mh noted verd ins ver sz bw) (hn0 : 486 ≤ n) (hpv : ∀ i, x_pv2 (hm i)) (hmi : mi + 300 ≤ 20000) (hx32 : x < 4294967296) (hf0 : x >>> 4 = s4) (hf1 : s4 &&& 7 = i) (hf2 : x >>> 7 = s7) (hf3 : s7 &&& 7 = 7) (hf4 : x &&& 15 = 8) (hf5 : x >>> 10 = s10) (hf6 : s10 &&& 7 = t7) (hi : i < 8) (ht7 : t7 ≠ 0 ∧ t7 < 8)  : x_f x_P (d + 5) 4 [(6, 0, 0), (0, x, 0), (11, 0, 0), (11, 0, 0), (11, 0, 0)] φ n sl (x_bR n sl 0 0 (fun zw φ2 => ∃ tpZ : Nat → Nat, zw = (0, 4294967295, 0) ∧ zG φ2 0 tpZ lf mi made sv svm comb hm sc sm mh noted verd ins ver sz bw)) := by
  refine x_f_of rfl ?_
  have hG0 := hG
  obtain ⟨⟨hand, ie, hH, hhw⟩, hB, hTJ, hEJ, hN, hKJ, ⟨A, B, s9, hPS, hLK0⟩, hSP, hV5, ⟨slq, hSL⟩, hRW, hJ, hFJ, hWJ, ⟨ovn, ovh, hOV, hovn, hovh⟩⟩ := hG
  refine x_n_lt (fun hlt0 => ?_)
  have hmade := x_PS_lt hPS
  obtain ⟨co, ⟨top_, fr_, pc_, mm, st, lo, re, rs, fl, se, hKS⟩, hco⟩ := hKJ
  refine q_load (v := (0, x, 0)) (p2 := 1) rfl rfl rfl rfl ?_
  refine q_const (p2 := 2) rfl rfl ?_
  refine q_iushrz (z := s4) (p2 := 3) rfl (by omega) hf0 rfl ?_
  refine q_const (p2 := 4) rfl rfl ?_
  refine q_iandz (z := i) (p2 := 5) rfl hf1 (by omega) rfl ?_
  refine q_store (loc2 := [(6, 0, 0), (0, x, 0), (0, i, 0), (11, 0, 0), (11, 0, 0)]) (p2 := 6) rfl rfl rfl rfl rfl ?_
  refine q_load (v := (0, x, 0)) (p2 := 7) rfl rfl rfl rfl ?_
  refine q_const (p2 := 8) rfl rfl ?_
  refine q_iushrz (z := s7) (p2 := 9) rfl (by omega) hf2 rfl ?_
  refine q_const (p2 := 10) rfl rfl ?_
  refine q_iandz (z := 7) (p2 := 11) rfl hf3 (by omega) rfl ?_
  refine q_store (loc2 := [(6, 0, 0), (0, x, 0), (0, i, 0), (0, 7, 0), (11, 0, 0)]) (p2 := 12) rfl rfl rfl rfl rfl ?_
  refine q_const (p2 := 13) rfl rfl ?_
  refine q_store (loc2 := [(6, 0, 0), (0, x, 0), (0, i, 0), (0, 7, 0), (0, 1, 0)]) (p2 := 14) rfl rfl rfl rfl rfl ?_
  refine q_load (v := (0, x, 0)) (p2 := 15) rfl rfl rfl rfl ?_
  refine q_const (p2 := 16) rfl rfl ?_
  refine q_iandz (z := 8) (p2 := 17) rfl hf4 (by omega) rfl ?_
  refine q_switch (tgt := 123) rfl (by decide) rfl ?_
  refine q_load (v := (0, x, 0)) (p2 := 124) rfl rfl rfl rfl ?_
  refine q_const (p2 := 125) rfl rfl ?_
  refine q_iushrz (z := s10) (p2 := 126) rfl (by omega) hf5 rfl ?_
  refine q_const (p2 := 127) rfl rfl ?_
  refine q_iandz (z := t7) (p2 := 128) rfl hf6 (by omega) rfl ?_
  refine q_if0_s (p2 := 129) rfl (by decide) (by omega) rfl (fun _ => ?_) (fun hb => absurd (show ¬ (t7 = 0) by omega) hb)
  refine q_load (v := (6, 0, 0)) (p2 := 134) rfl rfl rfl rfl ?_
  refine q_load (v := (0, i, 0)) (p2 := 135) rfl rfl rfl rfl ?_
  refine q_load (v := (0, 7, 0)) (p2 := 136) rfl rfl rfl rfl ?_
  have hGz1 : zG φ 0 tp lf mi made sv svm comb hm sc sm mh noted verd ins ver sz bw := ⟨⟨_, _, hH, hhw⟩, hB, hTJ, hEJ, hN, ⟨_, ⟨_, _, _, _, _, _, _, _, _, _, hKS⟩, hco⟩, ⟨_, _, _, hPS, hLK0⟩, hSP, hV5, ⟨_, hSL⟩, hRW, hJ, hFJ, hWJ, ⟨_, _, hOV, hovn, hovh⟩⟩
  refine q_callrB (xs := [(0, 7, 0), (0, i, 0), (6, 0, 0)]) (p2 := 137) rfl rfl rfl rfl (x_rcv_s 0 hH) rfl (zc_get_no7 (x := i) hGz1 (by omega) hpv (by omega) (by omega)) rfl (fun w1 φ1 n1 sl1 hn1 hN1 hs1 hT1 hR1 => ?_)
  obtain ⟨hwz1, hGr1⟩ := hR1
  subst hwz1
  have hG := hGr1
  skip
  obtain ⟨⟨hand, ie, hH, hhw⟩, hB, hTJ, hEJ, hN, hKJ, ⟨A, B, s9, hPS, hLK0⟩, hSP, hV5, ⟨slq, hSL⟩, hRW, hJ, hFJ, hWJ, ⟨ovn, ovh, hOV, hovn, hovh⟩⟩ := hG
  refine x_n_lt (fun hlt0 => ?_)
  have hmade := x_PS_lt hPS
  obtain ⟨co, ⟨top_, fr_, pc_, mm, st, lo, re, rs, fl, se, hKS⟩, hco⟩ := hKJ
  exact q_retv (v := (0, 4294967295, 0)) rfl rfl (⟨rfl, ⟨by omega, by omega⟩, ⟨by omega, by omega⟩, _, rfl, ⟨⟨_, _, hH, hhw⟩, hB, hTJ, hEJ, hN, ⟨_, ⟨_, _, _, _, _, _, _, _, _, _, hKS⟩, hco⟩, ⟨_, _, _, hPS, hLK0⟩, hSP, hV5, ⟨_, hSL⟩, hRW, hJ, hFJ, hWJ, ⟨_, _, hOV, hovn, hovh⟩⟩⟩)
end FPOP74
