section FPOP74
theorem q_iandz {P : List (List XI)} {d pc p2 n sl : Nat} {code : List XI} {t loc : List XV} {φ : FH} {Post : FP} {b x y z : Nat} {tb : List (Nat × Nat)} (hc : x_nth code pc = some (15, 3, b, tb)) (hz : x &&& y = z) (hb : z < 4294967296) (hp : pc + 1 = p2) (kk : x_n P d code p2 ((0, z, 0) :: t) loc φ n sl Post) : x_n P d code pc ((0, y, 0) :: (0, x, 0) :: t) loc φ n sl Post :=
  q_iop (w := x &&& y) hc (xo_and x y) (by rw [hz]; omega) hp kk
theorem q_iushrz {P : List (List XI)} {d pc p2 n sl : Nat} {code : List XI} {t loc : List XV} {φ : FH} {Post : FP} {a b x y z : Nat} {tb : List (Nat × Nat)} (hc : x_nth code pc = some (26, a, b, tb)) (hx : x < 4294967296 ∧ y < 32) (hz : x >>> y = z) (hp : pc + 1 = p2) (kk : x_n P d code p2 ((0, z, 0) :: t) loc φ n sl Post) : x_n P d code pc ((0, y, 0) :: (0, x, 0) :: t) loc φ n sl Post := by
  subst hp
  refine x_n_go (fun K f h _ => (x_run_op hc rfl).trans ?_) kk
  show x_if (Nat.beq 0 0) (x_if (Nat.beq 0 0) (x_I (Nat.shiftRight (Nat.mod x 4294967296) (Nat.mod y 32)) (fun w => x_force (Nat.succ pc) (fun p => x_run K f code p (w :: t) loc h n sl))) none) none = _
  rw [Nat.beq_refl, x_if_true, x_if_true, xe_I, x_force_eq]
  have e1 : Nat.mod x 4294967296 = x := Nat.mod_eq_of_lt hx.1
  have e2 : Nat.mod y 32 = y := Nat.mod_eq_of_lt hx.2
  have e3 : Nat.shiftRight x y = z := hz
  have e4 : z < 4294967296 := by
    rw [← hz, Nat.shiftRight_eq_div_pow]
    exact Nat.lt_of_le_of_lt (Nat.div_le_self _ _) hx.1
  rw [e1, e2, e3, Nat.mod_eq_of_lt e4]
set_option maxHeartbeats 1000000 in
theorem zc_call_0a {d n sl : Nat} {φ : FH} {tp : Nat → Nat} {lf : Nat} {mi : Nat} {made : Nat} {sv : Nat} {svm : Nat} {comb : Nat → Nat} {hm : Nat → MV} {sc : Nat → Nat} {sm : Nat → MV} {mh : MV} {noted : Nat} {verd : Nat} {ins : Nat → Nat} {ver : Nat → Nat} {sz : Nat} {bw : Nat → Nat} {x : Nat} {s4 s7 i j : Nat}  (hG : zG φ 0 tp lf mi made sv svm comb hm sc sm mh noted verd ins ver sz bw) (hn0 : 486 ≤ n) (hpv : ∀ i, x_pv2 (hm i)) (hmi : mi + 300 ≤ 20000) (hx32 : x < 4294967296) (hf0 : x >>> 4 = s4) (hf1 : s4 &&& 7 = i) (hf2 : x >>> 7 = s7) (hf3 : s7 &&& 7 = j) (hf4 : x &&& 15 = 0) (hf5 : i &&& 1 = 0) (hi : i < 8) (hj : j < 8)  : x_f x_P (d + 5) 4 [(6, 0, 0), (0, x, 0), (11, 0, 0), (11, 0, 0), (11, 0, 0)] φ n sl (x_bR n sl 0 0 (fun zw φ2 => zw = (0, 4294967282, 0) ∧ zG φ2 0 tp lf mi made sv svm comb hm sc sm mh noted verd ins ver sz bw)) := by
  refine x_f_of rfl ?_
  have hG0 := hG
  obtain ⟨⟨hand, ie, hH, hhw⟩, hB, hTJ, hEJ, hN, hKJ, ⟨A, B, s9, hPS, hLK0⟩, hSP, hV5, ⟨slq, hSL⟩, hRW, hJ, hFJ, hWJ, ⟨ovn, ovh, hOV, hovn, hovh⟩⟩ := hG
  refine x_n_lt (fun hlt0 => ?_)
  have hmade := x_PS_lt hPS
  obtain ⟨co, ⟨top_, fr_, pc_, mm, st, lo, re, rs, fl, se, hKS⟩, hco⟩ := hKJ
  refine q_load (v := (0, x, 0)) (p2 := 1) rfl rfl rfl rfl ?_
  refine q_const (p2 := 2) rfl rfl ?_
  refine q_iushrz (z := s4) (p2 := 3) rfl (by omega) hf0 rfl ?_
  refine q_const (p2 := 4) rfl rfl ?_
  refine q_iandz (z := i) (p2 := 5) rfl hf1 (by omega) rfl ?_
  refine q_store (loc2 := [(6, 0, 0), (0, x, 0), (0, i, 0), (11, 0, 0), (11, 0, 0)]) (p2 := 6) rfl rfl rfl rfl rfl ?_
  refine q_load (v := (0, x, 0)) (p2 := 7) rfl rfl rfl rfl ?_
  refine q_const (p2 := 8) rfl rfl ?_
  refine q_iushrz (z := s7) (p2 := 9) rfl (by omega) hf2 rfl ?_
  refine q_const (p2 := 10) rfl rfl ?_
  refine q_iandz (z := j) (p2 := 11) rfl hf3 (by omega) rfl ?_
  refine q_store (loc2 := [(6, 0, 0), (0, x, 0), (0, i, 0), (0, j, 0), (11, 0, 0)]) (p2 := 12) rfl rfl rfl rfl rfl ?_
  refine q_const (p2 := 13) rfl rfl ?_
  refine q_store (loc2 := [(6, 0, 0), (0, x, 0), (0, i, 0), (0, j, 0), (0, 1, 0)]) (p2 := 14) rfl rfl rfl rfl rfl ?_
  refine q_load (v := (0, x, 0)) (p2 := 15) rfl rfl rfl rfl ?_
  refine q_const (p2 := 16) rfl rfl ?_
  refine q_iandz (z := 0) (p2 := 17) rfl hf4 (by omega) rfl ?_
  refine q_switch (tgt := 18) rfl (by decide) rfl ?_
  refine q_load (v := (6, 0, 0)) (p2 := 19) rfl rfl rfl rfl ?_
  refine q_const (p2 := 20) rfl rfl ?_
  refine q_load (v := (0, i, 0)) (p2 := 21) rfl rfl rfl rfl ?_
  refine q_const (p2 := 22) rfl rfl ?_
  refine q_iandz (z := 0) (p2 := 23) rfl hf5 (by omega) rfl ?_
  refine q_const (p2 := 24) rfl rfl ?_
  refine q_iop (w := 0 * 2) (z := 0) (p2 := 25) rfl (xo_mul 0 2) (by decide) rfl ?_
  refine q_iop (w := 1 + 0) (z := 1) (p2 := 26) rfl (xo_add 1 0) (by decide) rfl ?_
  have hGz1 : zG φ 0 tp lf mi made sv svm comb hm sc sm mh noted verd ins ver sz bw := ⟨⟨_, _, hH, hhw⟩, hB, hTJ, hEJ, hN, ⟨_, ⟨_, _, _, _, _, _, _, _, _, _, hKS⟩, hco⟩, ⟨_, _, _, hPS, hLK0⟩, hSP, hV5, ⟨_, hSL⟩, hRW, hJ, hFJ, hWJ, ⟨_, _, hOV, hovn, hovh⟩⟩
  refine q_callrB (xs := [(0, 1, 0), (6, 0, 0)]) (p2 := 27) rfl rfl rfl rfl (x_rcv_s 0 hH) rfl (zc_make_1  hGz1 (by omega) hpv (by omega) ) rfl (fun w1 φ1 n1 sl1 hn1 hN1 hs1 hT1 hR1 => ?_)
  obtain ⟨hwz1, hGr1⟩ := hR1
  subst hwz1
  have hG := hGr1
  skip
  obtain ⟨⟨hand, ie, hH, hhw⟩, hB, hTJ, hEJ, hN, hKJ, ⟨A, B, s9, hPS, hLK0⟩, hSP, hV5, ⟨slq, hSL⟩, hRW, hJ, hFJ, hWJ, ⟨ovn, ovh, hOV, hovn, hovh⟩⟩ := hG
  refine x_n_lt (fun hlt0 => ?_)
  have hmade := x_PS_lt hPS
  obtain ⟨co, ⟨top_, fr_, pc_, mm, st, lo, re, rs, fl, se, hKS⟩, hco⟩ := hKJ
  exact q_retv (v := (0, 4294967282, 0)) rfl rfl (⟨rfl, ⟨by omega, by omega⟩, ⟨by omega, by omega⟩, rfl, ⟨⟨_, _, hH, hhw⟩, hB, hTJ, hEJ, hN, ⟨_, ⟨_, _, _, _, _, _, _, _, _, _, hKS⟩, hco⟩, ⟨_, _, _, hPS, hLK0⟩, hSP, hV5, ⟨_, hSL⟩, hRW, hJ, hFJ, hWJ, ⟨_, _, hOV, hovn, hovh⟩⟩⟩)
set_option maxHeartbeats 1000000 in
theorem zc_call_0br {d n sl : Nat} {φ : FH} {tp : Nat → Nat} {lf : Nat} {mi : Nat} {made : Nat} {sv : Nat} {svm : Nat} {comb : Nat → Nat} {hm : Nat → MV} {sc : Nat → Nat} {sm : Nat → MV} {mh : MV} {noted : Nat} {verd : Nat} {ins : Nat → Nat} {ver : Nat → Nat} {sz : Nat} {bw : Nat → Nat} {x : Nat} {s4 s7 i j : Nat}  (hG : zG φ 0 tp lf mi made sv svm comb hm sc sm mh noted verd ins ver sz bw) (hn0 : 486 ≤ n) (hpv : ∀ i, x_pv2 (hm i)) (hmi : mi + 300 ≤ 20000) (hx32 : x < 4294967296) (hf0 : x >>> 4 = s4) (hf1 : s4 &&& 7 = i) (hf2 : x >>> 7 = s7) (hf3 : s7 &&& 7 = j) (hf4 : x &&& 15 = 0) (hf5 : i &&& 1 = 1) (hi : i < 8) (hj : j < 8) (hroom : made < 40) : x_f x_P (d + 6) 4 [(6, 0, 0), (0, x, 0), (11, 0, 0), (11, 0, 0), (11, 0, 0)] φ n sl (x_bR n sl 0 0 (fun zw φ2 => zw = (0, made, 0) ∧ zG φ2 0 tp lf mi (made + 1) sv svm (x_s comb made 3) (x_em made hm) sc sm mh noted verd ins ver sz bw)) := by
  refine x_f_of rfl ?_
  have hG0 := hG
  obtain ⟨⟨hand, ie, hH, hhw⟩, hB, hTJ, hEJ, hN, hKJ, ⟨A, B, s9, hPS, hLK0⟩, hSP, hV5, ⟨slq, hSL⟩, hRW, hJ, hFJ, hWJ, ⟨ovn, ovh, hOV, hovn, hovh⟩⟩ := hG
  refine x_n_lt (fun hlt0 => ?_)
  have hmade := x_PS_lt hPS
  obtain ⟨co, ⟨top_, fr_, pc_, mm, st, lo, re, rs, fl, se, hKS⟩, hco⟩ := hKJ
  refine q_load (v := (0, x, 0)) (p2 := 1) rfl rfl rfl rfl ?_
  refine q_const (p2 := 2) rfl rfl ?_
  refine q_iushrz (z := s4) (p2 := 3) rfl (by omega) hf0 rfl ?_
  refine q_const (p2 := 4) rfl rfl ?_
  refine q_iandz (z := i) (p2 := 5) rfl hf1 (by omega) rfl ?_
  refine q_store (loc2 := [(6, 0, 0), (0, x, 0), (0, i, 0), (11, 0, 0), (11, 0, 0)]) (p2 := 6) rfl rfl rfl rfl rfl ?_
  refine q_load (v := (0, x, 0)) (p2 := 7) rfl rfl rfl rfl ?_
  refine q_const (p2 := 8) rfl rfl ?_
  refine q_iushrz (z := s7) (p2 := 9) rfl (by omega) hf2 rfl ?_
  refine q_const (p2 := 10) rfl rfl ?_
  refine q_iandz (z := j) (p2 := 11) rfl hf3 (by omega) rfl ?_
  refine q_store (loc2 := [(6, 0, 0), (0, x, 0), (0, i, 0), (0, j, 0), (11, 0, 0)]) (p2 := 12) rfl rfl rfl rfl rfl ?_
  refine q_const (p2 := 13) rfl rfl ?_
  refine q_store (loc2 := [(6, 0, 0), (0, x, 0), (0, i, 0), (0, j, 0), (0, 1, 0)]) (p2 := 14) rfl rfl rfl rfl rfl ?_
  refine q_load (v := (0, x, 0)) (p2 := 15) rfl rfl rfl rfl ?_
  refine q_const (p2 := 16) rfl rfl ?_
  refine q_iandz (z := 0) (p2 := 17) rfl hf4 (by omega) rfl ?_
  refine q_switch (tgt := 18) rfl (by decide) rfl ?_
  refine q_load (v := (6, 0, 0)) (p2 := 19) rfl rfl rfl rfl ?_
  refine q_const (p2 := 20) rfl rfl ?_
  refine q_load (v := (0, i, 0)) (p2 := 21) rfl rfl rfl rfl ?_
  refine q_const (p2 := 22) rfl rfl ?_
  refine q_iandz (z := 1) (p2 := 23) rfl hf5 (by omega) rfl ?_
  refine q_const (p2 := 24) rfl rfl ?_
  refine q_iop (w := 1 * 2) (z := 2) (p2 := 25) rfl (xo_mul 1 2) (by decide) rfl ?_
  refine q_iop (w := 1 + 2) (z := 3) (p2 := 26) rfl (xo_add 1 2) (by decide) rfl ?_
  have hGz1 : zG φ 0 tp lf mi made sv svm comb hm sc sm mh noted verd ins ver sz bw := ⟨⟨_, _, hH, hhw⟩, hB, hTJ, hEJ, hN, ⟨_, ⟨_, _, _, _, _, _, _, _, _, _, hKS⟩, hco⟩, ⟨_, _, _, hPS, hLK0⟩, hSP, hV5, ⟨_, hSL⟩, hRW, hJ, hFJ, hWJ, ⟨_, _, hOV, hovn, hovh⟩⟩
  refine q_callrB (xs := [(0, 3, 0), (6, 0, 0)]) (p2 := 27) rfl rfl rfl rfl (x_rcv_s 0 hH) rfl (zc_make_3  hGz1 (by omega) hpv (by omega) hroom) rfl (fun w1 φ1 n1 sl1 hn1 hN1 hs1 hT1 hR1 => ?_)
  obtain ⟨hwz1, hGr1⟩ := hR1
  subst hwz1
  have hG := hGr1
  skip
  obtain ⟨⟨hand, ie, hH, hhw⟩, hB, hTJ, hEJ, hN, hKJ, ⟨A, B, s9, hPS, hLK0⟩, hSP, hV5, ⟨slq, hSL⟩, hRW, hJ, hFJ, hWJ, ⟨ovn, ovh, hOV, hovn, hovh⟩⟩ := hG
  refine x_n_lt (fun hlt0 => ?_)
  have hmade := x_PS_lt hPS
  obtain ⟨co, ⟨top_, fr_, pc_, mm, st, lo, re, rs, fl, se, hKS⟩, hco⟩ := hKJ
  exact q_retv (v := (0, made, 0)) rfl rfl (⟨rfl, ⟨by omega, by omega⟩, ⟨by omega, by omega⟩, rfl, ⟨⟨_, _, hH, hhw⟩, hB, hTJ, hEJ, hN, ⟨_, ⟨_, _, _, _, _, _, _, _, _, _, hKS⟩, hco⟩, ⟨_, _, _, hPS, hLK0⟩, hSP, hV5, ⟨_, hSL⟩, hRW, hJ, hFJ, hWJ, ⟨_, _, hOV, hovn, hovh⟩⟩⟩)
set_option maxHeartbeats 1000000 in
theorem zc_call_1ar {d n sl : Nat} {φ : FH} {tp : Nat → Nat} {lf : Nat} {mi : Nat} {made : Nat} {sv : Nat} {svm : Nat} {comb : Nat → Nat} {hm : Nat → MV} {sc : Nat → Nat} {sm : Nat → MV} {mh : MV} {noted : Nat} {verd : Nat} {ins : Nat → Nat} {ver : Nat → Nat} {sz : Nat} {bw : Nat → Nat} {x : Nat} {s4 s7 i j : Nat}  (hG : zG φ 0 tp lf mi made sv svm comb hm sc sm mh noted verd ins ver sz bw) (hn0 : 486 ≤ n) (hpv : ∀ i, x_pv2 (hm i)) (hmi : mi + 300 ≤ 20000) (hx32 : x < 4294967296) (hf0 : x >>> 4 = s4) (hf1 : s4 &&& 7 = i) (hf2 : x >>> 7 = s7) (hf3 : s7 &&& 7 = j) (hf4 : x &&& 15 = 1) (hf5 : i &&& 1 = 0) (hi : i < 8) (hj : j < 8) (hroom : made < 40) : x_f x_P (d + 6) 4 [(6, 0, 0), (0, x, 0), (11, 0, 0), (11, 0, 0), (11, 0, 0)] φ n sl (x_bR n sl 0 0 (fun zw φ2 => zw = (0, made, 0) ∧ zG φ2 0 tp lf mi (made + 1) sv svm (x_s comb made 3) (x_em made hm) sc sm mh noted verd ins ver sz bw)) := by
  refine x_f_of rfl ?_
  have hG0 := hG
  obtain ⟨⟨hand, ie, hH, hhw⟩, hB, hTJ, hEJ, hN, hKJ, ⟨A, B, s9, hPS, hLK0⟩, hSP, hV5, ⟨slq, hSL⟩, hRW, hJ, hFJ, hWJ, ⟨ovn, ovh, hOV, hovn, hovh⟩⟩ := hG
  refine x_n_lt (fun hlt0 => ?_)
  have hmade := x_PS_lt hPS
  obtain ⟨co, ⟨top_, fr_, pc_, mm, st, lo, re, rs, fl, se, hKS⟩, hco⟩ := hKJ
  refine q_load (v := (0, x, 0)) (p2 := 1) rfl rfl rfl rfl ?_
  refine q_const (p2 := 2) rfl rfl ?_
  refine q_iushrz (z := s4) (p2 := 3) rfl (by omega) hf0 rfl ?_
  refine q_const (p2 := 4) rfl rfl ?_
  refine q_iandz (z := i) (p2 := 5) rfl hf1 (by omega) rfl ?_
  refine q_store (loc2 := [(6, 0, 0), (0, x, 0), (0, i, 0), (11, 0, 0), (11, 0, 0)]) (p2 := 6) rfl rfl rfl rfl rfl ?_
  refine q_load (v := (0, x, 0)) (p2 := 7) rfl rfl rfl rfl ?_
  refine q_const (p2 := 8) rfl rfl ?_
  refine q_iushrz (z := s7) (p2 := 9) rfl (by omega) hf2 rfl ?_
  refine q_const (p2 := 10) rfl rfl ?_
  refine q_iandz (z := j) (p2 := 11) rfl hf3 (by omega) rfl ?_
  refine q_store (loc2 := [(6, 0, 0), (0, x, 0), (0, i, 0), (0, j, 0), (11, 0, 0)]) (p2 := 12) rfl rfl rfl rfl rfl ?_
  refine q_const (p2 := 13) rfl rfl ?_
  refine q_store (loc2 := [(6, 0, 0), (0, x, 0), (0, i, 0), (0, j, 0), (0, 1, 0)]) (p2 := 14) rfl rfl rfl rfl rfl ?_
  refine q_load (v := (0, x, 0)) (p2 := 15) rfl rfl rfl rfl ?_
  refine q_const (p2 := 16) rfl rfl ?_
  refine q_iandz (z := 1) (p2 := 17) rfl hf4 (by omega) rfl ?_
  refine q_switch (tgt := 28) rfl (by decide) rfl ?_
  refine q_load (v := (6, 0, 0)) (p2 := 29) rfl rfl rfl rfl ?_
  refine q_load (v := (0, i, 0)) (p2 := 30) rfl rfl rfl rfl ?_
  refine q_const (p2 := 31) rfl rfl ?_
  refine q_iandz (z := 0) (p2 := 32) rfl hf5 (by omega) rfl ?_
  refine q_if0_s (p2 := 33) rfl (by decide) (by omega) rfl (fun hb => absurd hb (show ¬ (¬ (0 = 0)) by omega)) (fun _ => ?_)
  refine q_const (p2 := 34) rfl rfl ?_
  refine q_goto rfl ?_
  have hGz1 : zG φ 0 tp lf mi made sv svm comb hm sc sm mh noted verd ins ver sz bw := ⟨⟨_, _, hH, hhw⟩, hB, hTJ, hEJ, hN, ⟨_, ⟨_, _, _, _, _, _, _, _, _, _, hKS⟩, hco⟩, ⟨_, _, _, hPS, hLK0⟩, hSP, hV5, ⟨_, hSL⟩, hRW, hJ, hFJ, hWJ, ⟨_, _, hOV, hovn, hovh⟩⟩
  refine q_callrB (xs := [(0, 3, 0), (6, 0, 0)]) (p2 := 37) rfl rfl rfl rfl (x_rcv_s 0 hH) rfl (zc_make_3  hGz1 (by omega) hpv (by omega) hroom) rfl (fun w1 φ1 n1 sl1 hn1 hN1 hs1 hT1 hR1 => ?_)
  obtain ⟨hwz1, hGr1⟩ := hR1
  subst hwz1
  have hG := hGr1
  skip
  obtain ⟨⟨hand, ie, hH, hhw⟩, hB, hTJ, hEJ, hN, hKJ, ⟨A, B, s9, hPS, hLK0⟩, hSP, hV5, ⟨slq, hSL⟩, hRW, hJ, hFJ, hWJ, ⟨ovn, ovh, hOV, hovn, hovh⟩⟩ := hG
  refine x_n_lt (fun hlt0 => ?_)
  have hmade := x_PS_lt hPS
  obtain ⟨co, ⟨top_, fr_, pc_, mm, st, lo, re, rs, fl, se, hKS⟩, hco⟩ := hKJ
  exact q_retv (v := (0, made, 0)) rfl rfl (⟨rfl, ⟨by omega, by omega⟩, ⟨by omega, by omega⟩, rfl, ⟨⟨_, _, hH, hhw⟩, hB, hTJ, hEJ, hN, ⟨_, ⟨_, _, _, _, _, _, _, _, _, _, hKS⟩, hco⟩, ⟨_, _, _, hPS, hLK0⟩, hSP, hV5, ⟨_, hSL⟩, hRW, hJ, hFJ, hWJ, ⟨_, _, hOV, hovn, hovh⟩⟩⟩)
set_option maxHeartbeats 1000000 in
theorem zc_call_1br {d n sl : Nat} {φ : FH} {tp : Nat → Nat} {lf : Nat} {mi : Nat} {made : Nat} {sv : Nat} {svm : Nat} {comb : Nat → Nat} {hm : Nat → MV} {sc : Nat → Nat} {sm : Nat → MV} {mh : MV} {noted : Nat} {verd : Nat} {ins : Nat → Nat} {ver : Nat → Nat} {sz : Nat} {bw : Nat → Nat} {x : Nat} {s4 s7 i j : Nat}  (hG : zG φ 0 tp lf mi made sv svm comb hm sc sm mh noted verd ins ver sz bw) (hn0 : 486 ≤ n) (hpv : ∀ i, x_pv2 (hm i)) (hmi : mi + 300 ≤ 20000) (hx32 : x < 4294967296) (hf0 : x >>> 4 = s4) (hf1 : s4 &&& 7 = i) (hf2 : x >>> 7 = s7) (hf3 : s7 &&& 7 = j) (hf4 : x &&& 15 = 1) (hf5 : i &&& 1 = 1) (hi : i < 8) (hj : j < 8) (hroom : made < 40) : x_f x_P (d + 6) 4 [(6, 0, 0), (0, x, 0), (11, 0, 0), (11, 0, 0), (11, 0, 0)] φ n sl (x_bR n sl 0 0 (fun zw φ2 => zw = (0, made, 0) ∧ zG φ2 0 tp lf mi (made + 1) sv svm (x_s comb made 5) (x_em made hm) sc sm mh noted verd ins ver sz bw)) := by
  refine x_f_of rfl ?_
  have hG0 := hG
  obtain ⟨⟨hand, ie, hH, hhw⟩, hB, hTJ, hEJ, hN, hKJ, ⟨A, B, s9, hPS, hLK0⟩, hSP, hV5, ⟨slq, hSL⟩, hRW, hJ, hFJ, hWJ, ⟨ovn, ovh, hOV, hovn, hovh⟩⟩ := hG
  refine x_n_lt (fun hlt0 => ?_)
  have hmade := x_PS_lt hPS
  obtain ⟨co, ⟨top_, fr_, pc_, mm, st, lo, re, rs, fl, se, hKS⟩, hco⟩ := hKJ
  refine q_load (v := (0, x, 0)) (p2 := 1) rfl rfl rfl rfl ?_
  refine q_const (p2 := 2) rfl rfl ?_
  refine q_iushrz (z := s4) (p2 := 3) rfl (by omega) hf0 rfl ?_
  refine q_const (p2 := 4) rfl rfl ?_
  refine q_iandz (z := i) (p2 := 5) rfl hf1 (by omega) rfl ?_
  refine q_store (loc2 := [(6, 0, 0), (0, x, 0), (0, i, 0), (11, 0, 0), (11, 0, 0)]) (p2 := 6) rfl rfl rfl rfl rfl ?_
  refine q_load (v := (0, x, 0)) (p2 := 7) rfl rfl rfl rfl ?_
  refine q_const (p2 := 8) rfl rfl ?_
  refine q_iushrz (z := s7) (p2 := 9) rfl (by omega) hf2 rfl ?_
  refine q_const (p2 := 10) rfl rfl ?_
  refine q_iandz (z := j) (p2 := 11) rfl hf3 (by omega) rfl ?_
  refine q_store (loc2 := [(6, 0, 0), (0, x, 0), (0, i, 0), (0, j, 0), (11, 0, 0)]) (p2 := 12) rfl rfl rfl rfl rfl ?_
  refine q_const (p2 := 13) rfl rfl ?_
  refine q_store (loc2 := [(6, 0, 0), (0, x, 0), (0, i, 0), (0, j, 0), (0, 1, 0)]) (p2 := 14) rfl rfl rfl rfl rfl ?_
  refine q_load (v := (0, x, 0)) (p2 := 15) rfl rfl rfl rfl ?_
  refine q_const (p2 := 16) rfl rfl ?_
  refine q_iandz (z := 1) (p2 := 17) rfl hf4 (by omega) rfl ?_
  refine q_switch (tgt := 28) rfl (by decide) rfl ?_
  refine q_load (v := (6, 0, 0)) (p2 := 29) rfl rfl rfl rfl ?_
  refine q_load (v := (0, i, 0)) (p2 := 30) rfl rfl rfl rfl ?_
  refine q_const (p2 := 31) rfl rfl ?_
  refine q_iandz (z := 1) (p2 := 32) rfl hf5 (by omega) rfl ?_
  refine q_if0_s (p2 := 33) rfl (by decide) (by omega) rfl (fun _ => ?_) (fun hb => absurd (show ¬ (1 = 0) by omega) hb)
  refine q_const (p2 := 36) rfl rfl ?_
  have hGz1 : zG φ 0 tp lf mi made sv svm comb hm sc sm mh noted verd ins ver sz bw := ⟨⟨_, _, hH, hhw⟩, hB, hTJ, hEJ, hN, ⟨_, ⟨_, _, _, _, _, _, _, _, _, _, hKS⟩, hco⟩, ⟨_, _, _, hPS, hLK0⟩, hSP, hV5, ⟨_, hSL⟩, hRW, hJ, hFJ, hWJ, ⟨_, _, hOV, hovn, hovh⟩⟩
  refine q_callrB (xs := [(0, 5, 0), (6, 0, 0)]) (p2 := 37) rfl rfl rfl rfl (x_rcv_s 0 hH) rfl (zc_make_5  hGz1 (by omega) hpv (by omega) hroom) rfl (fun w1 φ1 n1 sl1 hn1 hN1 hs1 hT1 hR1 => ?_)
  obtain ⟨hwz1, hGr1⟩ := hR1
  subst hwz1
  have hG := hGr1
  skip
  obtain ⟨⟨hand, ie, hH, hhw⟩, hB, hTJ, hEJ, hN, hKJ, ⟨A, B, s9, hPS, hLK0⟩, hSP, hV5, ⟨slq, hSL⟩, hRW, hJ, hFJ, hWJ, ⟨ovn, ovh, hOV, hovn, hovh⟩⟩ := hG
  refine x_n_lt (fun hlt0 => ?_)
  have hmade := x_PS_lt hPS
  obtain ⟨co, ⟨top_, fr_, pc_, mm, st, lo, re, rs, fl, se, hKS⟩, hco⟩ := hKJ
  exact q_retv (v := (0, made, 0)) rfl rfl (⟨rfl, ⟨by omega, by omega⟩, ⟨by omega, by omega⟩, rfl, ⟨⟨_, _, hH, hhw⟩, hB, hTJ, hEJ, hN, ⟨_, ⟨_, _, _, _, _, _, _, _, _, _, hKS⟩, hco⟩, ⟨_, _, _, hPS, hLK0⟩, hSP, hV5, ⟨_, hSL⟩, hRW, hJ, hFJ, hWJ, ⟨_, _, hOV, hovn, hovh⟩⟩⟩)
set_option maxHeartbeats 1000000 in
theorem zc_call_0bf {d n sl : Nat} {φ : FH} {tp : Nat → Nat} {lf : Nat} {mi : Nat} {made : Nat} {sv : Nat} {svm : Nat} {comb : Nat → Nat} {hm : Nat → MV} {sc : Nat → Nat} {sm : Nat → MV} {mh : MV} {noted : Nat} {verd : Nat} {ins : Nat → Nat} {ver : Nat → Nat} {sz : Nat} {bw : Nat → Nat} {x : Nat} {s4 s7 i j : Nat}  (hG : zG φ 0 tp lf mi made sv svm comb hm sc sm mh noted verd ins ver sz bw) (hn0 : 486 ≤ n) (hpv : ∀ i, x_pv2 (hm i)) (hmi : mi + 300 ≤ 20000) (hx32 : x < 4294967296) (hf0 : x >>> 4 = s4) (hf1 : s4 &&& 7 = i) (hf2 : x >>> 7 = s7) (hf3 : s7 &&& 7 = j) (hf4 : x &&& 15 = 0) (hf5 : i &&& 1 = 1) (hi : i < 8) (hj : j < 8) (hroom : made = 40) : x_f x_P (d + 6) 4 [(6, 0, 0), (0, x, 0), (11, 0, 0), (11, 0, 0), (11, 0, 0)] φ n sl (x_bR n sl 0 0 (fun zw φ2 => zw = (0, 4294967294, 0) ∧ zG φ2 0 tp lf mi made sv svm comb hm sc sm mh noted verd ins ver sz bw)) := by
  refine x_f_of rfl ?_
  have hG0 := hG
  obtain ⟨⟨hand, ie, hH, hhw⟩, hB, hTJ, hEJ, hN, hKJ, ⟨A, B, s9, hPS, hLK0⟩, hSP, hV5, ⟨slq, hSL⟩, hRW, hJ, hFJ, hWJ, ⟨ovn, ovh, hOV, hovn, hovh⟩⟩ := hG
  refine x_n_lt (fun hlt0 => ?_)
  have hmade := x_PS_lt hPS
  obtain ⟨co, ⟨top_, fr_, pc_, mm, st, lo, re, rs, fl, se, hKS⟩, hco⟩ := hKJ
  refine q_load (v := (0, x, 0)) (p2 := 1) rfl rfl rfl rfl ?_
  refine q_const (p2 := 2) rfl rfl ?_
  refine q_iushrz (z := s4) (p2 := 3) rfl (by omega) hf0 rfl ?_
  refine q_const (p2 := 4) rfl rfl ?_
  refine q_iandz (z := i) (p2 := 5) rfl hf1 (by omega) rfl ?_
  refine q_store (loc2 := [(6, 0, 0), (0, x, 0), (0, i, 0), (11, 0, 0), (11, 0, 0)]) (p2 := 6) rfl rfl rfl rfl rfl ?_
  refine q_load (v := (0, x, 0)) (p2 := 7) rfl rfl rfl rfl ?_
  refine q_const (p2 := 8) rfl rfl ?_
  refine q_iushrz (z := s7) (p2 := 9) rfl (by omega) hf2 rfl ?_
  refine q_const (p2 := 10) rfl rfl ?_
  refine q_iandz (z := j) (p2 := 11) rfl hf3 (by omega) rfl ?_
  refine q_store (loc2 := [(6, 0, 0), (0, x, 0), (0, i, 0), (0, j, 0), (11, 0, 0)]) (p2 := 12) rfl rfl rfl rfl rfl ?_
  refine q_const (p2 := 13) rfl rfl ?_
  refine q_store (loc2 := [(6, 0, 0), (0, x, 0), (0, i, 0), (0, j, 0), (0, 1, 0)]) (p2 := 14) rfl rfl rfl rfl rfl ?_
  refine q_load (v := (0, x, 0)) (p2 := 15) rfl rfl rfl rfl ?_
  refine q_const (p2 := 16) rfl rfl ?_
  refine q_iandz (z := 0) (p2 := 17) rfl hf4 (by omega) rfl ?_
  refine q_switch (tgt := 18) rfl (by decide) rfl ?_
  refine q_load (v := (6, 0, 0)) (p2 := 19) rfl rfl rfl rfl ?_
  refine q_const (p2 := 20) rfl rfl ?_
  refine q_load (v := (0, i, 0)) (p2 := 21) rfl rfl rfl rfl ?_
  refine q_const (p2 := 22) rfl rfl ?_
  refine q_iandz (z := 1) (p2 := 23) rfl hf5 (by omega) rfl ?_
  refine q_const (p2 := 24) rfl rfl ?_
  refine q_iop (w := 1 * 2) (z := 2) (p2 := 25) rfl (xo_mul 1 2) (by decide) rfl ?_
  refine q_iop (w := 1 + 2) (z := 3) (p2 := 26) rfl (xo_add 1 2) (by decide) rfl ?_
  have hGz1 : zG φ 0 tp lf mi made sv svm comb hm sc sm mh noted verd ins ver sz bw := ⟨⟨_, _, hH, hhw⟩, hB, hTJ, hEJ, hN, ⟨_, ⟨_, _, _, _, _, _, _, _, _, _, hKS⟩, hco⟩, ⟨_, _, _, hPS, hLK0⟩, hSP, hV5, ⟨_, hSL⟩, hRW, hJ, hFJ, hWJ, ⟨_, _, hOV, hovn, hovh⟩⟩
  refine q_callrB (xs := [(0, 3, 0), (6, 0, 0)]) (p2 := 27) rfl rfl rfl rfl (x_rcv_s 0 hH) rfl (zc_make_3_full  hGz1 (by omega) hpv (by omega) hroom) rfl (fun w1 φ1 n1 sl1 hn1 hN1 hs1 hT1 hR1 => ?_)
  obtain ⟨hwz1, hGr1⟩ := hR1
  subst hwz1
  have hG := hGr1
  skip
  obtain ⟨⟨hand, ie, hH, hhw⟩, hB, hTJ, hEJ, hN, hKJ, ⟨A, B, s9, hPS, hLK0⟩, hSP, hV5, ⟨slq, hSL⟩, hRW, hJ, hFJ, hWJ, ⟨ovn, ovh, hOV, hovn, hovh⟩⟩ := hG
  refine x_n_lt (fun hlt0 => ?_)
  have hmade := x_PS_lt hPS
  obtain ⟨co, ⟨top_, fr_, pc_, mm, st, lo, re, rs, fl, se, hKS⟩, hco⟩ := hKJ
  exact q_retv (v := (0, 4294967294, 0)) rfl rfl (⟨rfl, ⟨by omega, by omega⟩, ⟨by omega, by omega⟩, rfl, ⟨⟨_, _, hH, hhw⟩, hB, hTJ, hEJ, hN, ⟨_, ⟨_, _, _, _, _, _, _, _, _, _, hKS⟩, hco⟩, ⟨_, _, _, hPS, hLK0⟩, hSP, hV5, ⟨_, hSL⟩, hRW, hJ, hFJ, hWJ, ⟨_, _, hOV, hovn, hovh⟩⟩⟩)
set_option maxHeartbeats 1000000 in
theorem zc_call_1af {d n sl : Nat} {φ : FH} {tp : Nat → Nat} {lf : Nat} {mi : Nat} {made : Nat} {sv : Nat} {svm : Nat} {comb : Nat → Nat} {hm : Nat → MV} {sc : Nat → Nat} {sm : Nat → MV} {mh : MV} {noted : Nat} {verd : Nat} {ins : Nat → Nat} {ver : Nat → Nat} {sz : Nat} {bw : Nat → Nat} {x : Nat} {s4 s7 i j : Nat}  (hG : zG φ 0 tp lf mi made sv svm comb hm sc sm mh noted verd ins ver sz bw) (hn0 : 486 ≤ n) (hpv : ∀ i, x_pv2 (hm i)) (hmi : mi + 300 ≤ 20000) (hx32 : x < 4294967296) (hf0 : x >>> 4 = s4) (hf1 : s4 &&& 7 = i) (hf2 : x >>> 7 = s7) (hf3 : s7 &&& 7 = j) (hf4 : x &&& 15 = 1) (hf5 : i &&& 1 = 0) (hi : i < 8) (hj : j < 8) (hroom : made = 40) : x_f x_P (d + 6) 4 [(6, 0, 0), (0, x, 0), (11, 0, 0), (11, 0, 0), (11, 0, 0)] φ n sl (x_bR n sl 0 0 (fun zw φ2 => zw = (0, 4294967294, 0) ∧ zG φ2 0 tp lf mi made sv svm comb hm sc sm mh noted verd ins ver sz bw)) := by
  refine x_f_of rfl ?_
  have hG0 := hG
  obtain ⟨⟨hand, ie, hH, hhw⟩, hB, hTJ, hEJ, hN, hKJ, ⟨A, B, s9, hPS, hLK0⟩, hSP, hV5, ⟨slq, hSL⟩, hRW, hJ, hFJ, hWJ, ⟨ovn, ovh, hOV, hovn, hovh⟩⟩ := hG
  refine x_n_lt (fun hlt0 => ?_)
  have hmade := x_PS_lt hPS
  obtain ⟨co, ⟨top_, fr_, pc_, mm, st, lo, re, rs, fl, se, hKS⟩, hco⟩ := hKJ
  refine q_load (v := (0, x, 0)) (p2 := 1) rfl rfl rfl rfl ?_
  refine q_const (p2 := 2) rfl rfl ?_
  refine q_iushrz (z := s4) (p2 := 3) rfl (by omega) hf0 rfl ?_
  refine q_const (p2 := 4) rfl rfl ?_
  refine q_iandz (z := i) (p2 := 5) rfl hf1 (by omega) rfl ?_
  refine q_store (loc2 := [(6, 0, 0), (0, x, 0), (0, i, 0), (11, 0, 0), (11, 0, 0)]) (p2 := 6) rfl rfl rfl rfl rfl ?_
  refine q_load (v := (0, x, 0)) (p2 := 7) rfl rfl rfl rfl ?_
  refine q_const (p2 := 8) rfl rfl ?_
  refine q_iushrz (z := s7) (p2 := 9) rfl (by omega) hf2 rfl ?_
  refine q_const (p2 := 10) rfl rfl ?_
  refine q_iandz (z := j) (p2 := 11) rfl hf3 (by omega) rfl ?_
  refine q_store (loc2 := [(6, 0, 0), (0, x, 0), (0, i, 0), (0, j, 0), (11, 0, 0)]) (p2 := 12) rfl rfl rfl rfl rfl ?_
  refine q_const (p2 := 13) rfl rfl ?_
  refine q_store (loc2 := [(6, 0, 0), (0, x, 0), (0, i, 0), (0, j, 0), (0, 1, 0)]) (p2 := 14) rfl rfl rfl rfl rfl ?_
  refine q_load (v := (0, x, 0)) (p2 := 15) rfl rfl rfl rfl ?_
  refine q_const (p2 := 16) rfl rfl ?_
  refine q_iandz (z := 1) (p2 := 17) rfl hf4 (by omega) rfl ?_
  refine q_switch (tgt := 28) rfl (by decide) rfl ?_
  refine q_load (v := (6, 0, 0)) (p2 := 29) rfl rfl rfl rfl ?_
  refine q_load (v := (0, i, 0)) (p2 := 30) rfl rfl rfl rfl ?_
  refine q_const (p2 := 31) rfl rfl ?_
  refine q_iandz (z := 0) (p2 := 32) rfl hf5 (by omega) rfl ?_
  refine q_if0_s (p2 := 33) rfl (by decide) (by omega) rfl (fun hb => absurd hb (show ¬ (¬ (0 = 0)) by omega)) (fun _ => ?_)
  refine q_const (p2 := 34) rfl rfl ?_
  refine q_goto rfl ?_
  have hGz1 : zG φ 0 tp lf mi made sv svm comb hm sc sm mh noted verd ins ver sz bw := ⟨⟨_, _, hH, hhw⟩, hB, hTJ, hEJ, hN, ⟨_, ⟨_, _, _, _, _, _, _, _, _, _, hKS⟩, hco⟩, ⟨_, _, _, hPS, hLK0⟩, hSP, hV5, ⟨_, hSL⟩, hRW, hJ, hFJ, hWJ, ⟨_, _, hOV, hovn, hovh⟩⟩
  refine q_callrB (xs := [(0, 3, 0), (6, 0, 0)]) (p2 := 37) rfl rfl rfl rfl (x_rcv_s 0 hH) rfl (zc_make_3_full  hGz1 (by omega) hpv (by omega) hroom) rfl (fun w1 φ1 n1 sl1 hn1 hN1 hs1 hT1 hR1 => ?_)
  obtain ⟨hwz1, hGr1⟩ := hR1
  subst hwz1
  have hG := hGr1
  skip
  obtain ⟨⟨hand, ie, hH, hhw⟩, hB, hTJ, hEJ, hN, hKJ, ⟨A, B, s9, hPS, hLK0⟩, hSP, hV5, ⟨slq, hSL⟩, hRW, hJ, hFJ, hWJ, ⟨ovn, ovh, hOV, hovn, hovh⟩⟩ := hG
  refine x_n_lt (fun hlt0 => ?_)
  have hmade := x_PS_lt hPS
  obtain ⟨co, ⟨top_, fr_, pc_, mm, st, lo, re, rs, fl, se, hKS⟩, hco⟩ := hKJ
  exact q_retv (v := (0, 4294967294, 0)) rfl rfl (⟨rfl, ⟨by omega, by omega⟩, ⟨by omega, by omega⟩, rfl, ⟨⟨_, _, hH, hhw⟩, hB, hTJ, hEJ, hN, ⟨_, ⟨_, _, _, _, _, _, _, _, _, _, hKS⟩, hco⟩, ⟨_, _, _, hPS, hLK0⟩, hSP, hV5, ⟨_, hSL⟩, hRW, hJ, hFJ, hWJ, ⟨_, _, hOV, hovn, hovh⟩⟩⟩)
set_option maxHeartbeats 1000000 in
theorem zc_call_1bf {d n sl : Nat} {φ : FH} {tp : Nat → Nat} {lf : Nat} {mi : Nat} {made : Nat} {sv : Nat} {svm : Nat} {comb : Nat → Nat} {hm : Nat → MV} {sc : Nat → Nat} {sm : Nat → MV} {mh : MV} {noted : Nat} {verd : Nat} {ins : Nat → Nat} {ver : Nat → Nat} {sz : Nat} {bw : Nat → Nat} {x : Nat} {s4 s7 i j : Nat}  (hG : zG φ 0 tp lf mi made sv svm comb hm sc sm mh noted verd ins ver sz bw) (hn0 : 486 ≤ n) (hpv : ∀ i, x_pv2 (hm i)) (hmi : mi + 300 ≤ 20000) (hx32 : x < 4294967296) (hf0 : x >>> 4 = s4) (hf1 : s4 &&& 7 = i) (hf2 : x >>> 7 = s7) (hf3 : s7 &&& 7 = j) (hf4 : x &&& 15 = 1) (hf5 : i &&& 1 = 1) (hi : i < 8) (hj : j < 8) (hroom : made = 40) : x_f x_P (d + 6) 4 [(6, 0, 0), (0, x, 0), (11, 0, 0), (11, 0, 0), (11, 0, 0)] φ n sl (x_bR n sl 0 0 (fun zw φ2 => zw = (0, 4294967294, 0) ∧ zG φ2 0 tp lf mi made sv svm comb hm sc sm mh noted verd ins ver sz bw)) := by
  refine x_f_of rfl ?_
  have hG0 := hG
  obtain ⟨⟨hand, ie, hH, hhw⟩, hB, hTJ, hEJ, hN, hKJ, ⟨A, B, s9, hPS, hLK0⟩, hSP, hV5, ⟨slq, hSL⟩, hRW, hJ, hFJ, hWJ, ⟨ovn, ovh, hOV, hovn, hovh⟩⟩ := hG
  refine x_n_lt (fun hlt0 => ?_)
  have hmade := x_PS_lt hPS
  obtain ⟨co, ⟨top_, fr_, pc_, mm, st, lo, re, rs, fl, se, hKS⟩, hco⟩ := hKJ
  refine q_load (v := (0, x, 0)) (p2 := 1) rfl rfl rfl rfl ?_
  refine q_const (p2 := 2) rfl rfl ?_
  refine q_iushrz (z := s4) (p2 := 3) rfl (by omega) hf0 rfl ?_
  refine q_const (p2 := 4) rfl rfl ?_
  refine q_iandz (z := i) (p2 := 5) rfl hf1 (by omega) rfl ?_
  refine q_store (loc2 := [(6, 0, 0), (0, x, 0), (0, i, 0), (11, 0, 0), (11, 0, 0)]) (p2 := 6) rfl rfl rfl rfl rfl ?_
  refine q_load (v := (0, x, 0)) (p2 := 7) rfl rfl rfl rfl ?_
  refine q_const (p2 := 8) rfl rfl ?_
  refine q_iushrz (z := s7) (p2 := 9) rfl (by omega) hf2 rfl ?_
  refine q_const (p2 := 10) rfl rfl ?_
  refine q_iandz (z := j) (p2 := 11) rfl hf3 (by omega) rfl ?_
  refine q_store (loc2 := [(6, 0, 0), (0, x, 0), (0, i, 0), (0, j, 0), (11, 0, 0)]) (p2 := 12) rfl rfl rfl rfl rfl ?_
  refine q_const (p2 := 13) rfl rfl ?_
  refine q_store (loc2 := [(6, 0, 0), (0, x, 0), (0, i, 0), (0, j, 0), (0, 1, 0)]) (p2 := 14) rfl rfl rfl rfl rfl ?_
  refine q_load (v := (0, x, 0)) (p2 := 15) rfl rfl rfl rfl ?_
  refine q_const (p2 := 16) rfl rfl ?_
  refine q_iandz (z := 1) (p2 := 17) rfl hf4 (by omega) rfl ?_
  refine q_switch (tgt := 28) rfl (by decide) rfl ?_
  refine q_load (v := (6, 0, 0)) (p2 := 29) rfl rfl rfl rfl ?_
  refine q_load (v := (0, i, 0)) (p2 := 30) rfl rfl rfl rfl ?_
  refine q_const (p2 := 31) rfl rfl ?_
  refine q_iandz (z := 1) (p2 := 32) rfl hf5 (by omega) rfl ?_
  refine q_if0_s (p2 := 33) rfl (by decide) (by omega) rfl (fun _ => ?_) (fun hb => absurd (show ¬ (1 = 0) by omega) hb)
  refine q_const (p2 := 36) rfl rfl ?_
  have hGz1 : zG φ 0 tp lf mi made sv svm comb hm sc sm mh noted verd ins ver sz bw := ⟨⟨_, _, hH, hhw⟩, hB, hTJ, hEJ, hN, ⟨_, ⟨_, _, _, _, _, _, _, _, _, _, hKS⟩, hco⟩, ⟨_, _, _, hPS, hLK0⟩, hSP, hV5, ⟨_, hSL⟩, hRW, hJ, hFJ, hWJ, ⟨_, _, hOV, hovn, hovh⟩⟩
  refine q_callrB (xs := [(0, 5, 0), (6, 0, 0)]) (p2 := 37) rfl rfl rfl rfl (x_rcv_s 0 hH) rfl (zc_make_5_full  hGz1 (by omega) hpv (by omega) hroom) rfl (fun w1 φ1 n1 sl1 hn1 hN1 hs1 hT1 hR1 => ?_)
  obtain ⟨hwz1, hGr1⟩ := hR1
  subst hwz1
  have hG := hGr1
  skip
  obtain ⟨⟨hand, ie, hH, hhw⟩, hB, hTJ, hEJ, hN, hKJ, ⟨A, B, s9, hPS, hLK0⟩, hSP, hV5, ⟨slq, hSL⟩, hRW, hJ, hFJ, hWJ, ⟨ovn, ovh, hOV, hovn, hovh⟩⟩ := hG
  refine x_n_lt (fun hlt0 => ?_)
  have hmade := x_PS_lt hPS
  obtain ⟨co, ⟨top_, fr_, pc_, mm, st, lo, re, rs, fl, se, hKS⟩, hco⟩ := hKJ
  exact q_retv (v := (0, 4294967294, 0)) rfl rfl (⟨rfl, ⟨by omega, by omega⟩, ⟨by omega, by omega⟩, rfl, ⟨⟨_, _, hH, hhw⟩, hB, hTJ, hEJ, hN, ⟨_, ⟨_, _, _, _, _, _, _, _, _, _, hKS⟩, hco⟩, ⟨_, _, _, hPS, hLK0⟩, hSP, hV5, ⟨_, hSL⟩, hRW, hJ, hFJ, hWJ, ⟨_, _, hOV, hovn, hovh⟩⟩⟩)
end FPOP74
