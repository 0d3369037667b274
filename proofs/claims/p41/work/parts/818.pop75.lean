section FPOP75
set_option maxHeartbeats 1000000 in
theorem zc_call_9_0 {d n sl : Nat} {φ : FH} {tp : Nat → Nat} {lf : Nat} {mi : Nat} {made : Nat} {sv : Nat} {svm : Nat} {comb : Nat → Nat} {hm : Nat → MV} {sc : Nat → Nat} {sm : Nat → MV} {mh : MV} {noted : Nat} {verd : Nat} {ins : Nat → Nat} {ver : Nat → Nat} {sz : Nat} {bw : Nat → Nat} {x s4 s7 i j : Nat} (hG : zG φ 0 tp lf mi made sv svm comb hm sc sm mh noted verd ins ver sz bw) (hn0 : 486 ≤ n) (hpv : ∀ i, x_pv2 (hm i)) (hmi : mi + 300 ≤ 20000) (hf0 : x >>> 4 = s4) (hf1 : s4 &&& 7 = i) (hf2 : x >>> 7 = s7) (hf3 : s7 &&& 7 = j) (hf4 : x &&& 15 = 9) (hf5 : s4 &&& 15 = 0) (hx32 : x < 4294967296) (hij : i < 8 ∧ j < 8) (hI0 : ∀ x, x < 40 → zI0 hm x) (hI1 : ∀ x, x < 40 → zI1 hm x) (hI3 : ∀ x, x < 40 → zI3 hm x) (hcb : ∀ x, x < made → comb x = 0 ∨ comb x = 3 ∨ comb x = 5) : x_f x_P (d + 7) 4 [(6, 0, 0), (0, x, 0), (11, 0, 0), (11, 0, 0), (11, 0, 0)] φ n sl (x_bR n sl 100 600 (fun zw φ2 => ∃ mi2 noted2 verd2 : Nat, ∃ ins2 ver2 : Nat → Nat, zw = (0, verd2, 0) ∧ mi2 ≤ mi + 100 ∧ JI (qN made comb hm) made noted2 verd2 ins2 ver2 ∧ zG φ2 0 tp lf mi2 made sv svm comb hm sc sm mh noted2 verd2 ins2 ver2 sz bw)) := by
  refine x_f_of rfl ?_
  have hG0 := hG
  obtain ⟨⟨hand, ie, hH, hhw⟩, hB, hTJ, hEJ, hN, hKJ, ⟨A, B, s9, hPS, hLK0⟩, hSP, hV5, ⟨slq, hSL⟩, hRW, hJ, hFJ, hWJ, ⟨ovn, ovh, hOV, hovn, hovh⟩⟩ := hG
  refine x_n_lt (fun hlt0 => ?_)
  have hmade := x_PS_lt hPS
  obtain ⟨co, ⟨top_, fr_, pc_, mm, st, lo, re, rs, fl, se, hKS⟩, hco⟩ := hKJ
  refine q_load (v := (0, x, 0)) (p2 := 1) rfl rfl rfl rfl ?_
  refine q_const (p2 := 2) rfl rfl ?_
  refine q_iushrz (z := s4) (p2 := 3) rfl (by omega) hf0 rfl ?_
  refine q_const (p2 := 4) rfl rfl ?_
  refine q_iandz (z := i) (p2 := 5) rfl hf1 (by omega) rfl ?_
  refine q_store (loc2 := [(6, 0, 0), (0, x, 0), (0, i, 0), (11, 0, 0), (11, 0, 0)]) (p2 := 6) rfl rfl rfl rfl rfl ?_
  refine q_load (v := (0, x, 0)) (p2 := 7) rfl rfl rfl rfl ?_
  refine q_const (p2 := 8) rfl rfl ?_
  refine q_iushrz (z := s7) (p2 := 9) rfl (by omega) hf2 rfl ?_
  refine q_const (p2 := 10) rfl rfl ?_
  refine q_iandz (z := j) (p2 := 11) rfl hf3 (by omega) rfl ?_
  refine q_store (loc2 := [(6, 0, 0), (0, x, 0), (0, i, 0), (0, j, 0), (11, 0, 0)]) (p2 := 12) rfl rfl rfl rfl rfl ?_
  refine q_const (p2 := 13) rfl rfl ?_
  refine q_store (loc2 := [(6, 0, 0), (0, x, 0), (0, i, 0), (0, j, 0), (0, 1, 0)]) (p2 := 14) rfl rfl rfl rfl rfl ?_
  refine q_load (v := (0, x, 0)) (p2 := 15) rfl rfl rfl rfl ?_
  refine q_const (p2 := 16) rfl rfl ?_
  refine q_iandz (z := 9) (p2 := 17) rfl hf4 (by omega) rfl ?_
  refine q_switch (tgt := 138) rfl (by decide) rfl ?_
  refine q_load (v := (6, 0, 0)) (p2 := 139) rfl rfl rfl rfl ?_
  refine q_load (v := (0, x, 0)) (p2 := 140) rfl rfl rfl rfl ?_
  refine q_const (p2 := 141) rfl rfl ?_
  refine q_iushrz (z := s4) (p2 := 142) rfl (by omega) hf0 rfl ?_
  refine q_const (p2 := 143) rfl rfl ?_
  refine q_iandz (z := 0) (p2 := 144) rfl hf5 (by omega) rfl ?_
  have hGz1 : zG φ 0 tp lf mi made sv svm comb hm sc sm mh noted verd ins ver sz bw := ⟨⟨_, _, hH, hhw⟩, hB, hTJ, hEJ, hN, ⟨_, ⟨_, _, _, _, _, _, _, _, _, _, hKS⟩, hco⟩, ⟨_, _, _, hPS, hLK0⟩, hSP, hV5, ⟨_, hSL⟩, hRW, hJ, hFJ, hWJ, ⟨_, _, hOV, hovn, hovh⟩⟩
  refine q_callrB (xs := [(0, 0, 0), (6, 0, 0)]) (p2 := 145) rfl rfl rfl rfl (x_rcv_s 0 hH) rfl (zc_judge_0 hGz1 (by omega) hpv (by omega) hI0 hI1 hI3 hcb) rfl (fun w1 φ1 n1 sl1 hn1 hN1 hs1 hT1 hR1 => ?_)
  obtain ⟨mi2, noted2, verd2, ins2, ver2, hw2, hmi2, hJI2, hGr⟩ := hR1
  subst hw2
  exact q_retv (v := (0, verd2, 0)) rfl rfl (⟨rfl, ⟨by omega, by omega⟩, ⟨by omega, by omega⟩, _, _, _, _, _, rfl, hmi2, hJI2, hGr⟩)
set_option maxHeartbeats 1000000 in
theorem zc_call_9_1 {d n sl : Nat} {φ : FH} {tp : Nat → Nat} {lf : Nat} {mi : Nat} {made : Nat} {sv : Nat} {svm : Nat} {comb : Nat → Nat} {hm : Nat → MV} {sc : Nat → Nat} {sm : Nat → MV} {mh : MV} {noted : Nat} {verd : Nat} {ins : Nat → Nat} {ver : Nat → Nat} {sz : Nat} {bw : Nat → Nat} {x s4 s7 i j : Nat} (hG : zG φ 0 tp lf mi made sv svm comb hm sc sm mh noted verd ins ver sz bw) (hn0 : 486 ≤ n) (hpv : ∀ i, x_pv2 (hm i)) (hmi : mi + 300 ≤ 20000) (hf0 : x >>> 4 = s4) (hf1 : s4 &&& 7 = i) (hf2 : x >>> 7 = s7) (hf3 : s7 &&& 7 = j) (hf4 : x &&& 15 = 9) (hf5 : s4 &&& 15 = 1) (hx32 : x < 4294967296) (hij : i < 8 ∧ j < 8) (hI0 : ∀ x, x < 40 → zI0 hm x) (hI1 : ∀ x, x < 40 → zI1 hm x) (hI3 : ∀ x, x < 40 → zI3 hm x) (hcb : ∀ x, x < made → comb x = 0 ∨ comb x = 3 ∨ comb x = 5) : x_f x_P (d + 7) 4 [(6, 0, 0), (0, x, 0), (11, 0, 0), (11, 0, 0), (11, 0, 0)] φ n sl (x_bR n sl 100 600 (fun zw φ2 => ∃ mi2 noted2 verd2 : Nat, ∃ ins2 ver2 : Nat → Nat, zw = (0, verd2, 0) ∧ mi2 ≤ mi + 100 ∧ JI (qN made comb hm) made noted2 verd2 ins2 ver2 ∧ zG φ2 0 tp lf mi2 made sv svm comb hm sc sm mh noted2 verd2 ins2 ver2 sz bw)) := by
  refine x_f_of rfl ?_
  have hG0 := hG
  obtain ⟨⟨hand, ie, hH, hhw⟩, hB, hTJ, hEJ, hN, hKJ, ⟨A, B, s9, hPS, hLK0⟩, hSP, hV5, ⟨slq, hSL⟩, hRW, hJ, hFJ, hWJ, ⟨ovn, ovh, hOV, hovn, hovh⟩⟩ := hG
  refine x_n_lt (fun hlt0 => ?_)
  have hmade := x_PS_lt hPS
  obtain ⟨co, ⟨top_, fr_, pc_, mm, st, lo, re, rs, fl, se, hKS⟩, hco⟩ := hKJ
  refine q_load (v := (0, x, 0)) (p2 := 1) rfl rfl rfl rfl ?_
  refine q_const (p2 := 2) rfl rfl ?_
  refine q_iushrz (z := s4) (p2 := 3) rfl (by omega) hf0 rfl ?_
  refine q_const (p2 := 4) rfl rfl ?_
  refine q_iandz (z := i) (p2 := 5) rfl hf1 (by omega) rfl ?_
  refine q_store (loc2 := [(6, 0, 0), (0, x, 0), (0, i, 0), (11, 0, 0), (11, 0, 0)]) (p2 := 6) rfl rfl rfl rfl rfl ?_
  refine q_load (v := (0, x, 0)) (p2 := 7) rfl rfl rfl rfl ?_
  refine q_const (p2 := 8) rfl rfl ?_
  refine q_iushrz (z := s7) (p2 := 9) rfl (by omega) hf2 rfl ?_
  refine q_const (p2 := 10) rfl rfl ?_
  refine q_iandz (z := j) (p2 := 11) rfl hf3 (by omega) rfl ?_
  refine q_store (loc2 := [(6, 0, 0), (0, x, 0), (0, i, 0), (0, j, 0), (11, 0, 0)]) (p2 := 12) rfl rfl rfl rfl rfl ?_
  refine q_const (p2 := 13) rfl rfl ?_
  refine q_store (loc2 := [(6, 0, 0), (0, x, 0), (0, i, 0), (0, j, 0), (0, 1, 0)]) (p2 := 14) rfl rfl rfl rfl rfl ?_
  refine q_load (v := (0, x, 0)) (p2 := 15) rfl rfl rfl rfl ?_
  refine q_const (p2 := 16) rfl rfl ?_
  refine q_iandz (z := 9) (p2 := 17) rfl hf4 (by omega) rfl ?_
  refine q_switch (tgt := 138) rfl (by decide) rfl ?_
  refine q_load (v := (6, 0, 0)) (p2 := 139) rfl rfl rfl rfl ?_
  refine q_load (v := (0, x, 0)) (p2 := 140) rfl rfl rfl rfl ?_
  refine q_const (p2 := 141) rfl rfl ?_
  refine q_iushrz (z := s4) (p2 := 142) rfl (by omega) hf0 rfl ?_
  refine q_const (p2 := 143) rfl rfl ?_
  refine q_iandz (z := 1) (p2 := 144) rfl hf5 (by omega) rfl ?_
  have hGz1 : zG φ 0 tp lf mi made sv svm comb hm sc sm mh noted verd ins ver sz bw := ⟨⟨_, _, hH, hhw⟩, hB, hTJ, hEJ, hN, ⟨_, ⟨_, _, _, _, _, _, _, _, _, _, hKS⟩, hco⟩, ⟨_, _, _, hPS, hLK0⟩, hSP, hV5, ⟨_, hSL⟩, hRW, hJ, hFJ, hWJ, ⟨_, _, hOV, hovn, hovh⟩⟩
  refine q_callrB (xs := [(0, 1, 0), (6, 0, 0)]) (p2 := 145) rfl rfl rfl rfl (x_rcv_s 0 hH) rfl (zc_judge_1 hGz1 (by omega) hpv (by omega) hI0 hI1 hI3 hcb) rfl (fun w1 φ1 n1 sl1 hn1 hN1 hs1 hT1 hR1 => ?_)
  obtain ⟨mi2, noted2, verd2, ins2, ver2, hw2, hmi2, hJI2, hGr⟩ := hR1
  subst hw2
  exact q_retv (v := (0, verd2, 0)) rfl rfl (⟨rfl, ⟨by omega, by omega⟩, ⟨by omega, by omega⟩, _, _, _, _, _, rfl, hmi2, hJI2, hGr⟩)
set_option maxHeartbeats 1000000 in
theorem zc_call_9_2 {d n sl : Nat} {φ : FH} {tp : Nat → Nat} {lf : Nat} {mi : Nat} {made : Nat} {sv : Nat} {svm : Nat} {comb : Nat → Nat} {hm : Nat → MV} {sc : Nat → Nat} {sm : Nat → MV} {mh : MV} {noted : Nat} {verd : Nat} {ins : Nat → Nat} {ver : Nat → Nat} {sz : Nat} {bw : Nat → Nat} {x s4 s7 i j : Nat} (hG : zG φ 0 tp lf mi made sv svm comb hm sc sm mh noted verd ins ver sz bw) (hn0 : 486 ≤ n) (hpv : ∀ i, x_pv2 (hm i)) (hmi : mi + 300 ≤ 20000) (hf0 : x >>> 4 = s4) (hf1 : s4 &&& 7 = i) (hf2 : x >>> 7 = s7) (hf3 : s7 &&& 7 = j) (hf4 : x &&& 15 = 9) (hf5 : s4 &&& 15 = 2) (hx32 : x < 4294967296) (hij : i < 8 ∧ j < 8) (hI0 : ∀ x, x < 40 → zI0 hm x) (hI1 : ∀ x, x < 40 → zI1 hm x) (hI3 : ∀ x, x < 40 → zI3 hm x) (hcb : ∀ x, x < made → comb x = 0 ∨ comb x = 3 ∨ comb x = 5) : x_f x_P (d + 7) 4 [(6, 0, 0), (0, x, 0), (11, 0, 0), (11, 0, 0), (11, 0, 0)] φ n sl (x_bR n sl 100 600 (fun zw φ2 => ∃ mi2 noted2 verd2 : Nat, ∃ ins2 ver2 : Nat → Nat, zw = (0, verd2, 0) ∧ mi2 ≤ mi + 100 ∧ JI (qN made comb hm) made noted2 verd2 ins2 ver2 ∧ zG φ2 0 tp lf mi2 made sv svm comb hm sc sm mh noted2 verd2 ins2 ver2 sz bw)) := by
  refine x_f_of rfl ?_
  have hG0 := hG
  obtain ⟨⟨hand, ie, hH, hhw⟩, hB, hTJ, hEJ, hN, hKJ, ⟨A, B, s9, hPS, hLK0⟩, hSP, hV5, ⟨slq, hSL⟩, hRW, hJ, hFJ, hWJ, ⟨ovn, ovh, hOV, hovn, hovh⟩⟩ := hG
  refine x_n_lt (fun hlt0 => ?_)
  have hmade := x_PS_lt hPS
  obtain ⟨co, ⟨top_, fr_, pc_, mm, st, lo, re, rs, fl, se, hKS⟩, hco⟩ := hKJ
  refine q_load (v := (0, x, 0)) (p2 := 1) rfl rfl rfl rfl ?_
  refine q_const (p2 := 2) rfl rfl ?_
  refine q_iushrz (z := s4) (p2 := 3) rfl (by omega) hf0 rfl ?_
  refine q_const (p2 := 4) rfl rfl ?_
  refine q_iandz (z := i) (p2 := 5) rfl hf1 (by omega) rfl ?_
  refine q_store (loc2 := [(6, 0, 0), (0, x, 0), (0, i, 0), (11, 0, 0), (11, 0, 0)]) (p2 := 6) rfl rfl rfl rfl rfl ?_
  refine q_load (v := (0, x, 0)) (p2 := 7) rfl rfl rfl rfl ?_
  refine q_const (p2 := 8) rfl rfl ?_
  refine q_iushrz (z := s7) (p2 := 9) rfl (by omega) hf2 rfl ?_
  refine q_const (p2 := 10) rfl rfl ?_
  refine q_iandz (z := j) (p2 := 11) rfl hf3 (by omega) rfl ?_
  refine q_store (loc2 := [(6, 0, 0), (0, x, 0), (0, i, 0), (0, j, 0), (11, 0, 0)]) (p2 := 12) rfl rfl rfl rfl rfl ?_
  refine q_const (p2 := 13) rfl rfl ?_
  refine q_store (loc2 := [(6, 0, 0), (0, x, 0), (0, i, 0), (0, j, 0), (0, 1, 0)]) (p2 := 14) rfl rfl rfl rfl rfl ?_
  refine q_load (v := (0, x, 0)) (p2 := 15) rfl rfl rfl rfl ?_
  refine q_const (p2 := 16) rfl rfl ?_
  refine q_iandz (z := 9) (p2 := 17) rfl hf4 (by omega) rfl ?_
  refine q_switch (tgt := 138) rfl (by decide) rfl ?_
  refine q_load (v := (6, 0, 0)) (p2 := 139) rfl rfl rfl rfl ?_
  refine q_load (v := (0, x, 0)) (p2 := 140) rfl rfl rfl rfl ?_
  refine q_const (p2 := 141) rfl rfl ?_
  refine q_iushrz (z := s4) (p2 := 142) rfl (by omega) hf0 rfl ?_
  refine q_const (p2 := 143) rfl rfl ?_
  refine q_iandz (z := 2) (p2 := 144) rfl hf5 (by omega) rfl ?_
  have hGz1 : zG φ 0 tp lf mi made sv svm comb hm sc sm mh noted verd ins ver sz bw := ⟨⟨_, _, hH, hhw⟩, hB, hTJ, hEJ, hN, ⟨_, ⟨_, _, _, _, _, _, _, _, _, _, hKS⟩, hco⟩, ⟨_, _, _, hPS, hLK0⟩, hSP, hV5, ⟨_, hSL⟩, hRW, hJ, hFJ, hWJ, ⟨_, _, hOV, hovn, hovh⟩⟩
  refine q_callrB (xs := [(0, 2, 0), (6, 0, 0)]) (p2 := 145) rfl rfl rfl rfl (x_rcv_s 0 hH) rfl (zc_judge_2 hGz1 (by omega) hpv (by omega) hI0 hI1 hI3 hcb) rfl (fun w1 φ1 n1 sl1 hn1 hN1 hs1 hT1 hR1 => ?_)
  obtain ⟨mi2, noted2, verd2, ins2, ver2, hw2, hmi2, hJI2, hGr⟩ := hR1
  subst hw2
  exact q_retv (v := (0, verd2, 0)) rfl rfl (⟨rfl, ⟨by omega, by omega⟩, ⟨by omega, by omega⟩, _, _, _, _, _, rfl, hmi2, hJI2, hGr⟩)
set_option maxHeartbeats 1000000 in
theorem zc_call_9_3 {d n sl : Nat} {φ : FH} {tp : Nat → Nat} {lf : Nat} {mi : Nat} {made : Nat} {sv : Nat} {svm : Nat} {comb : Nat → Nat} {hm : Nat → MV} {sc : Nat → Nat} {sm : Nat → MV} {mh : MV} {noted : Nat} {verd : Nat} {ins : Nat → Nat} {ver : Nat → Nat} {sz : Nat} {bw : Nat → Nat} {x s4 s7 i j : Nat} (hG : zG φ 0 tp lf mi made sv svm comb hm sc sm mh noted verd ins ver sz bw) (hn0 : 486 ≤ n) (hpv : ∀ i, x_pv2 (hm i)) (hmi : mi + 300 ≤ 20000) (hf0 : x >>> 4 = s4) (hf1 : s4 &&& 7 = i) (hf2 : x >>> 7 = s7) (hf3 : s7 &&& 7 = j) (hf4 : x &&& 15 = 9) (hf5 : s4 &&& 15 = 3) (hx32 : x < 4294967296) (hij : i < 8 ∧ j < 8) (hI0 : ∀ x, x < 40 → zI0 hm x) (hI1 : ∀ x, x < 40 → zI1 hm x) (hI3 : ∀ x, x < 40 → zI3 hm x) (hcb : ∀ x, x < made → comb x = 0 ∨ comb x = 3 ∨ comb x = 5) : x_f x_P (d + 7) 4 [(6, 0, 0), (0, x, 0), (11, 0, 0), (11, 0, 0), (11, 0, 0)] φ n sl (x_bR n sl 100 600 (fun zw φ2 => ∃ mi2 noted2 verd2 : Nat, ∃ ins2 ver2 : Nat → Nat, zw = (0, verd2, 0) ∧ mi2 ≤ mi + 100 ∧ JI (qN made comb hm) made noted2 verd2 ins2 ver2 ∧ zG φ2 0 tp lf mi2 made sv svm comb hm sc sm mh noted2 verd2 ins2 ver2 sz bw)) := by
  refine x_f_of rfl ?_
  have hG0 := hG
  obtain ⟨⟨hand, ie, hH, hhw⟩, hB, hTJ, hEJ, hN, hKJ, ⟨A, B, s9, hPS, hLK0⟩, hSP, hV5, ⟨slq, hSL⟩, hRW, hJ, hFJ, hWJ, ⟨ovn, ovh, hOV, hovn, hovh⟩⟩ := hG
  refine x_n_lt (fun hlt0 => ?_)
  have hmade := x_PS_lt hPS
  obtain ⟨co, ⟨top_, fr_, pc_, mm, st, lo, re, rs, fl, se, hKS⟩, hco⟩ := hKJ
  refine q_load (v := (0, x, 0)) (p2 := 1) rfl rfl rfl rfl ?_
  refine q_const (p2 := 2) rfl rfl ?_
  refine q_iushrz (z := s4) (p2 := 3) rfl (by omega) hf0 rfl ?_
  refine q_const (p2 := 4) rfl rfl ?_
  refine q_iandz (z := i) (p2 := 5) rfl hf1 (by omega) rfl ?_
  refine q_store (loc2 := [(6, 0, 0), (0, x, 0), (0, i, 0), (11, 0, 0), (11, 0, 0)]) (p2 := 6) rfl rfl rfl rfl rfl ?_
  refine q_load (v := (0, x, 0)) (p2 := 7) rfl rfl rfl rfl ?_
  refine q_const (p2 := 8) rfl rfl ?_
  refine q_iushrz (z := s7) (p2 := 9) rfl (by omega) hf2 rfl ?_
  refine q_const (p2 := 10) rfl rfl ?_
  refine q_iandz (z := j) (p2 := 11) rfl hf3 (by omega) rfl ?_
  refine q_store (loc2 := [(6, 0, 0), (0, x, 0), (0, i, 0), (0, j, 0), (11, 0, 0)]) (p2 := 12) rfl rfl rfl rfl rfl ?_
  refine q_const (p2 := 13) rfl rfl ?_
  refine q_store (loc2 := [(6, 0, 0), (0, x, 0), (0, i, 0), (0, j, 0), (0, 1, 0)]) (p2 := 14) rfl rfl rfl rfl rfl ?_
  refine q_load (v := (0, x, 0)) (p2 := 15) rfl rfl rfl rfl ?_
  refine q_const (p2 := 16) rfl rfl ?_
  refine q_iandz (z := 9) (p2 := 17) rfl hf4 (by omega) rfl ?_
  refine q_switch (tgt := 138) rfl (by decide) rfl ?_
  refine q_load (v := (6, 0, 0)) (p2 := 139) rfl rfl rfl rfl ?_
  refine q_load (v := (0, x, 0)) (p2 := 140) rfl rfl rfl rfl ?_
  refine q_const (p2 := 141) rfl rfl ?_
  refine q_iushrz (z := s4) (p2 := 142) rfl (by omega) hf0 rfl ?_
  refine q_const (p2 := 143) rfl rfl ?_
  refine q_iandz (z := 3) (p2 := 144) rfl hf5 (by omega) rfl ?_
  have hGz1 : zG φ 0 tp lf mi made sv svm comb hm sc sm mh noted verd ins ver sz bw := ⟨⟨_, _, hH, hhw⟩, hB, hTJ, hEJ, hN, ⟨_, ⟨_, _, _, _, _, _, _, _, _, _, hKS⟩, hco⟩, ⟨_, _, _, hPS, hLK0⟩, hSP, hV5, ⟨_, hSL⟩, hRW, hJ, hFJ, hWJ, ⟨_, _, hOV, hovn, hovh⟩⟩
  refine q_callrB (xs := [(0, 3, 0), (6, 0, 0)]) (p2 := 145) rfl rfl rfl rfl (x_rcv_s 0 hH) rfl (zc_judge_3 hGz1 (by omega) hpv (by omega) hI0 hI1 hI3 hcb) rfl (fun w1 φ1 n1 sl1 hn1 hN1 hs1 hT1 hR1 => ?_)
  obtain ⟨mi2, noted2, verd2, ins2, ver2, hw2, hmi2, hJI2, hGr⟩ := hR1
  subst hw2
  exact q_retv (v := (0, verd2, 0)) rfl rfl (⟨rfl, ⟨by omega, by omega⟩, ⟨by omega, by omega⟩, _, _, _, _, _, rfl, hmi2, hJI2, hGr⟩)
set_option maxHeartbeats 1000000 in
theorem zc_call_9_4 {d n sl : Nat} {φ : FH} {tp : Nat → Nat} {lf : Nat} {mi : Nat} {made : Nat} {sv : Nat} {svm : Nat} {comb : Nat → Nat} {hm : Nat → MV} {sc : Nat → Nat} {sm : Nat → MV} {mh : MV} {noted : Nat} {verd : Nat} {ins : Nat → Nat} {ver : Nat → Nat} {sz : Nat} {bw : Nat → Nat} {x s4 s7 i j : Nat} (hG : zG φ 0 tp lf mi made sv svm comb hm sc sm mh noted verd ins ver sz bw) (hn0 : 486 ≤ n) (hpv : ∀ i, x_pv2 (hm i)) (hmi : mi + 300 ≤ 20000) (hf0 : x >>> 4 = s4) (hf1 : s4 &&& 7 = i) (hf2 : x >>> 7 = s7) (hf3 : s7 &&& 7 = j) (hf4 : x &&& 15 = 9) (hf5 : s4 &&& 15 = 4) (hx32 : x < 4294967296) (hij : i < 8 ∧ j < 8) (hI0 : ∀ x, x < 40 → zI0 hm x) (hI1 : ∀ x, x < 40 → zI1 hm x) (hI3 : ∀ x, x < 40 → zI3 hm x) (hcb : ∀ x, x < made → comb x = 0 ∨ comb x = 3 ∨ comb x = 5) : x_f x_P (d + 7) 4 [(6, 0, 0), (0, x, 0), (11, 0, 0), (11, 0, 0), (11, 0, 0)] φ n sl (x_bR n sl 100 600 (fun zw φ2 => ∃ mi2 noted2 verd2 : Nat, ∃ ins2 ver2 : Nat → Nat, zw = (0, verd2, 0) ∧ mi2 ≤ mi + 100 ∧ JI (qN made comb hm) made noted2 verd2 ins2 ver2 ∧ zG φ2 0 tp lf mi2 made sv svm comb hm sc sm mh noted2 verd2 ins2 ver2 sz bw)) := by
  refine x_f_of rfl ?_
  have hG0 := hG
  obtain ⟨⟨hand, ie, hH, hhw⟩, hB, hTJ, hEJ, hN, hKJ, ⟨A, B, s9, hPS, hLK0⟩, hSP, hV5, ⟨slq, hSL⟩, hRW, hJ, hFJ, hWJ, ⟨ovn, ovh, hOV, hovn, hovh⟩⟩ := hG
  refine x_n_lt (fun hlt0 => ?_)
  have hmade := x_PS_lt hPS
  obtain ⟨co, ⟨top_, fr_, pc_, mm, st, lo, re, rs, fl, se, hKS⟩, hco⟩ := hKJ
  refine q_load (v := (0, x, 0)) (p2 := 1) rfl rfl rfl rfl ?_
  refine q_const (p2 := 2) rfl rfl ?_
  refine q_iushrz (z := s4) (p2 := 3) rfl (by omega) hf0 rfl ?_
  refine q_const (p2 := 4) rfl rfl ?_
  refine q_iandz (z := i) (p2 := 5) rfl hf1 (by omega) rfl ?_
  refine q_store (loc2 := [(6, 0, 0), (0, x, 0), (0, i, 0), (11, 0, 0), (11, 0, 0)]) (p2 := 6) rfl rfl rfl rfl rfl ?_
  refine q_load (v := (0, x, 0)) (p2 := 7) rfl rfl rfl rfl ?_
  refine q_const (p2 := 8) rfl rfl ?_
  refine q_iushrz (z := s7) (p2 := 9) rfl (by omega) hf2 rfl ?_
  refine q_const (p2 := 10) rfl rfl ?_
  refine q_iandz (z := j) (p2 := 11) rfl hf3 (by omega) rfl ?_
  refine q_store (loc2 := [(6, 0, 0), (0, x, 0), (0, i, 0), (0, j, 0), (11, 0, 0)]) (p2 := 12) rfl rfl rfl rfl rfl ?_
  refine q_const (p2 := 13) rfl rfl ?_
  refine q_store (loc2 := [(6, 0, 0), (0, x, 0), (0, i, 0), (0, j, 0), (0, 1, 0)]) (p2 := 14) rfl rfl rfl rfl rfl ?_
  refine q_load (v := (0, x, 0)) (p2 := 15) rfl rfl rfl rfl ?_
  refine q_const (p2 := 16) rfl rfl ?_
  refine q_iandz (z := 9) (p2 := 17) rfl hf4 (by omega) rfl ?_
  refine q_switch (tgt := 138) rfl (by decide) rfl ?_
  refine q_load (v := (6, 0, 0)) (p2 := 139) rfl rfl rfl rfl ?_
  refine q_load (v := (0, x, 0)) (p2 := 140) rfl rfl rfl rfl ?_
  refine q_const (p2 := 141) rfl rfl ?_
  refine q_iushrz (z := s4) (p2 := 142) rfl (by omega) hf0 rfl ?_
  refine q_const (p2 := 143) rfl rfl ?_
  refine q_iandz (z := 4) (p2 := 144) rfl hf5 (by omega) rfl ?_
  have hGz1 : zG φ 0 tp lf mi made sv svm comb hm sc sm mh noted verd ins ver sz bw := ⟨⟨_, _, hH, hhw⟩, hB, hTJ, hEJ, hN, ⟨_, ⟨_, _, _, _, _, _, _, _, _, _, hKS⟩, hco⟩, ⟨_, _, _, hPS, hLK0⟩, hSP, hV5, ⟨_, hSL⟩, hRW, hJ, hFJ, hWJ, ⟨_, _, hOV, hovn, hovh⟩⟩
  refine q_callrB (xs := [(0, 4, 0), (6, 0, 0)]) (p2 := 145) rfl rfl rfl rfl (x_rcv_s 0 hH) rfl (zc_judge_4 hGz1 (by omega) hpv (by omega) hI0 hI1 hI3 hcb) rfl (fun w1 φ1 n1 sl1 hn1 hN1 hs1 hT1 hR1 => ?_)
  obtain ⟨mi2, noted2, verd2, ins2, ver2, hw2, hmi2, hJI2, hGr⟩ := hR1
  subst hw2
  exact q_retv (v := (0, verd2, 0)) rfl rfl (⟨rfl, ⟨by omega, by omega⟩, ⟨by omega, by omega⟩, _, _, _, _, _, rfl, hmi2, hJI2, hGr⟩)
set_option maxHeartbeats 1000000 in
theorem zc_call_9_5 {d n sl : Nat} {φ : FH} {tp : Nat → Nat} {lf : Nat} {mi : Nat} {made : Nat} {sv : Nat} {svm : Nat} {comb : Nat → Nat} {hm : Nat → MV} {sc : Nat → Nat} {sm : Nat → MV} {mh : MV} {noted : Nat} {verd : Nat} {ins : Nat → Nat} {ver : Nat → Nat} {sz : Nat} {bw : Nat → Nat} {x s4 s7 i j : Nat} (hG : zG φ 0 tp lf mi made sv svm comb hm sc sm mh noted verd ins ver sz bw) (hn0 : 486 ≤ n) (hpv : ∀ i, x_pv2 (hm i)) (hmi : mi + 300 ≤ 20000) (hf0 : x >>> 4 = s4) (hf1 : s4 &&& 7 = i) (hf2 : x >>> 7 = s7) (hf3 : s7 &&& 7 = j) (hf4 : x &&& 15 = 9) (hf5 : s4 &&& 15 = 5) (hx32 : x < 4294967296) (hij : i < 8 ∧ j < 8) (hI0 : ∀ x, x < 40 → zI0 hm x) (hI1 : ∀ x, x < 40 → zI1 hm x) (hI3 : ∀ x, x < 40 → zI3 hm x) (hcb : ∀ x, x < made → comb x = 0 ∨ comb x = 3 ∨ comb x = 5) : x_f x_P (d + 7) 4 [(6, 0, 0), (0, x, 0), (11, 0, 0), (11, 0, 0), (11, 0, 0)] φ n sl (x_bR n sl 100 600 (fun zw φ2 => ∃ mi2 noted2 verd2 : Nat, ∃ ins2 ver2 : Nat → Nat, zw = (0, verd2, 0) ∧ mi2 ≤ mi + 100 ∧ JI (qN made comb hm) made noted2 verd2 ins2 ver2 ∧ zG φ2 0 tp lf mi2 made sv svm comb hm sc sm mh noted2 verd2 ins2 ver2 sz bw)) := by
  refine x_f_of rfl ?_
  have hG0 := hG
  obtain ⟨⟨hand, ie, hH, hhw⟩, hB, hTJ, hEJ, hN, hKJ, ⟨A, B, s9, hPS, hLK0⟩, hSP, hV5, ⟨slq, hSL⟩, hRW, hJ, hFJ, hWJ, ⟨ovn, ovh, hOV, hovn, hovh⟩⟩ := hG
  refine x_n_lt (fun hlt0 => ?_)
  have hmade := x_PS_lt hPS
  obtain ⟨co, ⟨top_, fr_, pc_, mm, st, lo, re, rs, fl, se, hKS⟩, hco⟩ := hKJ
  refine q_load (v := (0, x, 0)) (p2 := 1) rfl rfl rfl rfl ?_
  refine q_const (p2 := 2) rfl rfl ?_
  refine q_iushrz (z := s4) (p2 := 3) rfl (by omega) hf0 rfl ?_
  refine q_const (p2 := 4) rfl rfl ?_
  refine q_iandz (z := i) (p2 := 5) rfl hf1 (by omega) rfl ?_
  refine q_store (loc2 := [(6, 0, 0), (0, x, 0), (0, i, 0), (11, 0, 0), (11, 0, 0)]) (p2 := 6) rfl rfl rfl rfl rfl ?_
  refine q_load (v := (0, x, 0)) (p2 := 7) rfl rfl rfl rfl ?_
  refine q_const (p2 := 8) rfl rfl ?_
  refine q_iushrz (z := s7) (p2 := 9) rfl (by omega) hf2 rfl ?_
  refine q_const (p2 := 10) rfl rfl ?_
  refine q_iandz (z := j) (p2 := 11) rfl hf3 (by omega) rfl ?_
  refine q_store (loc2 := [(6, 0, 0), (0, x, 0), (0, i, 0), (0, j, 0), (11, 0, 0)]) (p2 := 12) rfl rfl rfl rfl rfl ?_
  refine q_const (p2 := 13) rfl rfl ?_
  refine q_store (loc2 := [(6, 0, 0), (0, x, 0), (0, i, 0), (0, j, 0), (0, 1, 0)]) (p2 := 14) rfl rfl rfl rfl rfl ?_
  refine q_load (v := (0, x, 0)) (p2 := 15) rfl rfl rfl rfl ?_
  refine q_const (p2 := 16) rfl rfl ?_
  refine q_iandz (z := 9) (p2 := 17) rfl hf4 (by omega) rfl ?_
  refine q_switch (tgt := 138) rfl (by decide) rfl ?_
  refine q_load (v := (6, 0, 0)) (p2 := 139) rfl rfl rfl rfl ?_
  refine q_load (v := (0, x, 0)) (p2 := 140) rfl rfl rfl rfl ?_
  refine q_const (p2 := 141) rfl rfl ?_
  refine q_iushrz (z := s4) (p2 := 142) rfl (by omega) hf0 rfl ?_
  refine q_const (p2 := 143) rfl rfl ?_
  refine q_iandz (z := 5) (p2 := 144) rfl hf5 (by omega) rfl ?_
  have hGz1 : zG φ 0 tp lf mi made sv svm comb hm sc sm mh noted verd ins ver sz bw := ⟨⟨_, _, hH, hhw⟩, hB, hTJ, hEJ, hN, ⟨_, ⟨_, _, _, _, _, _, _, _, _, _, hKS⟩, hco⟩, ⟨_, _, _, hPS, hLK0⟩, hSP, hV5, ⟨_, hSL⟩, hRW, hJ, hFJ, hWJ, ⟨_, _, hOV, hovn, hovh⟩⟩
  refine q_callrB (xs := [(0, 5, 0), (6, 0, 0)]) (p2 := 145) rfl rfl rfl rfl (x_rcv_s 0 hH) rfl (zc_judge_5 hGz1 (by omega) hpv (by omega) hI0 hI1 hI3 hcb) rfl (fun w1 φ1 n1 sl1 hn1 hN1 hs1 hT1 hR1 => ?_)
  obtain ⟨mi2, noted2, verd2, ins2, ver2, hw2, hmi2, hJI2, hGr⟩ := hR1
  subst hw2
  exact q_retv (v := (0, verd2, 0)) rfl rfl (⟨rfl, ⟨by omega, by omega⟩, ⟨by omega, by omega⟩, _, _, _, _, _, rfl, hmi2, hJI2, hGr⟩)
set_option maxHeartbeats 1000000 in
theorem zc_call_9_6 {d n sl : Nat} {φ : FH} {tp : Nat → Nat} {lf : Nat} {mi : Nat} {made : Nat} {sv : Nat} {svm : Nat} {comb : Nat → Nat} {hm : Nat → MV} {sc : Nat → Nat} {sm : Nat → MV} {mh : MV} {noted : Nat} {verd : Nat} {ins : Nat → Nat} {ver : Nat → Nat} {sz : Nat} {bw : Nat → Nat} {x s4 s7 i j : Nat} (hG : zG φ 0 tp lf mi made sv svm comb hm sc sm mh noted verd ins ver sz bw) (hn0 : 486 ≤ n) (hpv : ∀ i, x_pv2 (hm i)) (hmi : mi + 300 ≤ 20000) (hf0 : x >>> 4 = s4) (hf1 : s4 &&& 7 = i) (hf2 : x >>> 7 = s7) (hf3 : s7 &&& 7 = j) (hf4 : x &&& 15 = 9) (hf5 : s4 &&& 15 = 6) (hx32 : x < 4294967296) (hij : i < 8 ∧ j < 8) (hI0 : ∀ x, x < 40 → zI0 hm x) (hI1 : ∀ x, x < 40 → zI1 hm x) (hI3 : ∀ x, x < 40 → zI3 hm x) (hcb : ∀ x, x < made → comb x = 0 ∨ comb x = 3 ∨ comb x = 5) : x_f x_P (d + 7) 4 [(6, 0, 0), (0, x, 0), (11, 0, 0), (11, 0, 0), (11, 0, 0)] φ n sl (x_bR n sl 100 600 (fun zw φ2 => ∃ mi2 noted2 verd2 : Nat, ∃ ins2 ver2 : Nat → Nat, zw = (0, verd2, 0) ∧ mi2 ≤ mi + 100 ∧ JI (q6 made comb hm) made noted2 verd2 ins2 ver2 ∧ zG φ2 0 tp lf mi2 made sv svm comb hm sc sm mh noted2 verd2 ins2 ver2 sz bw)) := by
  refine x_f_of rfl ?_
  have hG0 := hG
  obtain ⟨⟨hand, ie, hH, hhw⟩, hB, hTJ, hEJ, hN, hKJ, ⟨A, B, s9, hPS, hLK0⟩, hSP, hV5, ⟨slq, hSL⟩, hRW, hJ, hFJ, hWJ, ⟨ovn, ovh, hOV, hovn, hovh⟩⟩ := hG
  refine x_n_lt (fun hlt0 => ?_)
  have hmade := x_PS_lt hPS
  obtain ⟨co, ⟨top_, fr_, pc_, mm, st, lo, re, rs, fl, se, hKS⟩, hco⟩ := hKJ
  refine q_load (v := (0, x, 0)) (p2 := 1) rfl rfl rfl rfl ?_
  refine q_const (p2 := 2) rfl rfl ?_
  refine q_iushrz (z := s4) (p2 := 3) rfl (by omega) hf0 rfl ?_
  refine q_const (p2 := 4) rfl rfl ?_
  refine q_iandz (z := i) (p2 := 5) rfl hf1 (by omega) rfl ?_
  refine q_store (loc2 := [(6, 0, 0), (0, x, 0), (0, i, 0), (11, 0, 0), (11, 0, 0)]) (p2 := 6) rfl rfl rfl rfl rfl ?_
  refine q_load (v := (0, x, 0)) (p2 := 7) rfl rfl rfl rfl ?_
  refine q_const (p2 := 8) rfl rfl ?_
  refine q_iushrz (z := s7) (p2 := 9) rfl (by omega) hf2 rfl ?_
  refine q_const (p2 := 10) rfl rfl ?_
  refine q_iandz (z := j) (p2 := 11) rfl hf3 (by omega) rfl ?_
  refine q_store (loc2 := [(6, 0, 0), (0, x, 0), (0, i, 0), (0, j, 0), (11, 0, 0)]) (p2 := 12) rfl rfl rfl rfl rfl ?_
  refine q_const (p2 := 13) rfl rfl ?_
  refine q_store (loc2 := [(6, 0, 0), (0, x, 0), (0, i, 0), (0, j, 0), (0, 1, 0)]) (p2 := 14) rfl rfl rfl rfl rfl ?_
  refine q_load (v := (0, x, 0)) (p2 := 15) rfl rfl rfl rfl ?_
  refine q_const (p2 := 16) rfl rfl ?_
  refine q_iandz (z := 9) (p2 := 17) rfl hf4 (by omega) rfl ?_
  refine q_switch (tgt := 138) rfl (by decide) rfl ?_
  refine q_load (v := (6, 0, 0)) (p2 := 139) rfl rfl rfl rfl ?_
  refine q_load (v := (0, x, 0)) (p2 := 140) rfl rfl rfl rfl ?_
  refine q_const (p2 := 141) rfl rfl ?_
  refine q_iushrz (z := s4) (p2 := 142) rfl (by omega) hf0 rfl ?_
  refine q_const (p2 := 143) rfl rfl ?_
  refine q_iandz (z := 6) (p2 := 144) rfl hf5 (by omega) rfl ?_
  have hGz1 : zG φ 0 tp lf mi made sv svm comb hm sc sm mh noted verd ins ver sz bw := ⟨⟨_, _, hH, hhw⟩, hB, hTJ, hEJ, hN, ⟨_, ⟨_, _, _, _, _, _, _, _, _, _, hKS⟩, hco⟩, ⟨_, _, _, hPS, hLK0⟩, hSP, hV5, ⟨_, hSL⟩, hRW, hJ, hFJ, hWJ, ⟨_, _, hOV, hovn, hovh⟩⟩
  refine q_callrB (xs := [(0, 6, 0), (6, 0, 0)]) (p2 := 145) rfl rfl rfl rfl (x_rcv_s 0 hH) rfl (zc_judge_6 hGz1 (by omega) hpv (by omega) hI0 hI1 hI3 hcb) rfl (fun w1 φ1 n1 sl1 hn1 hN1 hs1 hT1 hR1 => ?_)
  obtain ⟨mi2, noted2, verd2, ins2, ver2, hw2, hmi2, hJI2, hGr⟩ := hR1
  subst hw2
  exact q_retv (v := (0, verd2, 0)) rfl rfl (⟨rfl, ⟨by omega, by omega⟩, ⟨by omega, by omega⟩, _, _, _, _, _, rfl, hmi2, hJI2, hGr⟩)
set_option maxHeartbeats 1000000 in
theorem zc_call_9_7 {d n sl : Nat} {φ : FH} {tp : Nat → Nat} {lf : Nat} {mi : Nat} {made : Nat} {sv : Nat} {svm : Nat} {comb : Nat → Nat} {hm : Nat → MV} {sc : Nat → Nat} {sm : Nat → MV} {mh : MV} {noted : Nat} {verd : Nat} {ins : Nat → Nat} {ver : Nat → Nat} {sz : Nat} {bw : Nat → Nat} {x s4 s7 i j : Nat} (hG : zG φ 0 tp lf mi made sv svm comb hm sc sm mh noted verd ins ver sz bw) (hn0 : 486 ≤ n) (hpv : ∀ i, x_pv2 (hm i)) (hmi : mi + 300 ≤ 20000) (hf0 : x >>> 4 = s4) (hf1 : s4 &&& 7 = i) (hf2 : x >>> 7 = s7) (hf3 : s7 &&& 7 = j) (hf4 : x &&& 15 = 9) (hf5 : s4 &&& 15 = 7) (hx32 : x < 4294967296) (hij : i < 8 ∧ j < 8) (hI0 : ∀ x, x < 40 → zI0 hm x) (hI1 : ∀ x, x < 40 → zI1 hm x) (hI3 : ∀ x, x < 40 → zI3 hm x) (hcb : ∀ x, x < made → comb x = 0 ∨ comb x = 3 ∨ comb x = 5) : x_f x_P (d + 7) 4 [(6, 0, 0), (0, x, 0), (11, 0, 0), (11, 0, 0), (11, 0, 0)] φ n sl (x_bR n sl 100 600 (fun zw φ2 => ∃ mi2 noted2 verd2 : Nat, ∃ ins2 ver2 : Nat → Nat, zw = (0, verd2, 0) ∧ mi2 ≤ mi + 100 ∧ JI (qN made comb hm) made noted2 verd2 ins2 ver2 ∧ zG φ2 0 tp lf mi2 made sv svm comb hm sc sm mh noted2 verd2 ins2 ver2 sz bw)) := by
  refine x_f_of rfl ?_
  have hG0 := hG
  obtain ⟨⟨hand, ie, hH, hhw⟩, hB, hTJ, hEJ, hN, hKJ, ⟨A, B, s9, hPS, hLK0⟩, hSP, hV5, ⟨slq, hSL⟩, hRW, hJ, hFJ, hWJ, ⟨ovn, ovh, hOV, hovn, hovh⟩⟩ := hG
  refine x_n_lt (fun hlt0 => ?_)
  have hmade := x_PS_lt hPS
  obtain ⟨co, ⟨top_, fr_, pc_, mm, st, lo, re, rs, fl, se, hKS⟩, hco⟩ := hKJ
  refine q_load (v := (0, x, 0)) (p2 := 1) rfl rfl rfl rfl ?_
  refine q_const (p2 := 2) rfl rfl ?_
  refine q_iushrz (z := s4) (p2 := 3) rfl (by omega) hf0 rfl ?_
  refine q_const (p2 := 4) rfl rfl ?_
  refine q_iandz (z := i) (p2 := 5) rfl hf1 (by omega) rfl ?_
  refine q_store (loc2 := [(6, 0, 0), (0, x, 0), (0, i, 0), (11, 0, 0), (11, 0, 0)]) (p2 := 6) rfl rfl rfl rfl rfl ?_
  refine q_load (v := (0, x, 0)) (p2 := 7) rfl rfl rfl rfl ?_
  refine q_const (p2 := 8) rfl rfl ?_
  refine q_iushrz (z := s7) (p2 := 9) rfl (by omega) hf2 rfl ?_
  refine q_const (p2 := 10) rfl rfl ?_
  refine q_iandz (z := j) (p2 := 11) rfl hf3 (by omega) rfl ?_
  refine q_store (loc2 := [(6, 0, 0), (0, x, 0), (0, i, 0), (0, j, 0), (11, 0, 0)]) (p2 := 12) rfl rfl rfl rfl rfl ?_
  refine q_const (p2 := 13) rfl rfl ?_
  refine q_store (loc2 := [(6, 0, 0), (0, x, 0), (0, i, 0), (0, j, 0), (0, 1, 0)]) (p2 := 14) rfl rfl rfl rfl rfl ?_
  refine q_load (v := (0, x, 0)) (p2 := 15) rfl rfl rfl rfl ?_
  refine q_const (p2 := 16) rfl rfl ?_
  refine q_iandz (z := 9) (p2 := 17) rfl hf4 (by omega) rfl ?_
  refine q_switch (tgt := 138) rfl (by decide) rfl ?_
  refine q_load (v := (6, 0, 0)) (p2 := 139) rfl rfl rfl rfl ?_
  refine q_load (v := (0, x, 0)) (p2 := 140) rfl rfl rfl rfl ?_
  refine q_const (p2 := 141) rfl rfl ?_
  refine q_iushrz (z := s4) (p2 := 142) rfl (by omega) hf0 rfl ?_
  refine q_const (p2 := 143) rfl rfl ?_
  refine q_iandz (z := 7) (p2 := 144) rfl hf5 (by omega) rfl ?_
  have hGz1 : zG φ 0 tp lf mi made sv svm comb hm sc sm mh noted verd ins ver sz bw := ⟨⟨_, _, hH, hhw⟩, hB, hTJ, hEJ, hN, ⟨_, ⟨_, _, _, _, _, _, _, _, _, _, hKS⟩, hco⟩, ⟨_, _, _, hPS, hLK0⟩, hSP, hV5, ⟨_, hSL⟩, hRW, hJ, hFJ, hWJ, ⟨_, _, hOV, hovn, hovh⟩⟩
  refine q_callrB (xs := [(0, 7, 0), (6, 0, 0)]) (p2 := 145) rfl rfl rfl rfl (x_rcv_s 0 hH) rfl (zc_judge_7 hGz1 (by omega) hpv (by omega) hI0 hI1 hI3 hcb) rfl (fun w1 φ1 n1 sl1 hn1 hN1 hs1 hT1 hR1 => ?_)
  obtain ⟨mi2, noted2, verd2, ins2, ver2, hw2, hmi2, hJI2, hGr⟩ := hR1
  subst hw2
  exact q_retv (v := (0, verd2, 0)) rfl rfl (⟨rfl, ⟨by omega, by omega⟩, ⟨by omega, by omega⟩, _, _, _, _, _, rfl, hmi2, hJI2, hGr⟩)
set_option maxHeartbeats 1000000 in
theorem zc_call_9_8 {d n sl : Nat} {φ : FH} {tp : Nat → Nat} {lf : Nat} {mi : Nat} {made : Nat} {sv : Nat} {svm : Nat} {comb : Nat → Nat} {hm : Nat → MV} {sc : Nat → Nat} {sm : Nat → MV} {mh : MV} {noted : Nat} {verd : Nat} {ins : Nat → Nat} {ver : Nat → Nat} {sz : Nat} {bw : Nat → Nat} {x s4 s7 i j : Nat} (hG : zG φ 0 tp lf mi made sv svm comb hm sc sm mh noted verd ins ver sz bw) (hn0 : 486 ≤ n) (hpv : ∀ i, x_pv2 (hm i)) (hmi : mi + 300 ≤ 20000) (hf0 : x >>> 4 = s4) (hf1 : s4 &&& 7 = i) (hf2 : x >>> 7 = s7) (hf3 : s7 &&& 7 = j) (hf4 : x &&& 15 = 9) (hf5 : s4 &&& 15 = 8) (hx32 : x < 4294967296) (hij : i < 8 ∧ j < 8) (hI0 : ∀ x, x < 40 → zI0 hm x) (hI1 : ∀ x, x < 40 → zI1 hm x) (hI3 : ∀ x, x < 40 → zI3 hm x) (hcb : ∀ x, x < made → comb x = 0 ∨ comb x = 3 ∨ comb x = 5) : x_f x_P (d + 9) 4 [(6, 0, 0), (0, x, 0), (11, 0, 0), (11, 0, 0), (11, 0, 0)] φ n sl (x_bR n sl 100 600 (fun zw φ2 => ∃ mi2 noted2 verd2 : Nat, ∃ ins2 ver2 : Nat → Nat, zw = (0, verd2, 0) ∧ mi2 ≤ mi + 100 ∧ JI (q8 made comb hm) made noted2 verd2 ins2 ver2 ∧ zG φ2 0 tp lf mi2 made sv svm comb hm sc sm mh noted2 verd2 ins2 ver2 sz bw)) := by
  refine x_f_of rfl ?_
  have hG0 := hG
  obtain ⟨⟨hand, ie, hH, hhw⟩, hB, hTJ, hEJ, hN, hKJ, ⟨A, B, s9, hPS, hLK0⟩, hSP, hV5, ⟨slq, hSL⟩, hRW, hJ, hFJ, hWJ, ⟨ovn, ovh, hOV, hovn, hovh⟩⟩ := hG
  refine x_n_lt (fun hlt0 => ?_)
  have hmade := x_PS_lt hPS
  obtain ⟨co, ⟨top_, fr_, pc_, mm, st, lo, re, rs, fl, se, hKS⟩, hco⟩ := hKJ
  refine q_load (v := (0, x, 0)) (p2 := 1) rfl rfl rfl rfl ?_
  refine q_const (p2 := 2) rfl rfl ?_
  refine q_iushrz (z := s4) (p2 := 3) rfl (by omega) hf0 rfl ?_
  refine q_const (p2 := 4) rfl rfl ?_
  refine q_iandz (z := i) (p2 := 5) rfl hf1 (by omega) rfl ?_
  refine q_store (loc2 := [(6, 0, 0), (0, x, 0), (0, i, 0), (11, 0, 0), (11, 0, 0)]) (p2 := 6) rfl rfl rfl rfl rfl ?_
  refine q_load (v := (0, x, 0)) (p2 := 7) rfl rfl rfl rfl ?_
  refine q_const (p2 := 8) rfl rfl ?_
  refine q_iushrz (z := s7) (p2 := 9) rfl (by omega) hf2 rfl ?_
  refine q_const (p2 := 10) rfl rfl ?_
  refine q_iandz (z := j) (p2 := 11) rfl hf3 (by omega) rfl ?_
  refine q_store (loc2 := [(6, 0, 0), (0, x, 0), (0, i, 0), (0, j, 0), (11, 0, 0)]) (p2 := 12) rfl rfl rfl rfl rfl ?_
  refine q_const (p2 := 13) rfl rfl ?_
  refine q_store (loc2 := [(6, 0, 0), (0, x, 0), (0, i, 0), (0, j, 0), (0, 1, 0)]) (p2 := 14) rfl rfl rfl rfl rfl ?_
  refine q_load (v := (0, x, 0)) (p2 := 15) rfl rfl rfl rfl ?_
  refine q_const (p2 := 16) rfl rfl ?_
  refine q_iandz (z := 9) (p2 := 17) rfl hf4 (by omega) rfl ?_
  refine q_switch (tgt := 138) rfl (by decide) rfl ?_
  refine q_load (v := (6, 0, 0)) (p2 := 139) rfl rfl rfl rfl ?_
  refine q_load (v := (0, x, 0)) (p2 := 140) rfl rfl rfl rfl ?_
  refine q_const (p2 := 141) rfl rfl ?_
  refine q_iushrz (z := s4) (p2 := 142) rfl (by omega) hf0 rfl ?_
  refine q_const (p2 := 143) rfl rfl ?_
  refine q_iandz (z := 8) (p2 := 144) rfl hf5 (by omega) rfl ?_
  have hGz1 : zG φ 0 tp lf mi made sv svm comb hm sc sm mh noted verd ins ver sz bw := ⟨⟨_, _, hH, hhw⟩, hB, hTJ, hEJ, hN, ⟨_, ⟨_, _, _, _, _, _, _, _, _, _, hKS⟩, hco⟩, ⟨_, _, _, hPS, hLK0⟩, hSP, hV5, ⟨_, hSL⟩, hRW, hJ, hFJ, hWJ, ⟨_, _, hOV, hovn, hovh⟩⟩
  refine q_callrB (xs := [(0, 8, 0), (6, 0, 0)]) (p2 := 145) rfl rfl rfl rfl (x_rcv_s 0 hH) rfl (zc_judge_8 hGz1 (by omega) hpv (by omega) hI0 hI1 hI3 hcb) rfl (fun w1 φ1 n1 sl1 hn1 hN1 hs1 hT1 hR1 => ?_)
  obtain ⟨mi2, noted2, verd2, ins2, ver2, hw2, hmi2, hJI2, hGr⟩ := hR1
  subst hw2
  exact q_retv (v := (0, verd2, 0)) rfl rfl (⟨rfl, ⟨by omega, by omega⟩, ⟨by omega, by omega⟩, _, _, _, _, _, rfl, hmi2, hJI2, hGr⟩)
set_option maxHeartbeats 1000000 in
theorem zc_call_9_bad {d n sl : Nat} {φ : FH} {tp : Nat → Nat} {lf : Nat} {mi : Nat} {made : Nat} {sv : Nat} {svm : Nat} {comb : Nat → Nat} {hm : Nat → MV} {sc : Nat → Nat} {sm : Nat → MV} {mh : MV} {noted : Nat} {verd : Nat} {ins : Nat → Nat} {ver : Nat → Nat} {sz : Nat} {bw : Nat → Nat} {x : Nat} {s4 s7 i j : Nat} {r : Nat} (hG : zG φ 0 tp lf mi made sv svm comb hm sc sm mh noted verd ins ver sz bw) (hn0 : 486 ≤ n) (hpv : ∀ i, x_pv2 (hm i)) (hmi : mi + 300 ≤ 20000) (hx32 : x < 4294967296) (hf0 : x >>> 4 = s4) (hf1 : s4 &&& 7 = i) (hf2 : x >>> 7 = s7) (hf3 : s7 &&& 7 = j) (hf4 : x &&& 15 = 9) (hf5 : s4 &&& 15 = r) (hi : i < 8) (hj : j < 8) (hr : 9 ≤ r ∧ r < 16) : x_f x_P (d + 3) 4 [(6, 0, 0), (0, x, 0), (11, 0, 0), (11, 0, 0), (11, 0, 0)] φ n sl (x_bR n sl 0 0 (fun zw φ2 => ∃ tpZ : Nat → Nat, zw = (0, 4294967295, 0) ∧ zG φ2 0 tpZ lf mi made sv svm comb hm sc sm mh noted verd ins ver sz bw)) := by
  refine x_f_of rfl ?_
  have hG0 := hG
  obtain ⟨⟨hand, ie, hH, hhw⟩, hB, hTJ, hEJ, hN, hKJ, ⟨A, B, s9, hPS, hLK0⟩, hSP, hV5, ⟨slq, hSL⟩, hRW, hJ, hFJ, hWJ, ⟨ovn, ovh, hOV, hovn, hovh⟩⟩ := hG
  refine x_n_lt (fun hlt0 => ?_)
  have hmade := x_PS_lt hPS
  obtain ⟨co, ⟨top_, fr_, pc_, mm, st, lo, re, rs, fl, se, hKS⟩, hco⟩ := hKJ
  refine q_load (v := (0, x, 0)) (p2 := 1) rfl rfl rfl rfl ?_
  refine q_const (p2 := 2) rfl rfl ?_
  refine q_iushrz (z := s4) (p2 := 3) rfl (by omega) hf0 rfl ?_
  refine q_const (p2 := 4) rfl rfl ?_
  refine q_iandz (z := i) (p2 := 5) rfl hf1 (by omega) rfl ?_
  refine q_store (loc2 := [(6, 0, 0), (0, x, 0), (0, i, 0), (11, 0, 0), (11, 0, 0)]) (p2 := 6) rfl rfl rfl rfl rfl ?_
  refine q_load (v := (0, x, 0)) (p2 := 7) rfl rfl rfl rfl ?_
  refine q_const (p2 := 8) rfl rfl ?_
  refine q_iushrz (z := s7) (p2 := 9) rfl (by omega) hf2 rfl ?_
  refine q_const (p2 := 10) rfl rfl ?_
  refine q_iandz (z := j) (p2 := 11) rfl hf3 (by omega) rfl ?_
  refine q_store (loc2 := [(6, 0, 0), (0, x, 0), (0, i, 0), (0, j, 0), (11, 0, 0)]) (p2 := 12) rfl rfl rfl rfl rfl ?_
  refine q_const (p2 := 13) rfl rfl ?_
  refine q_store (loc2 := [(6, 0, 0), (0, x, 0), (0, i, 0), (0, j, 0), (0, 1, 0)]) (p2 := 14) rfl rfl rfl rfl rfl ?_
  refine q_load (v := (0, x, 0)) (p2 := 15) rfl rfl rfl rfl ?_
  refine q_const (p2 := 16) rfl rfl ?_
  refine q_iandz (z := 9) (p2 := 17) rfl hf4 (by omega) rfl ?_
  refine q_switch (tgt := 138) rfl (by decide) rfl ?_
  refine q_load (v := (6, 0, 0)) (p2 := 139) rfl rfl rfl rfl ?_
  refine q_load (v := (0, x, 0)) (p2 := 140) rfl rfl rfl rfl ?_
  refine q_const (p2 := 141) rfl rfl ?_
  refine q_iushrz (z := s4) (p2 := 142) rfl (by omega) hf0 rfl ?_
  refine q_const (p2 := 143) rfl rfl ?_
  refine q_iandz (z := r) (p2 := 144) rfl hf5 (by omega) rfl ?_
  have hGz1 : zG φ 0 tp lf mi made sv svm comb hm sc sm mh noted verd ins ver sz bw := ⟨⟨_, _, hH, hhw⟩, hB, hTJ, hEJ, hN, ⟨_, ⟨_, _, _, _, _, _, _, _, _, _, hKS⟩, hco⟩, ⟨_, _, _, hPS, hLK0⟩, hSP, hV5, ⟨_, hSL⟩, hRW, hJ, hFJ, hWJ, ⟨_, _, hOV, hovn, hovh⟩⟩
  refine q_callrB (xs := [(0, r, 0), (6, 0, 0)]) (p2 := 145) rfl rfl rfl rfl (x_rcv_s 0 hH) rfl (zc_judge_bad (r := r) hGz1 (by omega) hpv (by omega) (by omega)) rfl (fun w1 φ1 n1 sl1 hn1 hN1 hs1 hT1 hR1 => ?_)
  obtain ⟨hwz1, hGr1⟩ := hR1
  subst hwz1
  have hG := hGr1
  skip
  obtain ⟨⟨hand, ie, hH, hhw⟩, hB, hTJ, hEJ, hN, hKJ, ⟨A, B, s9, hPS, hLK0⟩, hSP, hV5, ⟨slq, hSL⟩, hRW, hJ, hFJ, hWJ, ⟨ovn, ovh, hOV, hovn, hovh⟩⟩ := hG
  refine x_n_lt (fun hlt0 => ?_)
  have hmade := x_PS_lt hPS
  obtain ⟨co, ⟨top_, fr_, pc_, mm, st, lo, re, rs, fl, se, hKS⟩, hco⟩ := hKJ
  exact q_retv (v := (0, 4294967295, 0)) rfl rfl (⟨rfl, ⟨by omega, by omega⟩, ⟨by omega, by omega⟩, _, rfl, ⟨⟨_, _, hH, hhw⟩, hB, hTJ, hEJ, hN, ⟨_, ⟨_, _, _, _, _, _, _, _, _, _, hKS⟩, hco⟩, ⟨_, _, _, hPS, hLK0⟩, hSP, hV5, ⟨_, hSL⟩, hRW, hJ, hFJ, hWJ, ⟨_, _, hOV, hovn, hovh⟩⟩⟩)
set_option maxHeartbeats 1000000 in
theorem zc_call_13 {d n sl : Nat} {φ : FH} {tp : Nat → Nat} {lf : Nat} {mi : Nat} {made : Nat} {sv : Nat} {svm : Nat} {comb : Nat → Nat} {hm : Nat → MV} {sc : Nat → Nat} {sm : Nat → MV} {mh : MV} {noted : Nat} {verd : Nat} {ins : Nat → Nat} {ver : Nat → Nat} {sz : Nat} {bw : Nat → Nat} {x s4 s7 i j : Nat} (hG : zG φ 0 tp lf mi made sv svm comb hm sc sm mh noted verd ins ver sz bw) (hn0 : 486 ≤ n) (hpv : ∀ i, x_pv2 (hm i)) (hmi : mi + 300 ≤ 20000) (hf0 : x >>> 4 = s4) (hf1 : s4 &&& 7 = i) (hf2 : x >>> 7 = s7) (hf3 : s7 &&& 7 = j) (hf4 : x &&& 15 = 13) (hx32 : x < 4294967296) (hij : i < 8 ∧ j < 8) (hz : ∀ x, x < 40 → ∀ a, a = 0 ∨ a = 1 ∨ a = 3 → zHM (hm (x * 40 + a))) (hcb : ∀ x, x < made → comb x = 0 ∨ comb x = 3 ∨ comb x = 5) : x_f x_P (d + 11) 4 [(6, 0, 0), (0, x, 0), (11, 0, 0), (11, 0, 0), (11, 0, 0)] φ n sl (x_bR n sl 0 0 (fun zw φ2 => ∃ bwZ : Nat → Nat, zw = (0, (wl comb hm made).length, 0) ∧ zG φ2 0 tp lf mi made sv svm comb hm sc sm mh noted verd ins ver (wl comb hm made).length bwZ)) := by
  refine x_f_of rfl ?_
  have hG0 := hG
  obtain ⟨⟨hand, ie, hH, hhw⟩, hB, hTJ, hEJ, hN, hKJ, ⟨A, B, s9, hPS, hLK0⟩, hSP, hV5, ⟨slq, hSL⟩, hRW, hJ, hFJ, hWJ, ⟨ovn, ovh, hOV, hovn, hovh⟩⟩ := hG
  refine x_n_lt (fun hlt0 => ?_)
  have hmade := x_PS_lt hPS
  obtain ⟨co, ⟨top_, fr_, pc_, mm, st, lo, re, rs, fl, se, hKS⟩, hco⟩ := hKJ
  refine q_load (v := (0, x, 0)) (p2 := 1) rfl rfl rfl rfl ?_
  refine q_const (p2 := 2) rfl rfl ?_
  refine q_iushrz (z := s4) (p2 := 3) rfl (by omega) hf0 rfl ?_
  refine q_const (p2 := 4) rfl rfl ?_
  refine q_iandz (z := i) (p2 := 5) rfl hf1 (by omega) rfl ?_
  refine q_store (loc2 := [(6, 0, 0), (0, x, 0), (0, i, 0), (11, 0, 0), (11, 0, 0)]) (p2 := 6) rfl rfl rfl rfl rfl ?_
  refine q_load (v := (0, x, 0)) (p2 := 7) rfl rfl rfl rfl ?_
  refine q_const (p2 := 8) rfl rfl ?_
  refine q_iushrz (z := s7) (p2 := 9) rfl (by omega) hf2 rfl ?_
  refine q_const (p2 := 10) rfl rfl ?_
  refine q_iandz (z := j) (p2 := 11) rfl hf3 (by omega) rfl ?_
  refine q_store (loc2 := [(6, 0, 0), (0, x, 0), (0, i, 0), (0, j, 0), (11, 0, 0)]) (p2 := 12) rfl rfl rfl rfl rfl ?_
  refine q_const (p2 := 13) rfl rfl ?_
  refine q_store (loc2 := [(6, 0, 0), (0, x, 0), (0, i, 0), (0, j, 0), (0, 1, 0)]) (p2 := 14) rfl rfl rfl rfl rfl ?_
  refine q_load (v := (0, x, 0)) (p2 := 15) rfl rfl rfl rfl ?_
  refine q_const (p2 := 16) rfl rfl ?_
  refine q_iandz (z := 13) (p2 := 17) rfl hf4 (by omega) rfl ?_
  refine q_switch (tgt := 245) rfl (by decide) rfl ?_
  refine q_load (v := (6, 0, 0)) (p2 := 246) rfl rfl rfl rfl ?_
  have hGz1 : zG φ 0 tp lf mi made sv svm comb hm sc sm mh noted verd ins ver sz bw := ⟨⟨_, _, hH, hhw⟩, hB, hTJ, hEJ, hN, ⟨_, ⟨_, _, _, _, _, _, _, _, _, _, hKS⟩, hco⟩, ⟨_, _, _, hPS, hLK0⟩, hSP, hV5, ⟨_, hSL⟩, hRW, hJ, hFJ, hWJ, ⟨_, _, hOV, hovn, hovh⟩⟩
  refine q_callrE (xs := [(6, 0, 0)]) (p2 := 247) rfl rfl rfl rfl (x_rcv_s 0 hH) rfl (zc_write hGz1 (by omega) hz hcb) (Nat.le_refl _) (Nat.le_refl _) rfl (fun φ1 hR1 => ?_)
  obtain ⟨bwZ, hbwZ, hGr⟩ := hR1
  exact q_retv (v := (0, (wl comb hm made).length, 0)) rfl rfl (⟨rfl, ⟨by omega, by omega⟩, ⟨by omega, by omega⟩, _, rfl, hGr⟩)
set_option maxHeartbeats 1000000 in
theorem zc_call_14 {d n sl : Nat} {φ : FH} {tp : Nat → Nat} {lf : Nat} {mi : Nat} {made : Nat} {sv : Nat} {svm : Nat} {comb : Nat → Nat} {hm : Nat → MV} {sc : Nat → Nat} {sm : Nat → MV} {mh : MV} {noted : Nat} {verd : Nat} {ins : Nat → Nat} {ver : Nat → Nat} {sz : Nat} {bw : Nat → Nat} {x s4 s7 i j : Nat} (hG : zG φ 0 tp lf mi made sv svm comb hm sc sm mh noted verd ins ver sz bw) (hn0 : 486 ≤ n) (hpv : ∀ i, x_pv2 (hm i)) (hmi : mi + 300 ≤ 20000) (hf0 : x >>> 4 = s4) (hf1 : s4 &&& 7 = i) (hf2 : x >>> 7 = s7) (hf3 : s7 &&& 7 = j) (hf4 : x &&& 15 = 14) (hx32 : x < 4294967296) (hij : i < 8 ∧ j < 8) (hz : ∀ x, x < 40 → ∀ a, a = 0 ∨ a = 1 ∨ a = 3 → zHM (hm (x * 40 + a))) (hcb : ∀ x, x < made → comb x = 0 ∨ comb x = 3 ∨ comb x = 5) : x_f x_P (d + 11) 4 [(6, 0, 0), (0, x, 0), (11, 0, 0), (11, 0, 0), (11, 0, 0)] φ n sl (x_bR n sl 0 0 (fun zw φ2 => ∃ bwZ : Nat → Nat, zw = (0, (wl comb hm made).length, 0) ∧ zG φ2 0 tp lf mi made sv svm comb hm sc sm mh noted verd ins ver (wl comb hm made).length bwZ)) := by
  refine x_f_of rfl ?_
  have hG0 := hG
  obtain ⟨⟨hand, ie, hH, hhw⟩, hB, hTJ, hEJ, hN, hKJ, ⟨A, B, s9, hPS, hLK0⟩, hSP, hV5, ⟨slq, hSL⟩, hRW, hJ, hFJ, hWJ, ⟨ovn, ovh, hOV, hovn, hovh⟩⟩ := hG
  refine x_n_lt (fun hlt0 => ?_)
  have hmade := x_PS_lt hPS
  obtain ⟨co, ⟨top_, fr_, pc_, mm, st, lo, re, rs, fl, se, hKS⟩, hco⟩ := hKJ
  refine q_load (v := (0, x, 0)) (p2 := 1) rfl rfl rfl rfl ?_
  refine q_const (p2 := 2) rfl rfl ?_
  refine q_iushrz (z := s4) (p2 := 3) rfl (by omega) hf0 rfl ?_
  refine q_const (p2 := 4) rfl rfl ?_
  refine q_iandz (z := i) (p2 := 5) rfl hf1 (by omega) rfl ?_
  refine q_store (loc2 := [(6, 0, 0), (0, x, 0), (0, i, 0), (11, 0, 0), (11, 0, 0)]) (p2 := 6) rfl rfl rfl rfl rfl ?_
  refine q_load (v := (0, x, 0)) (p2 := 7) rfl rfl rfl rfl ?_
  refine q_const (p2 := 8) rfl rfl ?_
  refine q_iushrz (z := s7) (p2 := 9) rfl (by omega) hf2 rfl ?_
  refine q_const (p2 := 10) rfl rfl ?_
  refine q_iandz (z := j) (p2 := 11) rfl hf3 (by omega) rfl ?_
  refine q_store (loc2 := [(6, 0, 0), (0, x, 0), (0, i, 0), (0, j, 0), (11, 0, 0)]) (p2 := 12) rfl rfl rfl rfl rfl ?_
  refine q_const (p2 := 13) rfl rfl ?_
  refine q_store (loc2 := [(6, 0, 0), (0, x, 0), (0, i, 0), (0, j, 0), (0, 1, 0)]) (p2 := 14) rfl rfl rfl rfl rfl ?_
  refine q_load (v := (0, x, 0)) (p2 := 15) rfl rfl rfl rfl ?_
  refine q_const (p2 := 16) rfl rfl ?_
  refine q_iandz (z := 14) (p2 := 17) rfl hf4 (by omega) rfl ?_
  refine q_switch (tgt := 245) rfl (by decide) rfl ?_
  refine q_load (v := (6, 0, 0)) (p2 := 246) rfl rfl rfl rfl ?_
  have hGz1 : zG φ 0 tp lf mi made sv svm comb hm sc sm mh noted verd ins ver sz bw := ⟨⟨_, _, hH, hhw⟩, hB, hTJ, hEJ, hN, ⟨_, ⟨_, _, _, _, _, _, _, _, _, _, hKS⟩, hco⟩, ⟨_, _, _, hPS, hLK0⟩, hSP, hV5, ⟨_, hSL⟩, hRW, hJ, hFJ, hWJ, ⟨_, _, hOV, hovn, hovh⟩⟩
  refine q_callrE (xs := [(6, 0, 0)]) (p2 := 247) rfl rfl rfl rfl (x_rcv_s 0 hH) rfl (zc_write hGz1 (by omega) hz hcb) (Nat.le_refl _) (Nat.le_refl _) rfl (fun φ1 hR1 => ?_)
  obtain ⟨bwZ, hbwZ, hGr⟩ := hR1
  exact q_retv (v := (0, (wl comb hm made).length, 0)) rfl rfl (⟨rfl, ⟨by omega, by omega⟩, ⟨by omega, by omega⟩, _, rfl, hGr⟩)
set_option maxHeartbeats 1000000 in
theorem zc_call_15 {d n sl : Nat} {φ : FH} {tp : Nat → Nat} {lf : Nat} {mi : Nat} {made : Nat} {sv : Nat} {svm : Nat} {comb : Nat → Nat} {hm : Nat → MV} {sc : Nat → Nat} {sm : Nat → MV} {mh : MV} {noted : Nat} {verd : Nat} {ins : Nat → Nat} {ver : Nat → Nat} {sz : Nat} {bw : Nat → Nat} {x s4 s7 i j : Nat} (hG : zG φ 0 tp lf mi made sv svm comb hm sc sm mh noted verd ins ver sz bw) (hn0 : 486 ≤ n) (hpv : ∀ i, x_pv2 (hm i)) (hmi : mi + 300 ≤ 20000) (hf0 : x >>> 4 = s4) (hf1 : s4 &&& 7 = i) (hf2 : x >>> 7 = s7) (hf3 : s7 &&& 7 = j) (hf4 : x &&& 15 = 15) (hx32 : x < 4294967296) (hij : i < 8 ∧ j < 8) (hz : ∀ x, x < 40 → ∀ a, a = 0 ∨ a = 1 ∨ a = 3 → zHM (hm (x * 40 + a))) (hcb : ∀ x, x < made → comb x = 0 ∨ comb x = 3 ∨ comb x = 5) : x_f x_P (d + 11) 4 [(6, 0, 0), (0, x, 0), (11, 0, 0), (11, 0, 0), (11, 0, 0)] φ n sl (x_bR n sl 0 0 (fun zw φ2 => ∃ bwZ : Nat → Nat, zw = (0, (wl comb hm made).length, 0) ∧ zG φ2 0 tp lf mi made sv svm comb hm sc sm mh noted verd ins ver (wl comb hm made).length bwZ)) := by
  refine x_f_of rfl ?_
  have hG0 := hG
  obtain ⟨⟨hand, ie, hH, hhw⟩, hB, hTJ, hEJ, hN, hKJ, ⟨A, B, s9, hPS, hLK0⟩, hSP, hV5, ⟨slq, hSL⟩, hRW, hJ, hFJ, hWJ, ⟨ovn, ovh, hOV, hovn, hovh⟩⟩ := hG
  refine x_n_lt (fun hlt0 => ?_)
  have hmade := x_PS_lt hPS
  obtain ⟨co, ⟨top_, fr_, pc_, mm, st, lo, re, rs, fl, se, hKS⟩, hco⟩ := hKJ
  refine q_load (v := (0, x, 0)) (p2 := 1) rfl rfl rfl rfl ?_
  refine q_const (p2 := 2) rfl rfl ?_
  refine q_iushrz (z := s4) (p2 := 3) rfl (by omega) hf0 rfl ?_
  refine q_const (p2 := 4) rfl rfl ?_
  refine q_iandz (z := i) (p2 := 5) rfl hf1 (by omega) rfl ?_
  refine q_store (loc2 := [(6, 0, 0), (0, x, 0), (0, i, 0), (11, 0, 0), (11, 0, 0)]) (p2 := 6) rfl rfl rfl rfl rfl ?_
  refine q_load (v := (0, x, 0)) (p2 := 7) rfl rfl rfl rfl ?_
  refine q_const (p2 := 8) rfl rfl ?_
  refine q_iushrz (z := s7) (p2 := 9) rfl (by omega) hf2 rfl ?_
  refine q_const (p2 := 10) rfl rfl ?_
  refine q_iandz (z := j) (p2 := 11) rfl hf3 (by omega) rfl ?_
  refine q_store (loc2 := [(6, 0, 0), (0, x, 0), (0, i, 0), (0, j, 0), (11, 0, 0)]) (p2 := 12) rfl rfl rfl rfl rfl ?_
  refine q_const (p2 := 13) rfl rfl ?_
  refine q_store (loc2 := [(6, 0, 0), (0, x, 0), (0, i, 0), (0, j, 0), (0, 1, 0)]) (p2 := 14) rfl rfl rfl rfl rfl ?_
  refine q_load (v := (0, x, 0)) (p2 := 15) rfl rfl rfl rfl ?_
  refine q_const (p2 := 16) rfl rfl ?_
  refine q_iandz (z := 15) (p2 := 17) rfl hf4 (by omega) rfl ?_
  refine q_switch (tgt := 245) rfl (by decide) rfl ?_
  refine q_load (v := (6, 0, 0)) (p2 := 246) rfl rfl rfl rfl ?_
  have hGz1 : zG φ 0 tp lf mi made sv svm comb hm sc sm mh noted verd ins ver sz bw := ⟨⟨_, _, hH, hhw⟩, hB, hTJ, hEJ, hN, ⟨_, ⟨_, _, _, _, _, _, _, _, _, _, hKS⟩, hco⟩, ⟨_, _, _, hPS, hLK0⟩, hSP, hV5, ⟨_, hSL⟩, hRW, hJ, hFJ, hWJ, ⟨_, _, hOV, hovn, hovh⟩⟩
  refine q_callrE (xs := [(6, 0, 0)]) (p2 := 247) rfl rfl rfl rfl (x_rcv_s 0 hH) rfl (zc_write hGz1 (by omega) hz hcb) (Nat.le_refl _) (Nat.le_refl _) rfl (fun φ1 hR1 => ?_)
  obtain ⟨bwZ, hbwZ, hGr⟩ := hR1
  exact q_retv (v := (0, (wl comb hm made).length, 0)) rfl rfl (⟨rfl, ⟨by omega, by omega⟩, ⟨by omega, by omega⟩, _, rfl, hGr⟩)
set_option maxHeartbeats 2000000 in
theorem zc_refuses {d n sl : Nat} {φ : FH} {tp : Nat → Nat} {lf : Nat} {mi : Nat} {made : Nat} {svm : Nat} {comb : Nat → Nat} {hm : Nat → MV} {sc : Nat → Nat} {sm : Nat → MV} {mh : MV} {noted : Nat} {verd : Nat} {ins : Nat → Nat} {ver : Nat → Nat} {sz : Nat} {bw : Nat → Nat} {x lo8 fa_ : Nat} (hG : zG φ 0 tp lf mi made 0 svm comb hm sc sm mh noted verd ins ver sz bw) (hn0 : 486 ≤ n) (hpv : ∀ i, x_pv2 (hm i)) (hmi : mi + 300 ≤ 20000) (hx32 : x < 4294967296) (hf0 : x &&& 255 = lo8) (hlo : lo8 < 256) (hfa : 60 + lo8 = fa_) (hroom : made < 40) : x_f x_P (d + 26) 8 [(6, 0, 0), (0, x, 0), (11, 0, 0), (11, 0, 0)] φ n sl (x_bR n sl 0 0 (fun zw φ2 => ∃ tpZ : Nat → Nat, zw = (0, 1, 0) ∧ zG φ2 0 tpZ 2 mi made 0 svm (x_s comb made 1) (x_em made hm) sc sm mh noted verd ins ver sz bw)) := by
  refine x_f_of rfl ?_
  have hG0 := hG
  obtain ⟨⟨hand, ie, hH, hhw⟩, hB, hTJ, hEJ, hN, hKJ, ⟨A, B, s9, hPS, hLK0⟩, hSP, hV5, ⟨slq, hSL⟩, hRW, hJ, hFJ, hWJ, ⟨ovn, ovh, hOV, hovn, hovh⟩⟩ := hG
  refine x_n_lt (fun hlt0 => ?_)
  have hmade := x_PS_lt hPS
  obtain ⟨co, ⟨top_, fr_, pc_, mm, st, lo, re, rs, fl, se, hKS⟩, hco⟩ := hKJ
  refine q_const (p2 := 1) rfl rfl ?_
  refine q_load (v := (0, x, 0)) (p2 := 2) rfl rfl rfl rfl ?_
  refine q_const (p2 := 3) rfl rfl ?_
  refine q_iandz (z := lo8) (p2 := 4) rfl hf0 (by omega) rfl ?_
  refine q_iaddz (z := fa_) (p2 := 5) rfl (by omega) (by omega) rfl ?_
  refine q_store (loc2 := [(6, 0, 0), (0, x, 0), (0, fa_, 0), (11, 0, 0)]) (p2 := 6) rfl rfl rfl rfl rfl ?_
  refine q_load (v := (6, 0, 0)) (p2 := 7) rfl rfl rfl rfl ?_
  refine q_const (p2 := 8) rfl rfl ?_
  have hGz1 : zG φ 0 tp lf mi made 0 svm comb hm sc sm mh noted verd ins ver sz bw := ⟨⟨_, _, hH, hhw⟩, hB, hTJ, hEJ, hN, ⟨_, ⟨_, _, _, _, _, _, _, _, _, _, hKS⟩, hco⟩, ⟨_, _, _, hPS, hLK0⟩, hSP, hV5, ⟨_, hSL⟩, hRW, hJ, hFJ, hWJ, ⟨_, _, hOV, hovn, hovh⟩⟩
  refine q_callrB (xs := [(0, 8, 0), (6, 0, 0)]) (p2 := 9) rfl rfl rfl rfl (x_rcv_s 0 hH) rfl (zc_make_8  hGz1 (by omega) hpv (by omega) ) rfl (fun w1 φ1 n1 sl1 hn1 hN1 hs1 hT1 hR1 => ?_)
  obtain ⟨hwz1, hGr1⟩ := hR1
  subst hwz1
  have hG := hGr1
  skip
  obtain ⟨⟨hand, ie, hH, hhw⟩, hB, hTJ, hEJ, hN, hKJ, ⟨A, B, s9, hPS, hLK0⟩, hSP, hV5, ⟨slq, hSL⟩, hRW, hJ, hFJ, hWJ, ⟨ovn, ovh, hOV, hovn, hovh⟩⟩ := hG
  refine x_n_lt (fun hlt0 => ?_)
  have hmade := x_PS_lt hPS
  obtain ⟨co, ⟨top_, fr_, pc_, mm, st, lo, re, rs, fl, se, hKS⟩, hco⟩ := hKJ
  refine q_const (p2 := 10) rfl rfl ?_
  refine q_icmp (p2 := 11) rfl (by decide) rfl (fun hb => absurd hb (show ¬ (¬ (2147483647 = 2147483647)) by decide)) (fun _ => ?_)
  refine q_load (v := (6, 0, 0)) (p2 := 12) rfl rfl rfl rfl ?_
  refine q_const (p2 := 13) rfl rfl ?_
  have hGz3 : zG φ1 0 tp lf mi made 0 svm comb hm sc sm mh noted verd ins ver sz bw := ⟨⟨_, _, hH, hhw⟩, hB, hTJ, hEJ, hN, ⟨_, ⟨_, _, _, _, _, _, _, _, _, _, hKS⟩, hco⟩, ⟨_, _, _, hPS, hLK0⟩, hSP, hV5, ⟨_, hSL⟩, hRW, hJ, hFJ, hWJ, ⟨_, _, hOV, hovn, hovh⟩⟩
  refine q_callrB (xs := [(0, 0, 0), (6, 0, 0)]) (p2 := 14) rfl rfl rfl rfl (x_rcv_s 0 hH) rfl (zc_make_0  hGz3 (by omega) hpv (by omega) ) rfl (fun w3 φ3 n3 sl3 hn3 hN3 hs3 hT3 hR3 => ?_)
  obtain ⟨hwz3, hGr3⟩ := hR3
  subst hwz3
  have hG := hGr3
  skip
  obtain ⟨⟨hand, ie, hH, hhw⟩, hB, hTJ, hEJ, hN, hKJ, ⟨A, B, s9, hPS, hLK0⟩, hSP, hV5, ⟨slq, hSL⟩, hRW, hJ, hFJ, hWJ, ⟨ovn, ovh, hOV, hovn, hovh⟩⟩ := hG
  refine x_n_lt (fun hlt0 => ?_)
  have hmade := x_PS_lt hPS
  obtain ⟨co, ⟨top_, fr_, pc_, mm, st, lo, re, rs, fl, se, hKS⟩, hco⟩ := hKJ
  refine q_const (p2 := 15) rfl rfl ?_
  refine q_icmp (p2 := 16) rfl (by decide) rfl (fun hb => absurd hb (show ¬ (¬ (2147483637 = 2147483637)) by decide)) (fun _ => ?_)
  refine q_load (v := (6, 0, 0)) (p2 := 17) rfl rfl rfl rfl ?_
  refine q_const (p2 := 18) rfl rfl ?_
  have hGz5 : zG φ3 0 tp lf mi made 0 svm comb hm sc sm mh noted verd ins ver sz bw := ⟨⟨_, _, hH, hhw⟩, hB, hTJ, hEJ, hN, ⟨_, ⟨_, _, _, _, _, _, _, _, _, _, hKS⟩, hco⟩, ⟨_, _, _, hPS, hLK0⟩, hSP, hV5, ⟨_, hSL⟩, hRW, hJ, hFJ, hWJ, ⟨_, _, hOV, hovn, hovh⟩⟩
  refine q_callrB (xs := [(0, 6, 0), (6, 0, 0)]) (p2 := 19) rfl rfl rfl rfl (x_rcv_s 0 hH) rfl (zc_make_6  hGz5 (by omega) hpv (by omega) ) rfl (fun w5 φ5 n5 sl5 hn5 hN5 hs5 hT5 hR5 => ?_)
  obtain ⟨hwz5, hGr5⟩ := hR5
  subst hwz5
  have hG := hGr5
  skip
  obtain ⟨⟨hand, ie, hH, hhw⟩, hB, hTJ, hEJ, hN, hKJ, ⟨A, B, s9, hPS, hLK0⟩, hSP, hV5, ⟨slq, hSL⟩, hRW, hJ, hFJ, hWJ, ⟨ovn, ovh, hOV, hovn, hovh⟩⟩ := hG
  refine x_n_lt (fun hlt0 => ?_)
  have hmade := x_PS_lt hPS
  obtain ⟨co, ⟨top_, fr_, pc_, mm, st, lo, re, rs, fl, se, hKS⟩, hco⟩ := hKJ
  refine q_const (p2 := 20) rfl rfl ?_
  refine q_icmp (p2 := 21) rfl (by decide) rfl (fun hb => absurd hb (show ¬ (¬ (2147483636 = 2147483636)) by decide)) (fun _ => ?_)
  refine q_load (v := (6, 0, 0)) (p2 := 22) rfl rfl rfl rfl ?_
  refine q_const (p2 := 23) rfl rfl ?_
  have hGz7 : zG φ5 0 tp lf mi made 0 svm comb hm sc sm mh noted verd ins ver sz bw := ⟨⟨_, _, hH, hhw⟩, hB, hTJ, hEJ, hN, ⟨_, ⟨_, _, _, _, _, _, _, _, _, _, hKS⟩, hco⟩, ⟨_, _, _, hPS, hLK0⟩, hSP, hV5, ⟨_, hSL⟩, hRW, hJ, hFJ, hWJ, ⟨_, _, hOV, hovn, hovh⟩⟩
  refine q_callrB (xs := [(0, 1, 0), (6, 0, 0)]) (p2 := 24) rfl rfl rfl rfl (x_rcv_s 0 hH) rfl (zc_make_1  hGz7 (by omega) hpv (by omega) ) rfl (fun w7 φ7 n7 sl7 hn7 hN7 hs7 hT7 hR7 => ?_)
  obtain ⟨hwz7, hGr7⟩ := hR7
  subst hwz7
  have hG := hGr7
  skip
  obtain ⟨⟨hand, ie, hH, hhw⟩, hB, hTJ, hEJ, hN, hKJ, ⟨A, B, s9, hPS, hLK0⟩, hSP, hV5, ⟨slq, hSL⟩, hRW, hJ, hFJ, hWJ, ⟨ovn, ovh, hOV, hovn, hovh⟩⟩ := hG
  refine x_n_lt (fun hlt0 => ?_)
  have hmade := x_PS_lt hPS
  obtain ⟨co, ⟨top_, fr_, pc_, mm, st, lo, re, rs, fl, se, hKS⟩, hco⟩ := hKJ
  refine q_const (p2 := 25) rfl rfl ?_
  refine q_icmp (p2 := 26) rfl (by decide) rfl (fun hb => absurd hb (show ¬ (¬ (2147483634 = 2147483634)) by decide)) (fun _ => ?_)
  refine q_load (v := (6, 0, 0)) (p2 := 27) rfl rfl rfl rfl ?_
  refine q_const (p2 := 28) rfl rfl ?_
  have hGz9 : zG φ7 0 tp lf mi made 0 svm comb hm sc sm mh noted verd ins ver sz bw := ⟨⟨_, _, hH, hhw⟩, hB, hTJ, hEJ, hN, ⟨_, ⟨_, _, _, _, _, _, _, _, _, _, hKS⟩, hco⟩, ⟨_, _, _, hPS, hLK0⟩, hSP, hV5, ⟨_, hSL⟩, hRW, hJ, hFJ, hWJ, ⟨_, _, hOV, hovn, hovh⟩⟩
  refine q_callrB (xs := [(0, 7, 0), (6, 0, 0)]) (p2 := 29) rfl rfl rfl rfl (x_rcv_s 0 hH) rfl (zc_make_7  hGz9 (by omega) hpv (by omega) ) rfl (fun w9 φ9 n9 sl9 hn9 hN9 hs9 hT9 hR9 => ?_)
  obtain ⟨hwz9, hGr9⟩ := hR9
  subst hwz9
  have hG := hGr9
  skip
  obtain ⟨⟨hand, ie, hH, hhw⟩, hB, hTJ, hEJ, hN, hKJ, ⟨A, B, s9, hPS, hLK0⟩, hSP, hV5, ⟨slq, hSL⟩, hRW, hJ, hFJ, hWJ, ⟨ovn, ovh, hOV, hovn, hovh⟩⟩ := hG
  refine x_n_lt (fun hlt0 => ?_)
  have hmade := x_PS_lt hPS
  obtain ⟨co, ⟨top_, fr_, pc_, mm, st, lo, re, rs, fl, se, hKS⟩, hco⟩ := hKJ
  refine q_const (p2 := 30) rfl rfl ?_
  refine q_icmp (p2 := 31) rfl (by decide) rfl (fun hb => absurd hb (show ¬ (¬ (2147483633 = 2147483633)) by decide)) (fun _ => ?_)
  refine q_load (v := (6, 0, 0)) (p2 := 32) rfl rfl rfl rfl ?_
  refine q_load (v := (0, fa_, 0)) (p2 := 33) rfl rfl rfl rfl ?_
  have hGz11 : zG φ9 0 tp lf mi made 0 svm comb hm sc sm mh noted verd ins ver sz bw := ⟨⟨_, _, hH, hhw⟩, hB, hTJ, hEJ, hN, ⟨_, ⟨_, _, _, _, _, _, _, _, _, _, hKS⟩, hco⟩, ⟨_, _, _, hPS, hLK0⟩, hSP, hV5, ⟨_, hSL⟩, hRW, hJ, hFJ, hWJ, ⟨_, _, hOV, hovn, hovh⟩⟩
  refine q_callrB (xs := [(0, fa_, 0), (6, 0, 0)]) (p2 := 34) rfl rfl rfl rfl (x_rcv_s 0 hH) rfl (zc_row_far (far := fa_) hGz11 (by omega) hpv (by omega) (by omega)) rfl (fun w11 φ11 n11 sl11 hn11 hN11 hs11 hT11 hR11 => ?_)
  obtain ⟨hwz11, hGr11⟩ := hR11
  subst hwz11
  have hG := hGr11
  skip
  obtain ⟨⟨hand, ie, hH, hhw⟩, hB, hTJ, hEJ, hN, hKJ, ⟨A, B, s9, hPS, hLK0⟩, hSP, hV5, ⟨slq, hSL⟩, hRW, hJ, hFJ, hWJ, ⟨ovn, ovh, hOV, hovn, hovh⟩⟩ := hG
  refine x_n_lt (fun hlt0 => ?_)
  have hmade := x_PS_lt hPS
  obtain ⟨co, ⟨top_, fr_, pc_, mm, st, lo, re, rs, fl, se, hKS⟩, hco⟩ := hKJ
  refine q_const (p2 := 35) rfl rfl ?_
  refine q_icmp (p2 := 36) rfl (by decide) rfl (fun hb => absurd hb (show ¬ (¬ (2147483647 = 2147483647)) by decide)) (fun _ => ?_)
  refine q_load (v := (6, 0, 0)) (p2 := 37) rfl rfl rfl rfl ?_
  refine q_load (v := (0, fa_, 0)) (p2 := 38) rfl rfl rfl rfl ?_
  have hGz13 : zG φ11 0 tp lf mi made 0 svm comb hm sc sm mh noted verd ins ver sz bw := ⟨⟨_, _, hH, hhw⟩, hB, hTJ, hEJ, hN, ⟨_, ⟨_, _, _, _, _, _, _, _, _, _, hKS⟩, hco⟩, ⟨_, _, _, hPS, hLK0⟩, hSP, hV5, ⟨_, hSL⟩, hRW, hJ, hFJ, hWJ, ⟨_, _, hOV, hovn, hovh⟩⟩
  refine q_callrB (xs := [(0, fa_, 0), (6, 0, 0)]) (p2 := 39) rfl rfl rfl rfl (x_rcv_s 0 hH) rfl (zc_drop_far (far := fa_) hGz13 (by omega) hpv (by omega) (by omega)) rfl (fun w13 φ13 n13 sl13 hn13 hN13 hs13 hT13 hR13 => ?_)
  obtain ⟨hwz13, hGr13⟩ := hR13
  subst hwz13
  have hG := hGr13
  skip
  obtain ⟨⟨hand, ie, hH, hhw⟩, hB, hTJ, hEJ, hN, hKJ, ⟨A, B, s9, hPS, hLK0⟩, hSP, hV5, ⟨slq, hSL⟩, hRW, hJ, hFJ, hWJ, ⟨ovn, ovh, hOV, hovn, hovh⟩⟩ := hG
  refine x_n_lt (fun hlt0 => ?_)
  have hmade := x_PS_lt hPS
  obtain ⟨co, ⟨top_, fr_, pc_, mm, st, lo, re, rs, fl, se, hKS⟩, hco⟩ := hKJ
  refine q_const (p2 := 40) rfl rfl ?_
  refine q_icmp (p2 := 41) rfl (by decide) rfl (fun hb => absurd hb (show ¬ (¬ (2147483647 = 2147483647)) by decide)) (fun _ => ?_)
  refine q_load (v := (6, 0, 0)) (p2 := 42) rfl rfl rfl rfl ?_
  refine q_load (v := (0, fa_, 0)) (p2 := 43) rfl rfl rfl rfl ?_
  refine q_const (p2 := 44) rfl rfl ?_
  have hGz15 : zG φ13 0 tp lf mi made 0 svm comb hm sc sm mh noted verd ins ver sz bw := ⟨⟨_, _, hH, hhw⟩, hB, hTJ, hEJ, hN, ⟨_, ⟨_, _, _, _, _, _, _, _, _, _, hKS⟩, hco⟩, ⟨_, _, _, hPS, hLK0⟩, hSP, hV5, ⟨_, hSL⟩, hRW, hJ, hFJ, hWJ, ⟨_, _, hOV, hovn, hovh⟩⟩
  refine q_callrB (xs := [(0, 0, 0), (0, fa_, 0), (6, 0, 0)]) (p2 := 45) rfl rfl rfl rfl (x_rcv_s 0 hH) rfl (zc_set_far (far := fa_) hGz15 (by omega) hpv (by omega) (by omega)) rfl (fun w15 φ15 n15 sl15 hn15 hN15 hs15 hT15 hR15 => ?_)
  obtain ⟨hwz15, hGr15⟩ := hR15
  subst hwz15
  have hG := hGr15
  skip
  obtain ⟨⟨hand, ie, hH, hhw⟩, hB, hTJ, hEJ, hN, hKJ, ⟨A, B, s9, hPS, hLK0⟩, hSP, hV5, ⟨slq, hSL⟩, hRW, hJ, hFJ, hWJ, ⟨ovn, ovh, hOV, hovn, hovh⟩⟩ := hG
  refine x_n_lt (fun hlt0 => ?_)
  have hmade := x_PS_lt hPS
  obtain ⟨co, ⟨top_, fr_, pc_, mm, st, lo, re, rs, fl, se, hKS⟩, hco⟩ := hKJ
  refine q_const (p2 := 46) rfl rfl ?_
  refine q_icmp (p2 := 47) rfl (by decide) rfl (fun hb => absurd hb (show ¬ (¬ (2147483647 = 2147483647)) by decide)) (fun _ => ?_)
  refine q_load (v := (6, 0, 0)) (p2 := 48) rfl rfl rfl rfl ?_
  refine q_const (p2 := 49) rfl rfl ?_
  refine q_load (v := (0, fa_, 0)) (p2 := 50) rfl rfl rfl rfl ?_
  have hGz17 : zG φ15 0 tp lf mi made 0 svm comb hm sc sm mh noted verd ins ver sz bw := ⟨⟨_, _, hH, hhw⟩, hB, hTJ, hEJ, hN, ⟨_, ⟨_, _, _, _, _, _, _, _, _, _, hKS⟩, hco⟩, ⟨_, _, _, hPS, hLK0⟩, hSP, hV5, ⟨_, hSL⟩, hRW, hJ, hFJ, hWJ, ⟨_, _, hOV, hovn, hovh⟩⟩
  refine q_callrB (xs := [(0, fa_, 0), (0, 0, 0), (6, 0, 0)]) (p2 := 51) rfl rfl rfl rfl (x_rcv_s 0 hH) rfl (zc_get_far (far := fa_) hGz17 (by omega) hpv (by omega) (by omega)) rfl (fun w17 φ17 n17 sl17 hn17 hN17 hs17 hT17 hR17 => ?_)
  obtain ⟨hwz17, hGr17⟩ := hR17
  subst hwz17
  have hG := hGr17
  skip
  obtain ⟨⟨hand, ie, hH, hhw⟩, hB, hTJ, hEJ, hN, hKJ, ⟨A, B, s9, hPS, hLK0⟩, hSP, hV5, ⟨slq, hSL⟩, hRW, hJ, hFJ, hWJ, ⟨ovn, ovh, hOV, hovn, hovh⟩⟩ := hG
  refine x_n_lt (fun hlt0 => ?_)
  have hmade := x_PS_lt hPS
  obtain ⟨co, ⟨top_, fr_, pc_, mm, st, lo, re, rs, fl, se, hKS⟩, hco⟩ := hKJ
  refine q_const (p2 := 52) rfl rfl ?_
  refine q_icmp (p2 := 53) rfl (by decide) rfl (fun hb => absurd hb (show ¬ (¬ (2147483647 = 2147483647)) by decide)) (fun _ => ?_)
  refine q_load (v := (6, 0, 0)) (p2 := 54) rfl rfl rfl rfl ?_
  refine q_const (p2 := 55) rfl rfl ?_
  have hGz19 : zG φ17 0 tp lf mi made 0 svm comb hm sc sm mh noted verd ins ver sz bw := ⟨⟨_, _, hH, hhw⟩, hB, hTJ, hEJ, hN, ⟨_, ⟨_, _, _, _, _, _, _, _, _, _, hKS⟩, hco⟩, ⟨_, _, _, hPS, hLK0⟩, hSP, hV5, ⟨_, hSL⟩, hRW, hJ, hFJ, hWJ, ⟨_, _, hOV, hovn, hovh⟩⟩
  refine q_callrB (xs := [(0, 4, 0), (6, 0, 0)]) (p2 := 56) rfl rfl rfl rfl (x_rcv_s 0 hH) rfl (zc_keep_4  hGz19 (by omega) hpv (by omega) ) rfl (fun w19 φ19 n19 sl19 hn19 hN19 hs19 hT19 hR19 => ?_)
  obtain ⟨hwz19, hGr19⟩ := hR19
  subst hwz19
  have hG := hGr19
  skip
  obtain ⟨⟨hand, ie, hH, hhw⟩, hB, hTJ, hEJ, hN, hKJ, ⟨A, B, s9, hPS, hLK0⟩, hSP, hV5, ⟨slq, hSL⟩, hRW, hJ, hFJ, hWJ, ⟨ovn, ovh, hOV, hovn, hovh⟩⟩ := hG
  refine x_n_lt (fun hlt0 => ?_)
  have hmade := x_PS_lt hPS
  obtain ⟨co, ⟨top_, fr_, pc_, mm, st, lo, re, rs, fl, se, hKS⟩, hco⟩ := hKJ
  refine q_const (p2 := 57) rfl rfl ?_
  refine q_icmp (p2 := 58) rfl (by decide) rfl (fun hb => absurd hb (show ¬ (¬ (2147483647 = 2147483647)) by decide)) (fun _ => ?_)
  refine q_load (v := (6, 0, 0)) (p2 := 59) rfl rfl rfl rfl ?_
  refine q_load (v := (0, fa_, 0)) (p2 := 60) rfl rfl rfl rfl ?_
  have hGz21 : zG φ19 0 tp lf mi made 0 svm comb hm sc sm mh noted verd ins ver sz bw := ⟨⟨_, _, hH, hhw⟩, hB, hTJ, hEJ, hN, ⟨_, ⟨_, _, _, _, _, _, _, _, _, _, hKS⟩, hco⟩, ⟨_, _, _, hPS, hLK0⟩, hSP, hV5, ⟨_, hSL⟩, hRW, hJ, hFJ, hWJ, ⟨_, _, hOV, hovn, hovh⟩⟩
  refine q_callrB (xs := [(0, fa_, 0), (6, 0, 0)]) (p2 := 61) rfl rfl rfl rfl (x_rcv_s 0 hH) rfl (zc_judge_bad (r := fa_) hGz21 (by omega) hpv (by omega) (by omega)) rfl (fun w21 φ21 n21 sl21 hn21 hN21 hs21 hT21 hR21 => ?_)
  obtain ⟨hwz21, hGr21⟩ := hR21
  subst hwz21
  have hG := hGr21
  skip
  obtain ⟨⟨hand, ie, hH, hhw⟩, hB, hTJ, hEJ, hN, hKJ, ⟨A, B, s9, hPS, hLK0⟩, hSP, hV5, ⟨slq, hSL⟩, hRW, hJ, hFJ, hWJ, ⟨ovn, ovh, hOV, hovn, hovh⟩⟩ := hG
  refine x_n_lt (fun hlt0 => ?_)
  have hmade := x_PS_lt hPS
  obtain ⟨co, ⟨top_, fr_, pc_, mm, st, lo, re, rs, fl, se, hKS⟩, hco⟩ := hKJ
  refine q_const (p2 := 62) rfl rfl ?_
  refine q_icmp (p2 := 63) rfl (by decide) rfl (fun hb => absurd hb (show ¬ (¬ (2147483647 = 2147483647)) by decide)) (fun _ => ?_)
  refine q_load (v := (6, 0, 0)) (p2 := 64) rfl rfl rfl rfl ?_
  have hGz23 : zG φ21 0 tp lf mi made 0 svm comb hm sc sm mh noted verd ins ver sz bw := ⟨⟨_, _, hH, hhw⟩, hB, hTJ, hEJ, hN, ⟨_, ⟨_, _, _, _, _, _, _, _, _, _, hKS⟩, hco⟩, ⟨_, _, _, hPS, hLK0⟩, hSP, hV5, ⟨_, hSL⟩, hRW, hJ, hFJ, hWJ, ⟨_, _, hOV, hovn, hovh⟩⟩
  refine q_callrB (xs := [(6, 0, 0)]) (p2 := 65) rfl rfl rfl rfl (x_rcv_s 0 hH) rfl (zc_commit_no  hGz23 (by omega) hpv (by omega) ) rfl (fun w23 φ23 n23 sl23 hn23 hN23 hs23 hT23 hR23 => ?_)
  obtain ⟨hwz23, hGr23⟩ := hR23
  subst hwz23
  have hG := hGr23
  skip
  obtain ⟨⟨hand, ie, hH, hhw⟩, hB, hTJ, hEJ, hN, hKJ, ⟨A, B, s9, hPS, hLK0⟩, hSP, hV5, ⟨slq, hSL⟩, hRW, hJ, hFJ, hWJ, ⟨ovn, ovh, hOV, hovn, hovh⟩⟩ := hG
  refine x_n_lt (fun hlt0 => ?_)
  have hmade := x_PS_lt hPS
  obtain ⟨co, ⟨top_, fr_, pc_, mm, st, lo, re, rs, fl, se, hKS⟩, hco⟩ := hKJ
  refine q_const (p2 := 66) rfl rfl ?_
  refine q_icmp (p2 := 67) rfl (by decide) rfl (fun hb => absurd hb (show ¬ (¬ (2147483645 = 2147483645)) by decide)) (fun _ => ?_)
  refine q_load (v := (6, 0, 0)) (p2 := 68) rfl rfl rfl rfl ?_
  have hGz25 : zG φ23 0 tp lf mi made 0 svm comb hm sc sm mh noted verd ins ver sz bw := ⟨⟨_, _, hH, hhw⟩, hB, hTJ, hEJ, hN, ⟨_, ⟨_, _, _, _, _, _, _, _, _, _, hKS⟩, hco⟩, ⟨_, _, _, hPS, hLK0⟩, hSP, hV5, ⟨_, hSL⟩, hRW, hJ, hFJ, hWJ, ⟨_, _, hOV, hovn, hovh⟩⟩
  refine q_callrB (xs := [(6, 0, 0)]) (p2 := 69) rfl rfl rfl rfl (x_rcv_s 0 hH) rfl (zc_abort_no  hGz25 (by omega) hpv (by omega) ) rfl (fun w25 φ25 n25 sl25 hn25 hN25 hs25 hT25 hR25 => ?_)
  obtain ⟨hwz25, hGr25⟩ := hR25
  subst hwz25
  have hG := hGr25
  skip
  obtain ⟨⟨hand, ie, hH, hhw⟩, hB, hTJ, hEJ, hN, hKJ, ⟨A, B, s9, hPS, hLK0⟩, hSP, hV5, ⟨slq, hSL⟩, hRW, hJ, hFJ, hWJ, ⟨ovn, ovh, hOV, hovn, hovh⟩⟩ := hG
  refine x_n_lt (fun hlt0 => ?_)
  have hmade := x_PS_lt hPS
  obtain ⟨co, ⟨top_, fr_, pc_, mm, st, lo, re, rs, fl, se, hKS⟩, hco⟩ := hKJ
  refine q_const (p2 := 70) rfl rfl ?_
  refine q_icmp (p2 := 71) rfl (by decide) rfl (fun hb => absurd hb (show ¬ (¬ (2147483645 = 2147483645)) by decide)) (fun _ => ?_)
  refine q_load (v := (6, 0, 0)) (p2 := 72) rfl rfl rfl rfl ?_
  refine q_const (p2 := 73) rfl rfl ?_
  have hGz27 : zG φ25 0 tp lf mi made 0 svm comb hm sc sm mh noted verd ins ver sz bw := ⟨⟨_, _, hH, hhw⟩, hB, hTJ, hEJ, hN, ⟨_, ⟨_, _, _, _, _, _, _, _, _, _, hKS⟩, hco⟩, ⟨_, _, _, hPS, hLK0⟩, hSP, hV5, ⟨_, hSL⟩, hRW, hJ, hFJ, hWJ, ⟨_, _, hOV, hovn, hovh⟩⟩
  refine q_callrB (xs := [(0, 4, 0), (6, 0, 0)]) (p2 := 74) rfl rfl rfl rfl (x_rcv_s 0 hH) rfl (zc_take_4  hGz27 (by omega) hpv (by omega) ) rfl (fun w27 φ27 n27 sl27 hn27 hN27 hs27 hT27 hR27 => ?_)
  obtain ⟨hwz27, hGr27⟩ := hR27
  subst hwz27
  have hG := hGr27
  skip
  obtain ⟨⟨hand, ie, hH, hhw⟩, hB, hTJ, hEJ, hN, hKJ, ⟨A, B, s9, hPS, hLK0⟩, hSP, hV5, ⟨slq, hSL⟩, hRW, hJ, hFJ, hWJ, ⟨ovn, ovh, hOV, hovn, hovh⟩⟩ := hG
  refine x_n_lt (fun hlt0 => ?_)
  have hmade := x_PS_lt hPS
  obtain ⟨co, ⟨top_, fr_, pc_, mm, st, lo, re, rs, fl, se, hKS⟩, hco⟩ := hKJ
  refine q_const (p2 := 75) rfl rfl ?_
  refine q_icmp (p2 := 76) rfl (by decide) rfl (fun hb => absurd hb (show ¬ (¬ (2147483647 = 2147483647)) by decide)) (fun _ => ?_)
  refine q_load (v := (6, 0, 0)) (p2 := 77) rfl rfl rfl rfl ?_
  refine q_const (p2 := 78) rfl rfl ?_
  have hGz29 : zG φ27 0 tp lf mi made 0 svm comb hm sc sm mh noted verd ins ver sz bw := ⟨⟨_, _, hH, hhw⟩, hB, hTJ, hEJ, hN, ⟨_, ⟨_, _, _, _, _, _, _, _, _, _, hKS⟩, hco⟩, ⟨_, _, _, hPS, hLK0⟩, hSP, hV5, ⟨_, hSL⟩, hRW, hJ, hFJ, hWJ, ⟨_, _, hOV, hovn, hovh⟩⟩
  refine q_callrB (xs := [(0, 13, 0), (6, 0, 0)]) (p2 := 79) rfl rfl rfl rfl (x_rcv_s 0 hH) rfl (zc_count_13  hGz29 (by omega) hpv (by omega) ) rfl (fun w29 φ29 n29 sl29 hn29 hN29 hs29 hT29 hR29 => ?_)
  obtain ⟨hwz29, hGr29⟩ := hR29
  subst hwz29
  have hG := hGr29
  skip
  obtain ⟨⟨hand, ie, hH, hhw⟩, hB, hTJ, hEJ, hN, hKJ, ⟨A, B, s9, hPS, hLK0⟩, hSP, hV5, ⟨slq, hSL⟩, hRW, hJ, hFJ, hWJ, ⟨ovn, ovh, hOV, hovn, hovh⟩⟩ := hG
  refine x_n_lt (fun hlt0 => ?_)
  have hmade := x_PS_lt hPS
  obtain ⟨co, ⟨top_, fr_, pc_, mm, st, lo, re, rs, fl, se, hKS⟩, hco⟩ := hKJ
  refine q_const (p2 := 80) rfl rfl ?_
  refine q_icmp (p2 := 81) rfl (by decide) rfl (fun hb => absurd hb (show ¬ (¬ (2147483647 = 2147483647)) by decide)) (fun _ => ?_)
  refine q_load (v := (6, 0, 0)) (p2 := 82) rfl rfl rfl rfl ?_
  refine q_const (p2 := 83) rfl rfl ?_
  have hGz31 : zG φ29 0 tp lf mi made 0 svm comb hm sc sm mh noted verd ins ver sz bw := ⟨⟨_, _, hH, hhw⟩, hB, hTJ, hEJ, hN, ⟨_, ⟨_, _, _, _, _, _, _, _, _, _, hKS⟩, hco⟩, ⟨_, _, _, hPS, hLK0⟩, hSP, hV5, ⟨_, hSL⟩, hRW, hJ, hFJ, hWJ, ⟨_, _, hOV, hovn, hovh⟩⟩
  refine q_callrB (xs := [(0, 3, 0), (6, 0, 0)]) (p2 := 84) rfl rfl rfl rfl (x_rcv_s 0 hH) rfl (zc_comb_3  hGz31 (by omega) hpv (by omega) ) rfl (fun w31 φ31 n31 sl31 hn31 hN31 hs31 hT31 hR31 => ?_)
  obtain ⟨hwz31, hGr31⟩ := hR31
  subst hwz31
  have hG := hGr31
  skip
  obtain ⟨⟨hand, ie, hH, hhw⟩, hB, hTJ, hEJ, hN, hKJ, ⟨A, B, s9, hPS, hLK0⟩, hSP, hV5, ⟨slq, hSL⟩, hRW, hJ, hFJ, hWJ, ⟨ovn, ovh, hOV, hovn, hovh⟩⟩ := hG
  refine x_n_lt (fun hlt0 => ?_)
  have hmade := x_PS_lt hPS
  obtain ⟨co, ⟨top_, fr_, pc_, mm, st, lo, re, rs, fl, se, hKS⟩, hco⟩ := hKJ
  refine q_const (p2 := 85) rfl rfl ?_
  refine q_icmp (p2 := 86) rfl (by decide) rfl (fun hb => absurd hb (show ¬ (¬ (2147483647 = 2147483647)) by decide)) (fun _ => ?_)
  refine q_load (v := (6, 0, 0)) (p2 := 87) rfl rfl rfl rfl ?_
  refine q_load (v := (0, fa_, 0)) (p2 := 88) rfl rfl rfl rfl ?_
  have hGz33 : zG φ31 0 tp lf mi made 0 svm comb hm sc sm mh noted verd ins ver sz bw := ⟨⟨_, _, hH, hhw⟩, hB, hTJ, hEJ, hN, ⟨_, ⟨_, _, _, _, _, _, _, _, _, _, hKS⟩, hco⟩, ⟨_, _, _, hPS, hLK0⟩, hSP, hV5, ⟨_, hSL⟩, hRW, hJ, hFJ, hWJ, ⟨_, _, hOV, hovn, hovh⟩⟩
  refine q_callrB (xs := [(0, fa_, 0), (6, 0, 0)]) (p2 := 89) rfl rfl rfl rfl (x_rcv_s 0 hH) rfl (zc_cut_far (far := fa_) hGz33 (by omega) hpv (by omega) (by omega)) rfl (fun w33 φ33 n33 sl33 hn33 hN33 hs33 hT33 hR33 => ?_)
  obtain ⟨hwz33, hGr33⟩ := hR33
  subst hwz33
  have hG := hGr33
  skip
  obtain ⟨⟨hand, ie, hH, hhw⟩, hB, hTJ, hEJ, hN, hKJ, ⟨A, B, s9, hPS, hLK0⟩, hSP, hV5, ⟨slq, hSL⟩, hRW, hJ, hFJ, hWJ, ⟨ovn, ovh, hOV, hovn, hovh⟩⟩ := hG
  refine x_n_lt (fun hlt0 => ?_)
  have hmade := x_PS_lt hPS
  obtain ⟨co, ⟨top_, fr_, pc_, mm, st, lo, re, rs, fl, se, hKS⟩, hco⟩ := hKJ
  refine q_const (p2 := 90) rfl rfl ?_
  refine q_icmp (p2 := 91) rfl (by decide) rfl (fun hb => absurd hb (show ¬ (¬ (2147483647 = 2147483647)) by decide)) (fun _ => ?_)
  refine q_const (p2 := 92) rfl rfl ?_
  refine q_goto rfl ?_
  refine q_store (loc2 := [(6, 0, 0), (0, x, 0), (0, fa_, 0), (0, 1, 0)]) (p2 := 95) rfl rfl rfl rfl rfl ?_
  refine q_load (v := (0, 1, 0)) (p2 := 96) rfl rfl rfl rfl ?_
  refine q_if0_s (p2 := 97) rfl (by decide) (by omega) rfl (fun hb => absurd hb (show ¬ (1 = 0) by omega)) (fun _ => ?_)
  refine q_load (v := (6, 0, 0)) (p2 := 98) rfl rfl rfl rfl ?_
  refine q_const (p2 := 99) rfl rfl ?_
  refine q_const (p2 := 100) rfl rfl ?_
  refine q_const (p2 := 101) rfl rfl ?_
  refine q_const (p2 := 102) rfl rfl ?_
  refine q_const (p2 := 103) rfl rfl ?_
  refine q_callrE (xs := [(0, 538976288, 0), (0, 538976288, 0), (0, 538976288, 0), (0, 538976288, 0), (0, 590359328, 0), (6, 0, 0)]) (p2 := 104) rfl rfl rfl rfl (x_rcv_s 0 hH) rfl (zc_h_feed_err hH hB) (Nat.le_refl _) (Nat.le_refl _) rfl (fun φ35 hR35 => ?_)
  obtain ⟨hs35_0, hs35_1, fr35⟩ := hR35
  refine q_if0_s (p2 := 105) rfl (by decide) (by omega) rfl (fun hb => absurd hb (show ¬ (20 < 0) by omega)) (fun _ => ?_)
  refine q_load (v := (6, 0, 0)) (p2 := 106) rfl rfl rfl rfl ?_
  refine q_const (p2 := 107) rfl rfl ?_
  refine q_callrE (xs := [(0, 17, 0), (6, 0, 0)]) (p2 := 108) rfl rfl rfl rfl (x_rcv_s 0 hs35_0) rfl (zc_h_cut hs35_0 (by omega)) (Nat.le_refl _) (Nat.le_refl _) rfl (fun φ36 hR36 => ?_)
  obtain ⟨hs36_0, fr36⟩ := hR36
  refine q_if0_s (p2 := 109) rfl (by decide) (by omega) rfl (fun hb => absurd hb (show ¬ (3 < 0) by omega)) (fun _ => ?_)
  refine q_load (v := (6, 0, 0)) (p2 := 110) rfl rfl rfl rfl ?_
  have hm37 := (zq_tp_at hs35_1 (fr36 1 (by decide)))
  have hm38 := (zTJ_at hTJ (fun j h1 h2 => ((fr36 j (by omega)).trans (fr35 j (by omega) (by omega)))))
  have hm39 := (zEJ_at hEJ (fun j h1 h2 => ((fr36 j (by omega)).trans (fr35 j (by omega) (by omega)))))
  have hm40 := (zq_nm_at hN ((fr36 239 (by decide)).trans (fr35 239 (by decide) (by decide))) ((fr36 242 (by decide)).trans (fr35 242 (by decide) (by decide))) ((fr36 244 (by decide)).trans (fr35 244 (by decide) (by decide))))
  have hm41 := (x_KS_at2 hKS (fun j h1 h2 h3 h4 => ((fr36 j (by omega)).trans (fr35 j (by omega) (by omega)))))
  refine x_n_lt (fun hlt43 => ?_)
  have hm42 := (x_PS_at hPS (fun j hj hne => by have hj2 := x_some_lt hlt0 hne; exact ((fr36 j (by omega)).trans (fr35 j (by omega) (by omega)))))
  have hm44 := (x_LK_at2 hLK0 (fun j h1 h2 => ((fr36 j (by omega)).trans (fr35 j (by omega) (by omega)))))
  have hm45 := (x_SP_at hSP (fun j hj hne => by have hj2 := x_some_lt hlt0 hne; exact ((fr36 j (by omega)).trans (fr35 j (by omega) (by omega)))))
  have hm46 := (zq_V5_at hV5 ((fr36 485 (by decide)).trans (fr35 485 (by decide) (by decide))))
  have hm47 := (zq_SL_at hSL ((fr36 482 (by decide)).trans (fr35 482 (by decide) (by decide))))
  have hm48 := (zq_RW_at hRW ((fr36 483 (by decide)).trans (fr35 483 (by decide) (by decide))))
  have hm49 := (zq_J_at hJ ((fr36 468 (by decide)).trans (fr35 468 (by decide) (by decide))) ((fr36 469 (by decide)).trans (fr35 469 (by decide) (by decide))) ((fr36 470 (by decide)).trans (fr35 470 (by decide) (by decide))))
  have hm50 := (zFJ_at hFJ (fun j h1 h2 => ((fr36 j (by omega)).trans (fr35 j (by omega) (by omega)))))
  have hm51 := (zWJ_at hWJ (fun j h1 h2 => ((fr36 j (by omega)).trans (fr35 j (by omega) (by omega)))))
  have hm52 := (zq_OV_at hOV ((fr36 452 (by decide)).trans (fr35 452 (by decide) (by decide))) ((fr36 453 (by decide)).trans (fr35 453 (by decide) (by decide))))
  have hGz53 : zG φ36 3 (x_s (x_s (x_s (x_s (x_s (x_s (x_s (x_s (x_s (x_s (x_s (x_s (x_s (x_s (x_s (x_s (x_s (x_s (x_s (x_s tp 0 35) 1 48) 2 43) 3 32) 4 32) 5 32) 6 32) 7 32) 8 32) 9 32) 10 32) 11 32) 12 32) 13 32) 14 32) 15 32) 16 32) 17 32) 18 32) 19 32) lf mi made 0 svm comb hm sc sm mh noted verd ins ver sz bw := ⟨⟨_, _, hs36_0, (x_hw_at hhw (fun j hj hne => by have hj2 := x_some_lt hlt0 hne; exact ((fr36 j (by omega)).trans (fr35 j (by omega) (by omega)))))⟩, hm37, hm38, hm39, hm40, ⟨_, ⟨_, _, _, _, _, _, _, _, _, _, hm41⟩, hco⟩, ⟨_, _, _, hm42, hm44⟩, hm45, hm46, ⟨_, hm47⟩, hm48, hm49, hm50, hm51, ⟨_, _, hm52, hovn, hovh⟩⟩
  refine q_callrB (xs := [(6, 0, 0)]) (p2 := 111) rfl rfl rfl rfl (x_rcv_s 0 hs36_0) rfl (zc_work_err  hGz53 (by omega) hpv (by omega) (((x_s_ne (by decide)).trans ((x_s_ne (by decide)).trans ((x_s_ne (by decide)).trans ((x_s_ne (by decide)).trans ((x_s_ne (by decide)).trans ((x_s_ne (by decide)).trans ((x_s_ne (by decide)).trans ((x_s_ne (by decide)).trans ((x_s_ne (by decide)).trans ((x_s_ne (by decide)).trans ((x_s_ne (by decide)).trans ((x_s_ne (by decide)).trans ((x_s_ne (by decide)).trans ((x_s_ne (by decide)).trans ((x_s_ne (by decide)).trans ((x_s_ne (by decide)).trans ((x_s_ne (by decide)).trans ((x_s_ne (by decide)).trans ((x_s_ne (by decide)).trans (x_s_eq))))))))))))))))))))) (((x_s_ne (by decide)).trans ((x_s_ne (by decide)).trans ((x_s_ne (by decide)).trans ((x_s_ne (by decide)).trans ((x_s_ne (by decide)).trans ((x_s_ne (by decide)).trans ((x_s_ne (by decide)).trans ((x_s_ne (by decide)).trans ((x_s_ne (by decide)).trans ((x_s_ne (by decide)).trans ((x_s_ne (by decide)).trans ((x_s_ne (by decide)).trans ((x_s_ne (by decide)).trans ((x_s_ne (by decide)).trans ((x_s_ne (by decide)).trans ((x_s_ne (by decide)).trans ((x_s_ne (by decide)).trans ((x_s_ne (by decide)).trans (x_s_eq)))))))))))))))))))) (((x_s_ne (by decide)).trans ((x_s_ne (by decide)).trans ((x_s_ne (by decide)).trans ((x_s_ne (by decide)).trans ((x_s_ne (by decide)).trans ((x_s_ne (by decide)).trans ((x_s_ne (by decide)).trans ((x_s_ne (by decide)).trans ((x_s_ne (by decide)).trans ((x_s_ne (by decide)).trans ((x_s_ne (by decide)).trans ((x_s_ne (by decide)).trans ((x_s_ne (by decide)).trans ((x_s_ne (by decide)).trans ((x_s_ne (by decide)).trans ((x_s_ne (by decide)).trans ((x_s_ne (by decide)).trans (x_s_eq))))))))))))))))))) (by omega)) rfl (fun w53 φ53 n53 sl53 hn53 hN53 hs53 hT53 hR53 => ?_)
  obtain ⟨hwz53, hGr53⟩ := hR53
  subst hwz53
  have hG := hGr53
  skip
  obtain ⟨⟨hand, ie, hH, hhw⟩, hB, hTJ, hEJ, hN, hKJ, ⟨A, B, s9, hPS, hLK0⟩, hSP, hV5, ⟨slq, hSL⟩, hRW, hJ, hFJ, hWJ, ⟨ovn, ovh, hOV, hovn, hovh⟩⟩ := hG
  refine x_n_lt (fun hlt0 => ?_)
  have hmade := x_PS_lt hPS
  obtain ⟨co, ⟨top_, fr_, pc_, mm, st, lo, re, rs, fl, se, hKS⟩, hco⟩ := hKJ
  refine q_const (p2 := 112) rfl rfl ?_
  refine q_icmp (p2 := 113) rfl (by decide) rfl (fun hb => absurd hb (show ¬ (¬ (2147483635 = 2147483635)) by decide)) (fun _ => ?_)
  refine q_load (v := (6, 0, 0)) (p2 := 114) rfl rfl rfl rfl ?_
  have hGz55 : zG φ53 0 (x_s (x_s (x_s (x_s (x_s (x_s (x_s (x_s (x_s (x_s (x_s (x_s (x_s (x_s (x_s (x_s (x_s (x_s (x_s (x_s tp 0 35) 1 48) 2 43) 3 32) 4 32) 5 32) 6 32) 7 32) 8 32) 9 32) 10 32) 11 32) 12 32) 13 32) 14 32) 15 32) 16 32) 17 32) 18 32) 19 32) 2 mi made 0 svm comb hm sc sm mh noted verd ins ver sz bw := ⟨⟨_, _, hH, hhw⟩, hB, hTJ, hEJ, hN, ⟨_, ⟨_, _, _, _, _, _, _, _, _, _, hKS⟩, hco⟩, ⟨_, _, _, hPS, hLK0⟩, hSP, hV5, ⟨_, hSL⟩, hRW, hJ, hFJ, hWJ, ⟨_, _, hOV, hovn, hovh⟩⟩
  refine q_callr (xs := [(6, 0, 0)]) (p2 := 115) rfl rfl rfl rfl (x_rcv_s 0 hH) rfl (zc_fault  hGz55 (by omega) ) (Nat.le_refl _) (Nat.le_refl _) rfl ?_
  refine q_const (p2 := 116) rfl rfl ?_
  refine q_icmp_s (p2 := 117) rfl (by decide) (by omega) (by omega) rfl (fun hb => absurd hb (show ¬ (¬ (2 = 2)) by omega)) (fun _ => ?_)
  refine q_load (v := (6, 0, 0)) (p2 := 118) rfl rfl rfl rfl ?_
  refine q_const (p2 := 119) rfl rfl ?_
  refine q_const (p2 := 120) rfl rfl ?_
  refine q_const (p2 := 121) rfl rfl ?_
  refine q_const (p2 := 122) rfl rfl ?_
  refine q_const (p2 := 123) rfl rfl ?_
  refine q_callrE (xs := [(0, 538976288, 0), (0, 538976288, 0), (0, 538976288, 0), (0, 673790752, 0), (0, 590429537, 0), (6, 0, 0)]) (p2 := 124) rfl rfl rfl rfl (x_rcv_s 0 hH) rfl (zc_h_feed_file hH hB) (Nat.le_refl _) (Nat.le_refl _) rfl (fun φ56 hR56 => ?_)
  obtain ⟨hs56_0, hs56_1, fr56⟩ := hR56
  refine q_if0_s (p2 := 125) rfl (by decide) (by omega) rfl (fun hb => absurd hb (show ¬ (20 < 0) by omega)) (fun _ => ?_)
  refine q_load (v := (6, 0, 0)) (p2 := 126) rfl rfl rfl rfl ?_
  refine q_const (p2 := 127) rfl rfl ?_
  refine q_callrE (xs := [(0, 13, 0), (6, 0, 0)]) (p2 := 128) rfl rfl rfl rfl (x_rcv_s 0 hs56_0) rfl (zc_h_cut hs56_0 (by omega)) (Nat.le_refl _) (Nat.le_refl _) rfl (fun φ57 hR57 => ?_)
  obtain ⟨hs57_0, fr57⟩ := hR57
  refine q_if0_s (p2 := 129) rfl (by decide) (by omega) rfl (fun hb => absurd hb (show ¬ (7 < 0) by omega)) (fun _ => ?_)
  refine q_load (v := (6, 0, 0)) (p2 := 130) rfl rfl rfl rfl ?_
  have hm58 := (zq_tp_at hs56_1 (fr57 1 (by decide)))
  have hm59 := (zTJ_at hTJ (fun j h1 h2 => ((fr57 j (by omega)).trans (fr56 j (by omega) (by omega)))))
  have hm60 := (zEJ_at hEJ (fun j h1 h2 => ((fr57 j (by omega)).trans (fr56 j (by omega) (by omega)))))
  have hm61 := (zq_nm_at hN ((fr57 239 (by decide)).trans (fr56 239 (by decide) (by decide))) ((fr57 242 (by decide)).trans (fr56 242 (by decide) (by decide))) ((fr57 244 (by decide)).trans (fr56 244 (by decide) (by decide))))
  have hm62 := (x_KS_at2 hKS (fun j h1 h2 h3 h4 => ((fr57 j (by omega)).trans (fr56 j (by omega) (by omega)))))
  refine x_n_lt (fun hlt64 => ?_)
  have hm63 := (x_PS_at hPS (fun j hj hne => by have hj2 := x_some_lt hlt0 hne; exact ((fr57 j (by omega)).trans (fr56 j (by omega) (by omega)))))
  have hm65 := (x_LK_at2 hLK0 (fun j h1 h2 => ((fr57 j (by omega)).trans (fr56 j (by omega) (by omega)))))
  have hm66 := (x_SP_at hSP (fun j hj hne => by have hj2 := x_some_lt hlt0 hne; exact ((fr57 j (by omega)).trans (fr56 j (by omega) (by omega)))))
  have hm67 := (zq_V5_at hV5 ((fr57 485 (by decide)).trans (fr56 485 (by decide) (by decide))))
  have hm68 := (zq_SL_at hSL ((fr57 482 (by decide)).trans (fr56 482 (by decide) (by decide))))
  have hm69 := (zq_RW_at hRW ((fr57 483 (by decide)).trans (fr56 483 (by decide) (by decide))))
  have hm70 := (zq_J_at hJ ((fr57 468 (by decide)).trans (fr56 468 (by decide) (by decide))) ((fr57 469 (by decide)).trans (fr56 469 (by decide) (by decide))) ((fr57 470 (by decide)).trans (fr56 470 (by decide) (by decide))))
  have hm71 := (zFJ_at hFJ (fun j h1 h2 => ((fr57 j (by omega)).trans (fr56 j (by omega) (by omega)))))
  have hm72 := (zWJ_at hWJ (fun j h1 h2 => ((fr57 j (by omega)).trans (fr56 j (by omega) (by omega)))))
  have hm73 := (zq_OV_at hOV ((fr57 452 (by decide)).trans (fr56 452 (by decide) (by decide))) ((fr57 453 (by decide)).trans (fr56 453 (by decide) (by decide))))
  have hGz74 : zG φ57 7 (x_s (x_s (x_s (x_s (x_s (x_s (x_s (x_s (x_s (x_s (x_s (x_s (x_s (x_s (x_s (x_s (x_s (x_s (x_s (x_s (x_s (x_s (x_s (x_s (x_s (x_s (x_s (x_s (x_s (x_s (x_s (x_s (x_s (x_s (x_s (x_s (x_s (x_s (x_s (x_s tp 0 35) 1 48) 2 43) 3 32) 4 32) 5 32) 6 32) 7 32) 8 32) 9 32) 10 32) 11 32) 12 32) 13 32) 14 32) 15 32) 16 32) 17 32) 18 32) 19 32) 0 35) 1 49) 2 61) 3 97) 4 40) 5 41) 6 59) 7 32) 8 32) 9 32) 10 32) 11 32) 12 32) 13 32) 14 32) 15 32) 16 32) 17 32) 18 32) 19 32) 2 mi made 0 svm comb hm sc sm mh noted verd ins ver sz bw := ⟨⟨_, _, hs57_0, (x_hw_at hhw (fun j hj hne => by have hj2 := x_some_lt hlt0 hne; exact ((fr57 j (by omega)).trans (fr56 j (by omega) (by omega)))))⟩, hm58, hm59, hm60, hm61, ⟨_, ⟨_, _, _, _, _, _, _, _, _, _, hm62⟩, hco⟩, ⟨_, _, _, hm63, hm65⟩, hm66, hm67, ⟨_, hm68⟩, hm69, hm70, hm71, hm72, ⟨_, _, hm73, hovn, hovh⟩⟩
  refine q_callrB (xs := [(6, 0, 0)]) (p2 := 131) rfl rfl rfl rfl (x_rcv_s 0 hs57_0) rfl (zc_read  hGz74 (by omega) hpv (by omega) hroom (((x_s_ne (by decide)).trans ((x_s_ne (by decide)).trans ((x_s_ne (by decide)).trans ((x_s_ne (by decide)).trans ((x_s_ne (by decide)).trans ((x_s_ne (by decide)).trans ((x_s_ne (by decide)).trans ((x_s_ne (by decide)).trans ((x_s_ne (by decide)).trans ((x_s_ne (by decide)).trans ((x_s_ne (by decide)).trans ((x_s_ne (by decide)).trans ((x_s_ne (by decide)).trans ((x_s_ne (by decide)).trans ((x_s_ne (by decide)).trans ((x_s_ne (by decide)).trans ((x_s_ne (by decide)).trans ((x_s_ne (by decide)).trans ((x_s_ne (by decide)).trans (x_s_eq))))))))))))))))))))) (((x_s_ne (by decide)).trans ((x_s_ne (by decide)).trans ((x_s_ne (by decide)).trans ((x_s_ne (by decide)).trans ((x_s_ne (by decide)).trans ((x_s_ne (by decide)).trans ((x_s_ne (by decide)).trans ((x_s_ne (by decide)).trans ((x_s_ne (by decide)).trans ((x_s_ne (by decide)).trans ((x_s_ne (by decide)).trans ((x_s_ne (by decide)).trans ((x_s_ne (by decide)).trans ((x_s_ne (by decide)).trans ((x_s_ne (by decide)).trans ((x_s_ne (by decide)).trans ((x_s_ne (by decide)).trans ((x_s_ne (by decide)).trans (x_s_eq)))))))))))))))))))) (((x_s_ne (by decide)).trans ((x_s_ne (by decide)).trans ((x_s_ne (by decide)).trans ((x_s_ne (by decide)).trans ((x_s_ne (by decide)).trans ((x_s_ne (by decide)).trans ((x_s_ne (by decide)).trans ((x_s_ne (by decide)).trans ((x_s_ne (by decide)).trans ((x_s_ne (by decide)).trans ((x_s_ne (by decide)).trans ((x_s_ne (by decide)).trans ((x_s_ne (by decide)).trans ((x_s_ne (by decide)).trans ((x_s_ne (by decide)).trans ((x_s_ne (by decide)).trans ((x_s_ne (by decide)).trans (x_s_eq))))))))))))))))))) (((x_s_ne (by decide)).trans ((x_s_ne (by decide)).trans ((x_s_ne (by decide)).trans ((x_s_ne (by decide)).trans ((x_s_ne (by decide)).trans ((x_s_ne (by decide)).trans ((x_s_ne (by decide)).trans ((x_s_ne (by decide)).trans ((x_s_ne (by decide)).trans ((x_s_ne (by decide)).trans ((x_s_ne (by decide)).trans ((x_s_ne (by decide)).trans ((x_s_ne (by decide)).trans ((x_s_ne (by decide)).trans ((x_s_ne (by decide)).trans ((x_s_ne (by decide)).trans (x_s_eq)))))))))))))))))) (((x_s_ne (by decide)).trans ((x_s_ne (by decide)).trans ((x_s_ne (by decide)).trans ((x_s_ne (by decide)).trans ((x_s_ne (by decide)).trans ((x_s_ne (by decide)).trans ((x_s_ne (by decide)).trans ((x_s_ne (by decide)).trans ((x_s_ne (by decide)).trans ((x_s_ne (by decide)).trans ((x_s_ne (by decide)).trans ((x_s_ne (by decide)).trans ((x_s_ne (by decide)).trans ((x_s_ne (by decide)).trans ((x_s_ne (by decide)).trans (x_s_eq))))))))))))))))) (((x_s_ne (by decide)).trans ((x_s_ne (by decide)).trans ((x_s_ne (by decide)).trans ((x_s_ne (by decide)).trans ((x_s_ne (by decide)).trans ((x_s_ne (by decide)).trans ((x_s_ne (by decide)).trans ((x_s_ne (by decide)).trans ((x_s_ne (by decide)).trans ((x_s_ne (by decide)).trans ((x_s_ne (by decide)).trans ((x_s_ne (by decide)).trans ((x_s_ne (by decide)).trans ((x_s_ne (by decide)).trans (x_s_eq)))))))))))))))) (((x_s_ne (by decide)).trans ((x_s_ne (by decide)).trans ((x_s_ne (by decide)).trans ((x_s_ne (by decide)).trans ((x_s_ne (by decide)).trans ((x_s_ne (by decide)).trans ((x_s_ne (by decide)).trans ((x_s_ne (by decide)).trans ((x_s_ne (by decide)).trans ((x_s_ne (by decide)).trans ((x_s_ne (by decide)).trans ((x_s_ne (by decide)).trans ((x_s_ne (by decide)).trans (x_s_eq)))))))))))))))) rfl (fun w74 φ74 n74 sl74 hn74 hN74 hs74 hT74 hR74 => ?_)
  obtain ⟨hwz74, hGr74⟩ := hR74
  subst hwz74
  have hG := hGr74
  skip
  obtain ⟨⟨hand, ie, hH, hhw⟩, hB, hTJ, hEJ, hN, hKJ, ⟨A, B, s9, hPS, hLK0⟩, hSP, hV5, ⟨slq, hSL⟩, hRW, hJ, hFJ, hWJ, ⟨ovn, ovh, hOV, hovn, hovh⟩⟩ := hG
  refine x_n_lt (fun hlt0 => ?_)
  have hmade := x_PS_lt hPS
  obtain ⟨co, ⟨top_, fr_, pc_, mm, st, lo, re, rs, fl, se, hKS⟩, hco⟩ := hKJ
  refine q_const (p2 := 132) rfl rfl ?_
  refine q_icmp (p2 := 133) rfl (by decide) rfl (fun hb => absurd hb (show ¬ (¬ (2147483638 = 2147483638)) by decide)) (fun _ => ?_)
  refine q_load (v := (6, 0, 0)) (p2 := 134) rfl rfl rfl rfl ?_
  have hGz76 : zG φ74 0 (x_s (x_s (x_s (x_s (x_s (x_s (x_s (x_s (x_s (x_s (x_s (x_s (x_s (x_s (x_s (x_s (x_s (x_s (x_s (x_s (x_s (x_s (x_s (x_s (x_s (x_s (x_s (x_s (x_s (x_s (x_s (x_s (x_s (x_s (x_s (x_s (x_s (x_s (x_s (x_s tp 0 35) 1 48) 2 43) 3 32) 4 32) 5 32) 6 32) 7 32) 8 32) 9 32) 10 32) 11 32) 12 32) 13 32) 14 32) 15 32) 16 32) 17 32) 18 32) 19 32) 0 35) 1 49) 2 61) 3 97) 4 40) 5 41) 6 59) 7 32) 8 32) 9 32) 10 32) 11 32) 12 32) 13 32) 14 32) 15 32) 16 32) 17 32) 18 32) 19 32) 2 mi made 0 svm (x_s comb made 1) (x_em made hm) sc sm mh noted verd ins ver sz bw := ⟨⟨_, _, hH, hhw⟩, hB, hTJ, hEJ, hN, ⟨_, ⟨_, _, _, _, _, _, _, _, _, _, hKS⟩, hco⟩, ⟨_, _, _, hPS, hLK0⟩, hSP, hV5, ⟨_, hSL⟩, hRW, hJ, hFJ, hWJ, ⟨_, _, hOV, hovn, hovh⟩⟩
  refine q_callr (xs := [(6, 0, 0)]) (p2 := 135) rfl rfl rfl rfl (x_rcv_s 0 hH) rfl (zc_fault  hGz76 (by omega) ) (Nat.le_refl _) (Nat.le_refl _) rfl ?_
  refine q_const (p2 := 136) rfl rfl ?_
  refine q_icmp_s (p2 := 137) rfl (by decide) (by omega) (by omega) rfl (fun hb => absurd hb (show ¬ (¬ (2 = 2)) by omega)) (fun _ => ?_)
  refine q_const (p2 := 138) rfl rfl ?_
  refine q_goto rfl ?_
  exact q_retv (v := (0, 1, 0)) rfl rfl (⟨rfl, ⟨by omega, by omega⟩, ⟨by omega, by omega⟩, _, rfl, ⟨⟨_, _, hH, hhw⟩, hB, hTJ, hEJ, hN, ⟨_, ⟨_, _, _, _, _, _, _, _, _, _, hKS⟩, hco⟩, ⟨_, _, _, hPS, hLK0⟩, hSP, hV5, ⟨_, hSL⟩, hRW, hJ, hFJ, hWJ, ⟨_, _, hOV, hovn, hovh⟩⟩⟩)
set_option maxHeartbeats 2000000 in
theorem zc_refuses40 {d n sl : Nat} {φ : FH} {tp : Nat → Nat} {lf : Nat} {mi : Nat} {svm : Nat} {comb : Nat → Nat} {hm : Nat → MV} {sc : Nat → Nat} {sm : Nat → MV} {mh : MV} {noted : Nat} {verd : Nat} {ins : Nat → Nat} {ver : Nat → Nat} {sz : Nat} {bw : Nat → Nat} {x lo8 fa_ : Nat} (hG : zG φ 0 tp lf mi 40 0 svm comb hm sc sm mh noted verd ins ver sz bw) (hn0 : 486 ≤ n) (hpv : ∀ i, x_pv2 (hm i)) (hmi : mi + 300 ≤ 20000) (hx32 : x < 4294967296) (hf0 : x &&& 255 = lo8) (hlo : lo8 < 256) (hfa : 60 + lo8 = fa_)  : x_f x_P (d + 26) 8 [(6, 0, 0), (0, x, 0), (11, 0, 0), (11, 0, 0)] φ n sl (x_bR n sl 0 0 (fun zw φ2 => ∃ tpZ : Nat → Nat, zw = (0, 1, 0) ∧ zG φ2 0 tpZ 2 mi 40 0 svm (x_s comb 40 1) hm sc sm mh noted verd ins ver sz bw)) := by
  refine x_f_of rfl ?_
  have hG0 := hG
  obtain ⟨⟨hand, ie, hH, hhw⟩, hB, hTJ, hEJ, hN, hKJ, ⟨A, B, s9, hPS, hLK0⟩, hSP, hV5, ⟨slq, hSL⟩, hRW, hJ, hFJ, hWJ, ⟨ovn, ovh, hOV, hovn, hovh⟩⟩ := hG
  refine x_n_lt (fun hlt0 => ?_)
  have hmade := x_PS_lt hPS
  obtain ⟨co, ⟨top_, fr_, pc_, mm, st, lo, re, rs, fl, se, hKS⟩, hco⟩ := hKJ
  refine q_const (p2 := 1) rfl rfl ?_
  refine q_load (v := (0, x, 0)) (p2 := 2) rfl rfl rfl rfl ?_
  refine q_const (p2 := 3) rfl rfl ?_
  refine q_iandz (z := lo8) (p2 := 4) rfl hf0 (by omega) rfl ?_
  refine q_iaddz (z := fa_) (p2 := 5) rfl (by omega) (by omega) rfl ?_
  refine q_store (loc2 := [(6, 0, 0), (0, x, 0), (0, fa_, 0), (11, 0, 0)]) (p2 := 6) rfl rfl rfl rfl rfl ?_
  refine q_load (v := (6, 0, 0)) (p2 := 7) rfl rfl rfl rfl ?_
  refine q_const (p2 := 8) rfl rfl ?_
  have hGz1 : zG φ 0 tp lf mi 40 0 svm comb hm sc sm mh noted verd ins ver sz bw := ⟨⟨_, _, hH, hhw⟩, hB, hTJ, hEJ, hN, ⟨_, ⟨_, _, _, _, _, _, _, _, _, _, hKS⟩, hco⟩, ⟨_, _, _, hPS, hLK0⟩, hSP, hV5, ⟨_, hSL⟩, hRW, hJ, hFJ, hWJ, ⟨_, _, hOV, hovn, hovh⟩⟩
  refine q_callrB (xs := [(0, 8, 0), (6, 0, 0)]) (p2 := 9) rfl rfl rfl rfl (x_rcv_s 0 hH) rfl (zc_make_8  hGz1 (by omega) hpv (by omega) ) rfl (fun w1 φ1 n1 sl1 hn1 hN1 hs1 hT1 hR1 => ?_)
  obtain ⟨hwz1, hGr1⟩ := hR1
  subst hwz1
  have hG := hGr1
  skip
  obtain ⟨⟨hand, ie, hH, hhw⟩, hB, hTJ, hEJ, hN, hKJ, ⟨A, B, s9, hPS, hLK0⟩, hSP, hV5, ⟨slq, hSL⟩, hRW, hJ, hFJ, hWJ, ⟨ovn, ovh, hOV, hovn, hovh⟩⟩ := hG
  refine x_n_lt (fun hlt0 => ?_)
  have hmade := x_PS_lt hPS
  obtain ⟨co, ⟨top_, fr_, pc_, mm, st, lo, re, rs, fl, se, hKS⟩, hco⟩ := hKJ
  refine q_const (p2 := 10) rfl rfl ?_
  refine q_icmp (p2 := 11) rfl (by decide) rfl (fun hb => absurd hb (show ¬ (¬ (2147483647 = 2147483647)) by decide)) (fun _ => ?_)
  refine q_load (v := (6, 0, 0)) (p2 := 12) rfl rfl rfl rfl ?_
  refine q_const (p2 := 13) rfl rfl ?_
  have hGz3 : zG φ1 0 tp lf mi 40 0 svm comb hm sc sm mh noted verd ins ver sz bw := ⟨⟨_, _, hH, hhw⟩, hB, hTJ, hEJ, hN, ⟨_, ⟨_, _, _, _, _, _, _, _, _, _, hKS⟩, hco⟩, ⟨_, _, _, hPS, hLK0⟩, hSP, hV5, ⟨_, hSL⟩, hRW, hJ, hFJ, hWJ, ⟨_, _, hOV, hovn, hovh⟩⟩
  refine q_callrB (xs := [(0, 0, 0), (6, 0, 0)]) (p2 := 14) rfl rfl rfl rfl (x_rcv_s 0 hH) rfl (zc_make_0  hGz3 (by omega) hpv (by omega) ) rfl (fun w3 φ3 n3 sl3 hn3 hN3 hs3 hT3 hR3 => ?_)
  obtain ⟨hwz3, hGr3⟩ := hR3
  subst hwz3
  have hG := hGr3
  skip
  obtain ⟨⟨hand, ie, hH, hhw⟩, hB, hTJ, hEJ, hN, hKJ, ⟨A, B, s9, hPS, hLK0⟩, hSP, hV5, ⟨slq, hSL⟩, hRW, hJ, hFJ, hWJ, ⟨ovn, ovh, hOV, hovn, hovh⟩⟩ := hG
  refine x_n_lt (fun hlt0 => ?_)
  have hmade := x_PS_lt hPS
  obtain ⟨co, ⟨top_, fr_, pc_, mm, st, lo, re, rs, fl, se, hKS⟩, hco⟩ := hKJ
  refine q_const (p2 := 15) rfl rfl ?_
  refine q_icmp (p2 := 16) rfl (by decide) rfl (fun hb => absurd hb (show ¬ (¬ (2147483637 = 2147483637)) by decide)) (fun _ => ?_)
  refine q_load (v := (6, 0, 0)) (p2 := 17) rfl rfl rfl rfl ?_
  refine q_const (p2 := 18) rfl rfl ?_
  have hGz5 : zG φ3 0 tp lf mi 40 0 svm comb hm sc sm mh noted verd ins ver sz bw := ⟨⟨_, _, hH, hhw⟩, hB, hTJ, hEJ, hN, ⟨_, ⟨_, _, _, _, _, _, _, _, _, _, hKS⟩, hco⟩, ⟨_, _, _, hPS, hLK0⟩, hSP, hV5, ⟨_, hSL⟩, hRW, hJ, hFJ, hWJ, ⟨_, _, hOV, hovn, hovh⟩⟩
  refine q_callrB (xs := [(0, 6, 0), (6, 0, 0)]) (p2 := 19) rfl rfl rfl rfl (x_rcv_s 0 hH) rfl (zc_make_6  hGz5 (by omega) hpv (by omega) ) rfl (fun w5 φ5 n5 sl5 hn5 hN5 hs5 hT5 hR5 => ?_)
  obtain ⟨hwz5, hGr5⟩ := hR5
  subst hwz5
  have hG := hGr5
  skip
  obtain ⟨⟨hand, ie, hH, hhw⟩, hB, hTJ, hEJ, hN, hKJ, ⟨A, B, s9, hPS, hLK0⟩, hSP, hV5, ⟨slq, hSL⟩, hRW, hJ, hFJ, hWJ, ⟨ovn, ovh, hOV, hovn, hovh⟩⟩ := hG
  refine x_n_lt (fun hlt0 => ?_)
  have hmade := x_PS_lt hPS
  obtain ⟨co, ⟨top_, fr_, pc_, mm, st, lo, re, rs, fl, se, hKS⟩, hco⟩ := hKJ
  refine q_const (p2 := 20) rfl rfl ?_
  refine q_icmp (p2 := 21) rfl (by decide) rfl (fun hb => absurd hb (show ¬ (¬ (2147483636 = 2147483636)) by decide)) (fun _ => ?_)
  refine q_load (v := (6, 0, 0)) (p2 := 22) rfl rfl rfl rfl ?_
  refine q_const (p2 := 23) rfl rfl ?_
  have hGz7 : zG φ5 0 tp lf mi 40 0 svm comb hm sc sm mh noted verd ins ver sz bw := ⟨⟨_, _, hH, hhw⟩, hB, hTJ, hEJ, hN, ⟨_, ⟨_, _, _, _, _, _, _, _, _, _, hKS⟩, hco⟩, ⟨_, _, _, hPS, hLK0⟩, hSP, hV5, ⟨_, hSL⟩, hRW, hJ, hFJ, hWJ, ⟨_, _, hOV, hovn, hovh⟩⟩
  refine q_callrB (xs := [(0, 1, 0), (6, 0, 0)]) (p2 := 24) rfl rfl rfl rfl (x_rcv_s 0 hH) rfl (zc_make_1  hGz7 (by omega) hpv (by omega) ) rfl (fun w7 φ7 n7 sl7 hn7 hN7 hs7 hT7 hR7 => ?_)
  obtain ⟨hwz7, hGr7⟩ := hR7
  subst hwz7
  have hG := hGr7
  skip
  obtain ⟨⟨hand, ie, hH, hhw⟩, hB, hTJ, hEJ, hN, hKJ, ⟨A, B, s9, hPS, hLK0⟩, hSP, hV5, ⟨slq, hSL⟩, hRW, hJ, hFJ, hWJ, ⟨ovn, ovh, hOV, hovn, hovh⟩⟩ := hG
  refine x_n_lt (fun hlt0 => ?_)
  have hmade := x_PS_lt hPS
  obtain ⟨co, ⟨top_, fr_, pc_, mm, st, lo, re, rs, fl, se, hKS⟩, hco⟩ := hKJ
  refine q_const (p2 := 25) rfl rfl ?_
  refine q_icmp (p2 := 26) rfl (by decide) rfl (fun hb => absurd hb (show ¬ (¬ (2147483634 = 2147483634)) by decide)) (fun _ => ?_)
  refine q_load (v := (6, 0, 0)) (p2 := 27) rfl rfl rfl rfl ?_
  refine q_const (p2 := 28) rfl rfl ?_
  have hGz9 : zG φ7 0 tp lf mi 40 0 svm comb hm sc sm mh noted verd ins ver sz bw := ⟨⟨_, _, hH, hhw⟩, hB, hTJ, hEJ, hN, ⟨_, ⟨_, _, _, _, _, _, _, _, _, _, hKS⟩, hco⟩, ⟨_, _, _, hPS, hLK0⟩, hSP, hV5, ⟨_, hSL⟩, hRW, hJ, hFJ, hWJ, ⟨_, _, hOV, hovn, hovh⟩⟩
  refine q_callrB (xs := [(0, 7, 0), (6, 0, 0)]) (p2 := 29) rfl rfl rfl rfl (x_rcv_s 0 hH) rfl (zc_make_7  hGz9 (by omega) hpv (by omega) ) rfl (fun w9 φ9 n9 sl9 hn9 hN9 hs9 hT9 hR9 => ?_)
  obtain ⟨hwz9, hGr9⟩ := hR9
  subst hwz9
  have hG := hGr9
  skip
  obtain ⟨⟨hand, ie, hH, hhw⟩, hB, hTJ, hEJ, hN, hKJ, ⟨A, B, s9, hPS, hLK0⟩, hSP, hV5, ⟨slq, hSL⟩, hRW, hJ, hFJ, hWJ, ⟨ovn, ovh, hOV, hovn, hovh⟩⟩ := hG
  refine x_n_lt (fun hlt0 => ?_)
  have hmade := x_PS_lt hPS
  obtain ⟨co, ⟨top_, fr_, pc_, mm, st, lo, re, rs, fl, se, hKS⟩, hco⟩ := hKJ
  refine q_const (p2 := 30) rfl rfl ?_
  refine q_icmp (p2 := 31) rfl (by decide) rfl (fun hb => absurd hb (show ¬ (¬ (2147483633 = 2147483633)) by decide)) (fun _ => ?_)
  refine q_load (v := (6, 0, 0)) (p2 := 32) rfl rfl rfl rfl ?_
  refine q_load (v := (0, fa_, 0)) (p2 := 33) rfl rfl rfl rfl ?_
  have hGz11 : zG φ9 0 tp lf mi 40 0 svm comb hm sc sm mh noted verd ins ver sz bw := ⟨⟨_, _, hH, hhw⟩, hB, hTJ, hEJ, hN, ⟨_, ⟨_, _, _, _, _, _, _, _, _, _, hKS⟩, hco⟩, ⟨_, _, _, hPS, hLK0⟩, hSP, hV5, ⟨_, hSL⟩, hRW, hJ, hFJ, hWJ, ⟨_, _, hOV, hovn, hovh⟩⟩
  refine q_callrB (xs := [(0, fa_, 0), (6, 0, 0)]) (p2 := 34) rfl rfl rfl rfl (x_rcv_s 0 hH) rfl (zc_row_far (far := fa_) hGz11 (by omega) hpv (by omega) (by omega)) rfl (fun w11 φ11 n11 sl11 hn11 hN11 hs11 hT11 hR11 => ?_)
  obtain ⟨hwz11, hGr11⟩ := hR11
  subst hwz11
  have hG := hGr11
  skip
  obtain ⟨⟨hand, ie, hH, hhw⟩, hB, hTJ, hEJ, hN, hKJ, ⟨A, B, s9, hPS, hLK0⟩, hSP, hV5, ⟨slq, hSL⟩, hRW, hJ, hFJ, hWJ, ⟨ovn, ovh, hOV, hovn, hovh⟩⟩ := hG
  refine x_n_lt (fun hlt0 => ?_)
  have hmade := x_PS_lt hPS
  obtain ⟨co, ⟨top_, fr_, pc_, mm, st, lo, re, rs, fl, se, hKS⟩, hco⟩ := hKJ
  refine q_const (p2 := 35) rfl rfl ?_
  refine q_icmp (p2 := 36) rfl (by decide) rfl (fun hb => absurd hb (show ¬ (¬ (2147483647 = 2147483647)) by decide)) (fun _ => ?_)
  refine q_load (v := (6, 0, 0)) (p2 := 37) rfl rfl rfl rfl ?_
  refine q_load (v := (0, fa_, 0)) (p2 := 38) rfl rfl rfl rfl ?_
  have hGz13 : zG φ11 0 tp lf mi 40 0 svm comb hm sc sm mh noted verd ins ver sz bw := ⟨⟨_, _, hH, hhw⟩, hB, hTJ, hEJ, hN, ⟨_, ⟨_, _, _, _, _, _, _, _, _, _, hKS⟩, hco⟩, ⟨_, _, _, hPS, hLK0⟩, hSP, hV5, ⟨_, hSL⟩, hRW, hJ, hFJ, hWJ, ⟨_, _, hOV, hovn, hovh⟩⟩
  refine q_callrB (xs := [(0, fa_, 0), (6, 0, 0)]) (p2 := 39) rfl rfl rfl rfl (x_rcv_s 0 hH) rfl (zc_drop_far (far := fa_) hGz13 (by omega) hpv (by omega) (by omega)) rfl (fun w13 φ13 n13 sl13 hn13 hN13 hs13 hT13 hR13 => ?_)
  obtain ⟨hwz13, hGr13⟩ := hR13
  subst hwz13
  have hG := hGr13
  skip
  obtain ⟨⟨hand, ie, hH, hhw⟩, hB, hTJ, hEJ, hN, hKJ, ⟨A, B, s9, hPS, hLK0⟩, hSP, hV5, ⟨slq, hSL⟩, hRW, hJ, hFJ, hWJ, ⟨ovn, ovh, hOV, hovn, hovh⟩⟩ := hG
  refine x_n_lt (fun hlt0 => ?_)
  have hmade := x_PS_lt hPS
  obtain ⟨co, ⟨top_, fr_, pc_, mm, st, lo, re, rs, fl, se, hKS⟩, hco⟩ := hKJ
  refine q_const (p2 := 40) rfl rfl ?_
  refine q_icmp (p2 := 41) rfl (by decide) rfl (fun hb => absurd hb (show ¬ (¬ (2147483647 = 2147483647)) by decide)) (fun _ => ?_)
  refine q_load (v := (6, 0, 0)) (p2 := 42) rfl rfl rfl rfl ?_
  refine q_load (v := (0, fa_, 0)) (p2 := 43) rfl rfl rfl rfl ?_
  refine q_const (p2 := 44) rfl rfl ?_
  have hGz15 : zG φ13 0 tp lf mi 40 0 svm comb hm sc sm mh noted verd ins ver sz bw := ⟨⟨_, _, hH, hhw⟩, hB, hTJ, hEJ, hN, ⟨_, ⟨_, _, _, _, _, _, _, _, _, _, hKS⟩, hco⟩, ⟨_, _, _, hPS, hLK0⟩, hSP, hV5, ⟨_, hSL⟩, hRW, hJ, hFJ, hWJ, ⟨_, _, hOV, hovn, hovh⟩⟩
  refine q_callrB (xs := [(0, 0, 0), (0, fa_, 0), (6, 0, 0)]) (p2 := 45) rfl rfl rfl rfl (x_rcv_s 0 hH) rfl (zc_set_far (far := fa_) hGz15 (by omega) hpv (by omega) (by omega)) rfl (fun w15 φ15 n15 sl15 hn15 hN15 hs15 hT15 hR15 => ?_)
  obtain ⟨hwz15, hGr15⟩ := hR15
  subst hwz15
  have hG := hGr15
  skip
  obtain ⟨⟨hand, ie, hH, hhw⟩, hB, hTJ, hEJ, hN, hKJ, ⟨A, B, s9, hPS, hLK0⟩, hSP, hV5, ⟨slq, hSL⟩, hRW, hJ, hFJ, hWJ, ⟨ovn, ovh, hOV, hovn, hovh⟩⟩ := hG
  refine x_n_lt (fun hlt0 => ?_)
  have hmade := x_PS_lt hPS
  obtain ⟨co, ⟨top_, fr_, pc_, mm, st, lo, re, rs, fl, se, hKS⟩, hco⟩ := hKJ
  refine q_const (p2 := 46) rfl rfl ?_
  refine q_icmp (p2 := 47) rfl (by decide) rfl (fun hb => absurd hb (show ¬ (¬ (2147483647 = 2147483647)) by decide)) (fun _ => ?_)
  refine q_load (v := (6, 0, 0)) (p2 := 48) rfl rfl rfl rfl ?_
  refine q_const (p2 := 49) rfl rfl ?_
  refine q_load (v := (0, fa_, 0)) (p2 := 50) rfl rfl rfl rfl ?_
  have hGz17 : zG φ15 0 tp lf mi 40 0 svm comb hm sc sm mh noted verd ins ver sz bw := ⟨⟨_, _, hH, hhw⟩, hB, hTJ, hEJ, hN, ⟨_, ⟨_, _, _, _, _, _, _, _, _, _, hKS⟩, hco⟩, ⟨_, _, _, hPS, hLK0⟩, hSP, hV5, ⟨_, hSL⟩, hRW, hJ, hFJ, hWJ, ⟨_, _, hOV, hovn, hovh⟩⟩
  refine q_callrB (xs := [(0, fa_, 0), (0, 0, 0), (6, 0, 0)]) (p2 := 51) rfl rfl rfl rfl (x_rcv_s 0 hH) rfl (zc_get_far (far := fa_) hGz17 (by omega) hpv (by omega) (by omega)) rfl (fun w17 φ17 n17 sl17 hn17 hN17 hs17 hT17 hR17 => ?_)
  obtain ⟨hwz17, hGr17⟩ := hR17
  subst hwz17
  have hG := hGr17
  skip
  obtain ⟨⟨hand, ie, hH, hhw⟩, hB, hTJ, hEJ, hN, hKJ, ⟨A, B, s9, hPS, hLK0⟩, hSP, hV5, ⟨slq, hSL⟩, hRW, hJ, hFJ, hWJ, ⟨ovn, ovh, hOV, hovn, hovh⟩⟩ := hG
  refine x_n_lt (fun hlt0 => ?_)
  have hmade := x_PS_lt hPS
  obtain ⟨co, ⟨top_, fr_, pc_, mm, st, lo, re, rs, fl, se, hKS⟩, hco⟩ := hKJ
  refine q_const (p2 := 52) rfl rfl ?_
  refine q_icmp (p2 := 53) rfl (by decide) rfl (fun hb => absurd hb (show ¬ (¬ (2147483647 = 2147483647)) by decide)) (fun _ => ?_)
  refine q_load (v := (6, 0, 0)) (p2 := 54) rfl rfl rfl rfl ?_
  refine q_const (p2 := 55) rfl rfl ?_
  have hGz19 : zG φ17 0 tp lf mi 40 0 svm comb hm sc sm mh noted verd ins ver sz bw := ⟨⟨_, _, hH, hhw⟩, hB, hTJ, hEJ, hN, ⟨_, ⟨_, _, _, _, _, _, _, _, _, _, hKS⟩, hco⟩, ⟨_, _, _, hPS, hLK0⟩, hSP, hV5, ⟨_, hSL⟩, hRW, hJ, hFJ, hWJ, ⟨_, _, hOV, hovn, hovh⟩⟩
  refine q_callrB (xs := [(0, 4, 0), (6, 0, 0)]) (p2 := 56) rfl rfl rfl rfl (x_rcv_s 0 hH) rfl (zc_keep_4  hGz19 (by omega) hpv (by omega) ) rfl (fun w19 φ19 n19 sl19 hn19 hN19 hs19 hT19 hR19 => ?_)
  obtain ⟨hwz19, hGr19⟩ := hR19
  subst hwz19
  have hG := hGr19
  skip
  obtain ⟨⟨hand, ie, hH, hhw⟩, hB, hTJ, hEJ, hN, hKJ, ⟨A, B, s9, hPS, hLK0⟩, hSP, hV5, ⟨slq, hSL⟩, hRW, hJ, hFJ, hWJ, ⟨ovn, ovh, hOV, hovn, hovh⟩⟩ := hG
  refine x_n_lt (fun hlt0 => ?_)
  have hmade := x_PS_lt hPS
  obtain ⟨co, ⟨top_, fr_, pc_, mm, st, lo, re, rs, fl, se, hKS⟩, hco⟩ := hKJ
  refine q_const (p2 := 57) rfl rfl ?_
  refine q_icmp (p2 := 58) rfl (by decide) rfl (fun hb => absurd hb (show ¬ (¬ (2147483647 = 2147483647)) by decide)) (fun _ => ?_)
  refine q_load (v := (6, 0, 0)) (p2 := 59) rfl rfl rfl rfl ?_
  refine q_load (v := (0, fa_, 0)) (p2 := 60) rfl rfl rfl rfl ?_
  have hGz21 : zG φ19 0 tp lf mi 40 0 svm comb hm sc sm mh noted verd ins ver sz bw := ⟨⟨_, _, hH, hhw⟩, hB, hTJ, hEJ, hN, ⟨_, ⟨_, _, _, _, _, _, _, _, _, _, hKS⟩, hco⟩, ⟨_, _, _, hPS, hLK0⟩, hSP, hV5, ⟨_, hSL⟩, hRW, hJ, hFJ, hWJ, ⟨_, _, hOV, hovn, hovh⟩⟩
  refine q_callrB (xs := [(0, fa_, 0), (6, 0, 0)]) (p2 := 61) rfl rfl rfl rfl (x_rcv_s 0 hH) rfl (zc_judge_bad (r := fa_) hGz21 (by omega) hpv (by omega) (by omega)) rfl (fun w21 φ21 n21 sl21 hn21 hN21 hs21 hT21 hR21 => ?_)
  obtain ⟨hwz21, hGr21⟩ := hR21
  subst hwz21
  have hG := hGr21
  skip
  obtain ⟨⟨hand, ie, hH, hhw⟩, hB, hTJ, hEJ, hN, hKJ, ⟨A, B, s9, hPS, hLK0⟩, hSP, hV5, ⟨slq, hSL⟩, hRW, hJ, hFJ, hWJ, ⟨ovn, ovh, hOV, hovn, hovh⟩⟩ := hG
  refine x_n_lt (fun hlt0 => ?_)
  have hmade := x_PS_lt hPS
  obtain ⟨co, ⟨top_, fr_, pc_, mm, st, lo, re, rs, fl, se, hKS⟩, hco⟩ := hKJ
  refine q_const (p2 := 62) rfl rfl ?_
  refine q_icmp (p2 := 63) rfl (by decide) rfl (fun hb => absurd hb (show ¬ (¬ (2147483647 = 2147483647)) by decide)) (fun _ => ?_)
  refine q_load (v := (6, 0, 0)) (p2 := 64) rfl rfl rfl rfl ?_
  have hGz23 : zG φ21 0 tp lf mi 40 0 svm comb hm sc sm mh noted verd ins ver sz bw := ⟨⟨_, _, hH, hhw⟩, hB, hTJ, hEJ, hN, ⟨_, ⟨_, _, _, _, _, _, _, _, _, _, hKS⟩, hco⟩, ⟨_, _, _, hPS, hLK0⟩, hSP, hV5, ⟨_, hSL⟩, hRW, hJ, hFJ, hWJ, ⟨_, _, hOV, hovn, hovh⟩⟩
  refine q_callrB (xs := [(6, 0, 0)]) (p2 := 65) rfl rfl rfl rfl (x_rcv_s 0 hH) rfl (zc_commit_no  hGz23 (by omega) hpv (by omega) ) rfl (fun w23 φ23 n23 sl23 hn23 hN23 hs23 hT23 hR23 => ?_)
  obtain ⟨hwz23, hGr23⟩ := hR23
  subst hwz23
  have hG := hGr23
  skip
  obtain ⟨⟨hand, ie, hH, hhw⟩, hB, hTJ, hEJ, hN, hKJ, ⟨A, B, s9, hPS, hLK0⟩, hSP, hV5, ⟨slq, hSL⟩, hRW, hJ, hFJ, hWJ, ⟨ovn, ovh, hOV, hovn, hovh⟩⟩ := hG
  refine x_n_lt (fun hlt0 => ?_)
  have hmade := x_PS_lt hPS
  obtain ⟨co, ⟨top_, fr_, pc_, mm, st, lo, re, rs, fl, se, hKS⟩, hco⟩ := hKJ
  refine q_const (p2 := 66) rfl rfl ?_
  refine q_icmp (p2 := 67) rfl (by decide) rfl (fun hb => absurd hb (show ¬ (¬ (2147483645 = 2147483645)) by decide)) (fun _ => ?_)
  refine q_load (v := (6, 0, 0)) (p2 := 68) rfl rfl rfl rfl ?_
  have hGz25 : zG φ23 0 tp lf mi 40 0 svm comb hm sc sm mh noted verd ins ver sz bw := ⟨⟨_, _, hH, hhw⟩, hB, hTJ, hEJ, hN, ⟨_, ⟨_, _, _, _, _, _, _, _, _, _, hKS⟩, hco⟩, ⟨_, _, _, hPS, hLK0⟩, hSP, hV5, ⟨_, hSL⟩, hRW, hJ, hFJ, hWJ, ⟨_, _, hOV, hovn, hovh⟩⟩
  refine q_callrB (xs := [(6, 0, 0)]) (p2 := 69) rfl rfl rfl rfl (x_rcv_s 0 hH) rfl (zc_abort_no  hGz25 (by omega) hpv (by omega) ) rfl (fun w25 φ25 n25 sl25 hn25 hN25 hs25 hT25 hR25 => ?_)
  obtain ⟨hwz25, hGr25⟩ := hR25
  subst hwz25
  have hG := hGr25
  skip
  obtain ⟨⟨hand, ie, hH, hhw⟩, hB, hTJ, hEJ, hN, hKJ, ⟨A, B, s9, hPS, hLK0⟩, hSP, hV5, ⟨slq, hSL⟩, hRW, hJ, hFJ, hWJ, ⟨ovn, ovh, hOV, hovn, hovh⟩⟩ := hG
  refine x_n_lt (fun hlt0 => ?_)
  have hmade := x_PS_lt hPS
  obtain ⟨co, ⟨top_, fr_, pc_, mm, st, lo, re, rs, fl, se, hKS⟩, hco⟩ := hKJ
  refine q_const (p2 := 70) rfl rfl ?_
  refine q_icmp (p2 := 71) rfl (by decide) rfl (fun hb => absurd hb (show ¬ (¬ (2147483645 = 2147483645)) by decide)) (fun _ => ?_)
  refine q_load (v := (6, 0, 0)) (p2 := 72) rfl rfl rfl rfl ?_
  refine q_const (p2 := 73) rfl rfl ?_
  have hGz27 : zG φ25 0 tp lf mi 40 0 svm comb hm sc sm mh noted verd ins ver sz bw := ⟨⟨_, _, hH, hhw⟩, hB, hTJ, hEJ, hN, ⟨_, ⟨_, _, _, _, _, _, _, _, _, _, hKS⟩, hco⟩, ⟨_, _, _, hPS, hLK0⟩, hSP, hV5, ⟨_, hSL⟩, hRW, hJ, hFJ, hWJ, ⟨_, _, hOV, hovn, hovh⟩⟩
  refine q_callrB (xs := [(0, 4, 0), (6, 0, 0)]) (p2 := 74) rfl rfl rfl rfl (x_rcv_s 0 hH) rfl (zc_take_4  hGz27 (by omega) hpv (by omega) ) rfl (fun w27 φ27 n27 sl27 hn27 hN27 hs27 hT27 hR27 => ?_)
  obtain ⟨hwz27, hGr27⟩ := hR27
  subst hwz27
  have hG := hGr27
  skip
  obtain ⟨⟨hand, ie, hH, hhw⟩, hB, hTJ, hEJ, hN, hKJ, ⟨A, B, s9, hPS, hLK0⟩, hSP, hV5, ⟨slq, hSL⟩, hRW, hJ, hFJ, hWJ, ⟨ovn, ovh, hOV, hovn, hovh⟩⟩ := hG
  refine x_n_lt (fun hlt0 => ?_)
  have hmade := x_PS_lt hPS
  obtain ⟨co, ⟨top_, fr_, pc_, mm, st, lo, re, rs, fl, se, hKS⟩, hco⟩ := hKJ
  refine q_const (p2 := 75) rfl rfl ?_
  refine q_icmp (p2 := 76) rfl (by decide) rfl (fun hb => absurd hb (show ¬ (¬ (2147483647 = 2147483647)) by decide)) (fun _ => ?_)
  refine q_load (v := (6, 0, 0)) (p2 := 77) rfl rfl rfl rfl ?_
  refine q_const (p2 := 78) rfl rfl ?_
  have hGz29 : zG φ27 0 tp lf mi 40 0 svm comb hm sc sm mh noted verd ins ver sz bw := ⟨⟨_, _, hH, hhw⟩, hB, hTJ, hEJ, hN, ⟨_, ⟨_, _, _, _, _, _, _, _, _, _, hKS⟩, hco⟩, ⟨_, _, _, hPS, hLK0⟩, hSP, hV5, ⟨_, hSL⟩, hRW, hJ, hFJ, hWJ, ⟨_, _, hOV, hovn, hovh⟩⟩
  refine q_callrB (xs := [(0, 13, 0), (6, 0, 0)]) (p2 := 79) rfl rfl rfl rfl (x_rcv_s 0 hH) rfl (zc_count_13  hGz29 (by omega) hpv (by omega) ) rfl (fun w29 φ29 n29 sl29 hn29 hN29 hs29 hT29 hR29 => ?_)
  obtain ⟨hwz29, hGr29⟩ := hR29
  subst hwz29
  have hG := hGr29
  skip
  obtain ⟨⟨hand, ie, hH, hhw⟩, hB, hTJ, hEJ, hN, hKJ, ⟨A, B, s9, hPS, hLK0⟩, hSP, hV5, ⟨slq, hSL⟩, hRW, hJ, hFJ, hWJ, ⟨ovn, ovh, hOV, hovn, hovh⟩⟩ := hG
  refine x_n_lt (fun hlt0 => ?_)
  have hmade := x_PS_lt hPS
  obtain ⟨co, ⟨top_, fr_, pc_, mm, st, lo, re, rs, fl, se, hKS⟩, hco⟩ := hKJ
  refine q_const (p2 := 80) rfl rfl ?_
  refine q_icmp (p2 := 81) rfl (by decide) rfl (fun hb => absurd hb (show ¬ (¬ (2147483647 = 2147483647)) by decide)) (fun _ => ?_)
  refine q_load (v := (6, 0, 0)) (p2 := 82) rfl rfl rfl rfl ?_
  refine q_const (p2 := 83) rfl rfl ?_
  have hGz31 : zG φ29 0 tp lf mi 40 0 svm comb hm sc sm mh noted verd ins ver sz bw := ⟨⟨_, _, hH, hhw⟩, hB, hTJ, hEJ, hN, ⟨_, ⟨_, _, _, _, _, _, _, _, _, _, hKS⟩, hco⟩, ⟨_, _, _, hPS, hLK0⟩, hSP, hV5, ⟨_, hSL⟩, hRW, hJ, hFJ, hWJ, ⟨_, _, hOV, hovn, hovh⟩⟩
  refine q_callrB (xs := [(0, 3, 0), (6, 0, 0)]) (p2 := 84) rfl rfl rfl rfl (x_rcv_s 0 hH) rfl (zc_comb_3  hGz31 (by omega) hpv (by omega) ) rfl (fun w31 φ31 n31 sl31 hn31 hN31 hs31 hT31 hR31 => ?_)
  obtain ⟨hwz31, hGr31⟩ := hR31
  subst hwz31
  have hG := hGr31
  skip
  obtain ⟨⟨hand, ie, hH, hhw⟩, hB, hTJ, hEJ, hN, hKJ, ⟨A, B, s9, hPS, hLK0⟩, hSP, hV5, ⟨slq, hSL⟩, hRW, hJ, hFJ, hWJ, ⟨ovn, ovh, hOV, hovn, hovh⟩⟩ := hG
  refine x_n_lt (fun hlt0 => ?_)
  have hmade := x_PS_lt hPS
  obtain ⟨co, ⟨top_, fr_, pc_, mm, st, lo, re, rs, fl, se, hKS⟩, hco⟩ := hKJ
  refine q_const (p2 := 85) rfl rfl ?_
  refine q_icmp (p2 := 86) rfl (by decide) rfl (fun hb => absurd hb (show ¬ (¬ (2147483647 = 2147483647)) by decide)) (fun _ => ?_)
  refine q_load (v := (6, 0, 0)) (p2 := 87) rfl rfl rfl rfl ?_
  refine q_load (v := (0, fa_, 0)) (p2 := 88) rfl rfl rfl rfl ?_
  have hGz33 : zG φ31 0 tp lf mi 40 0 svm comb hm sc sm mh noted verd ins ver sz bw := ⟨⟨_, _, hH, hhw⟩, hB, hTJ, hEJ, hN, ⟨_, ⟨_, _, _, _, _, _, _, _, _, _, hKS⟩, hco⟩, ⟨_, _, _, hPS, hLK0⟩, hSP, hV5, ⟨_, hSL⟩, hRW, hJ, hFJ, hWJ, ⟨_, _, hOV, hovn, hovh⟩⟩
  refine q_callrB (xs := [(0, fa_, 0), (6, 0, 0)]) (p2 := 89) rfl rfl rfl rfl (x_rcv_s 0 hH) rfl (zc_cut_far (far := fa_) hGz33 (by omega) hpv (by omega) (by omega)) rfl (fun w33 φ33 n33 sl33 hn33 hN33 hs33 hT33 hR33 => ?_)
  obtain ⟨hwz33, hGr33⟩ := hR33
  subst hwz33
  have hG := hGr33
  skip
  obtain ⟨⟨hand, ie, hH, hhw⟩, hB, hTJ, hEJ, hN, hKJ, ⟨A, B, s9, hPS, hLK0⟩, hSP, hV5, ⟨slq, hSL⟩, hRW, hJ, hFJ, hWJ, ⟨ovn, ovh, hOV, hovn, hovh⟩⟩ := hG
  refine x_n_lt (fun hlt0 => ?_)
  have hmade := x_PS_lt hPS
  obtain ⟨co, ⟨top_, fr_, pc_, mm, st, lo, re, rs, fl, se, hKS⟩, hco⟩ := hKJ
  refine q_const (p2 := 90) rfl rfl ?_
  refine q_icmp (p2 := 91) rfl (by decide) rfl (fun hb => absurd hb (show ¬ (¬ (2147483647 = 2147483647)) by decide)) (fun _ => ?_)
  refine q_const (p2 := 92) rfl rfl ?_
  refine q_goto rfl ?_
  refine q_store (loc2 := [(6, 0, 0), (0, x, 0), (0, fa_, 0), (0, 1, 0)]) (p2 := 95) rfl rfl rfl rfl rfl ?_
  refine q_load (v := (0, 1, 0)) (p2 := 96) rfl rfl rfl rfl ?_
  refine q_if0_s (p2 := 97) rfl (by decide) (by omega) rfl (fun hb => absurd hb (show ¬ (1 = 0) by omega)) (fun _ => ?_)
  refine q_load (v := (6, 0, 0)) (p2 := 98) rfl rfl rfl rfl ?_
  refine q_const (p2 := 99) rfl rfl ?_
  refine q_const (p2 := 100) rfl rfl ?_
  refine q_const (p2 := 101) rfl rfl ?_
  refine q_const (p2 := 102) rfl rfl ?_
  refine q_const (p2 := 103) rfl rfl ?_
  refine q_callrE (xs := [(0, 538976288, 0), (0, 538976288, 0), (0, 538976288, 0), (0, 538976288, 0), (0, 590359328, 0), (6, 0, 0)]) (p2 := 104) rfl rfl rfl rfl (x_rcv_s 0 hH) rfl (zc_h_feed_err hH hB) (Nat.le_refl _) (Nat.le_refl _) rfl (fun φ35 hR35 => ?_)
  obtain ⟨hs35_0, hs35_1, fr35⟩ := hR35
  refine q_if0_s (p2 := 105) rfl (by decide) (by omega) rfl (fun hb => absurd hb (show ¬ (20 < 0) by omega)) (fun _ => ?_)
  refine q_load (v := (6, 0, 0)) (p2 := 106) rfl rfl rfl rfl ?_
  refine q_const (p2 := 107) rfl rfl ?_
  refine q_callrE (xs := [(0, 17, 0), (6, 0, 0)]) (p2 := 108) rfl rfl rfl rfl (x_rcv_s 0 hs35_0) rfl (zc_h_cut hs35_0 (by omega)) (Nat.le_refl _) (Nat.le_refl _) rfl (fun φ36 hR36 => ?_)
  obtain ⟨hs36_0, fr36⟩ := hR36
  refine q_if0_s (p2 := 109) rfl (by decide) (by omega) rfl (fun hb => absurd hb (show ¬ (3 < 0) by omega)) (fun _ => ?_)
  refine q_load (v := (6, 0, 0)) (p2 := 110) rfl rfl rfl rfl ?_
  have hm37 := (zq_tp_at hs35_1 (fr36 1 (by decide)))
  have hm38 := (zTJ_at hTJ (fun j h1 h2 => ((fr36 j (by omega)).trans (fr35 j (by omega) (by omega)))))
  have hm39 := (zEJ_at hEJ (fun j h1 h2 => ((fr36 j (by omega)).trans (fr35 j (by omega) (by omega)))))
  have hm40 := (zq_nm_at hN ((fr36 239 (by decide)).trans (fr35 239 (by decide) (by decide))) ((fr36 242 (by decide)).trans (fr35 242 (by decide) (by decide))) ((fr36 244 (by decide)).trans (fr35 244 (by decide) (by decide))))
  have hm41 := (x_KS_at2 hKS (fun j h1 h2 h3 h4 => ((fr36 j (by omega)).trans (fr35 j (by omega) (by omega)))))
  refine x_n_lt (fun hlt43 => ?_)
  have hm42 := (x_PS_at hPS (fun j hj hne => by have hj2 := x_some_lt hlt0 hne; exact ((fr36 j (by omega)).trans (fr35 j (by omega) (by omega)))))
  have hm44 := (x_LK_at2 hLK0 (fun j h1 h2 => ((fr36 j (by omega)).trans (fr35 j (by omega) (by omega)))))
  have hm45 := (x_SP_at hSP (fun j hj hne => by have hj2 := x_some_lt hlt0 hne; exact ((fr36 j (by omega)).trans (fr35 j (by omega) (by omega)))))
  have hm46 := (zq_V5_at hV5 ((fr36 485 (by decide)).trans (fr35 485 (by decide) (by decide))))
  have hm47 := (zq_SL_at hSL ((fr36 482 (by decide)).trans (fr35 482 (by decide) (by decide))))
  have hm48 := (zq_RW_at hRW ((fr36 483 (by decide)).trans (fr35 483 (by decide) (by decide))))
  have hm49 := (zq_J_at hJ ((fr36 468 (by decide)).trans (fr35 468 (by decide) (by decide))) ((fr36 469 (by decide)).trans (fr35 469 (by decide) (by decide))) ((fr36 470 (by decide)).trans (fr35 470 (by decide) (by decide))))
  have hm50 := (zFJ_at hFJ (fun j h1 h2 => ((fr36 j (by omega)).trans (fr35 j (by omega) (by omega)))))
  have hm51 := (zWJ_at hWJ (fun j h1 h2 => ((fr36 j (by omega)).trans (fr35 j (by omega) (by omega)))))
  have hm52 := (zq_OV_at hOV ((fr36 452 (by decide)).trans (fr35 452 (by decide) (by decide))) ((fr36 453 (by decide)).trans (fr35 453 (by decide) (by decide))))
  have hGz53 : zG φ36 3 (x_s (x_s (x_s (x_s (x_s (x_s (x_s (x_s (x_s (x_s (x_s (x_s (x_s (x_s (x_s (x_s (x_s (x_s (x_s (x_s tp 0 35) 1 48) 2 43) 3 32) 4 32) 5 32) 6 32) 7 32) 8 32) 9 32) 10 32) 11 32) 12 32) 13 32) 14 32) 15 32) 16 32) 17 32) 18 32) 19 32) lf mi 40 0 svm comb hm sc sm mh noted verd ins ver sz bw := ⟨⟨_, _, hs36_0, (x_hw_at hhw (fun j hj hne => by have hj2 := x_some_lt hlt0 hne; exact ((fr36 j (by omega)).trans (fr35 j (by omega) (by omega)))))⟩, hm37, hm38, hm39, hm40, ⟨_, ⟨_, _, _, _, _, _, _, _, _, _, hm41⟩, hco⟩, ⟨_, _, _, hm42, hm44⟩, hm45, hm46, ⟨_, hm47⟩, hm48, hm49, hm50, hm51, ⟨_, _, hm52, hovn, hovh⟩⟩
  refine q_callrB (xs := [(6, 0, 0)]) (p2 := 111) rfl rfl rfl rfl (x_rcv_s 0 hs36_0) rfl (zc_work_err  hGz53 (by omega) hpv (by omega) (((x_s_ne (by decide)).trans ((x_s_ne (by decide)).trans ((x_s_ne (by decide)).trans ((x_s_ne (by decide)).trans ((x_s_ne (by decide)).trans ((x_s_ne (by decide)).trans ((x_s_ne (by decide)).trans ((x_s_ne (by decide)).trans ((x_s_ne (by decide)).trans ((x_s_ne (by decide)).trans ((x_s_ne (by decide)).trans ((x_s_ne (by decide)).trans ((x_s_ne (by decide)).trans ((x_s_ne (by decide)).trans ((x_s_ne (by decide)).trans ((x_s_ne (by decide)).trans ((x_s_ne (by decide)).trans ((x_s_ne (by decide)).trans ((x_s_ne (by decide)).trans (x_s_eq))))))))))))))))))))) (((x_s_ne (by decide)).trans ((x_s_ne (by decide)).trans ((x_s_ne (by decide)).trans ((x_s_ne (by decide)).trans ((x_s_ne (by decide)).trans ((x_s_ne (by decide)).trans ((x_s_ne (by decide)).trans ((x_s_ne (by decide)).trans ((x_s_ne (by decide)).trans ((x_s_ne (by decide)).trans ((x_s_ne (by decide)).trans ((x_s_ne (by decide)).trans ((x_s_ne (by decide)).trans ((x_s_ne (by decide)).trans ((x_s_ne (by decide)).trans ((x_s_ne (by decide)).trans ((x_s_ne (by decide)).trans ((x_s_ne (by decide)).trans (x_s_eq)))))))))))))))))))) (((x_s_ne (by decide)).trans ((x_s_ne (by decide)).trans ((x_s_ne (by decide)).trans ((x_s_ne (by decide)).trans ((x_s_ne (by decide)).trans ((x_s_ne (by decide)).trans ((x_s_ne (by decide)).trans ((x_s_ne (by decide)).trans ((x_s_ne (by decide)).trans ((x_s_ne (by decide)).trans ((x_s_ne (by decide)).trans ((x_s_ne (by decide)).trans ((x_s_ne (by decide)).trans ((x_s_ne (by decide)).trans ((x_s_ne (by decide)).trans ((x_s_ne (by decide)).trans ((x_s_ne (by decide)).trans (x_s_eq))))))))))))))))))) (by omega)) rfl (fun w53 φ53 n53 sl53 hn53 hN53 hs53 hT53 hR53 => ?_)
  obtain ⟨hwz53, hGr53⟩ := hR53
  subst hwz53
  have hG := hGr53
  skip
  obtain ⟨⟨hand, ie, hH, hhw⟩, hB, hTJ, hEJ, hN, hKJ, ⟨A, B, s9, hPS, hLK0⟩, hSP, hV5, ⟨slq, hSL⟩, hRW, hJ, hFJ, hWJ, ⟨ovn, ovh, hOV, hovn, hovh⟩⟩ := hG
  refine x_n_lt (fun hlt0 => ?_)
  have hmade := x_PS_lt hPS
  obtain ⟨co, ⟨top_, fr_, pc_, mm, st, lo, re, rs, fl, se, hKS⟩, hco⟩ := hKJ
  refine q_const (p2 := 112) rfl rfl ?_
  refine q_icmp (p2 := 113) rfl (by decide) rfl (fun hb => absurd hb (show ¬ (¬ (2147483635 = 2147483635)) by decide)) (fun _ => ?_)
  refine q_load (v := (6, 0, 0)) (p2 := 114) rfl rfl rfl rfl ?_
  have hGz55 : zG φ53 0 (x_s (x_s (x_s (x_s (x_s (x_s (x_s (x_s (x_s (x_s (x_s (x_s (x_s (x_s (x_s (x_s (x_s (x_s (x_s (x_s tp 0 35) 1 48) 2 43) 3 32) 4 32) 5 32) 6 32) 7 32) 8 32) 9 32) 10 32) 11 32) 12 32) 13 32) 14 32) 15 32) 16 32) 17 32) 18 32) 19 32) 2 mi 40 0 svm comb hm sc sm mh noted verd ins ver sz bw := ⟨⟨_, _, hH, hhw⟩, hB, hTJ, hEJ, hN, ⟨_, ⟨_, _, _, _, _, _, _, _, _, _, hKS⟩, hco⟩, ⟨_, _, _, hPS, hLK0⟩, hSP, hV5, ⟨_, hSL⟩, hRW, hJ, hFJ, hWJ, ⟨_, _, hOV, hovn, hovh⟩⟩
  refine q_callr (xs := [(6, 0, 0)]) (p2 := 115) rfl rfl rfl rfl (x_rcv_s 0 hH) rfl (zc_fault  hGz55 (by omega) ) (Nat.le_refl _) (Nat.le_refl _) rfl ?_
  refine q_const (p2 := 116) rfl rfl ?_
  refine q_icmp_s (p2 := 117) rfl (by decide) (by omega) (by omega) rfl (fun hb => absurd hb (show ¬ (¬ (2 = 2)) by omega)) (fun _ => ?_)
  refine q_load (v := (6, 0, 0)) (p2 := 118) rfl rfl rfl rfl ?_
  refine q_const (p2 := 119) rfl rfl ?_
  refine q_const (p2 := 120) rfl rfl ?_
  refine q_const (p2 := 121) rfl rfl ?_
  refine q_const (p2 := 122) rfl rfl ?_
  refine q_const (p2 := 123) rfl rfl ?_
  refine q_callrE (xs := [(0, 538976288, 0), (0, 538976288, 0), (0, 538976288, 0), (0, 673790752, 0), (0, 590429537, 0), (6, 0, 0)]) (p2 := 124) rfl rfl rfl rfl (x_rcv_s 0 hH) rfl (zc_h_feed_file hH hB) (Nat.le_refl _) (Nat.le_refl _) rfl (fun φ56 hR56 => ?_)
  obtain ⟨hs56_0, hs56_1, fr56⟩ := hR56
  refine q_if0_s (p2 := 125) rfl (by decide) (by omega) rfl (fun hb => absurd hb (show ¬ (20 < 0) by omega)) (fun _ => ?_)
  refine q_load (v := (6, 0, 0)) (p2 := 126) rfl rfl rfl rfl ?_
  refine q_const (p2 := 127) rfl rfl ?_
  refine q_callrE (xs := [(0, 13, 0), (6, 0, 0)]) (p2 := 128) rfl rfl rfl rfl (x_rcv_s 0 hs56_0) rfl (zc_h_cut hs56_0 (by omega)) (Nat.le_refl _) (Nat.le_refl _) rfl (fun φ57 hR57 => ?_)
  obtain ⟨hs57_0, fr57⟩ := hR57
  refine q_if0_s (p2 := 129) rfl (by decide) (by omega) rfl (fun hb => absurd hb (show ¬ (7 < 0) by omega)) (fun _ => ?_)
  refine q_load (v := (6, 0, 0)) (p2 := 130) rfl rfl rfl rfl ?_
  have hm58 := (zq_tp_at hs56_1 (fr57 1 (by decide)))
  have hm59 := (zTJ_at hTJ (fun j h1 h2 => ((fr57 j (by omega)).trans (fr56 j (by omega) (by omega)))))
  have hm60 := (zEJ_at hEJ (fun j h1 h2 => ((fr57 j (by omega)).trans (fr56 j (by omega) (by omega)))))
  have hm61 := (zq_nm_at hN ((fr57 239 (by decide)).trans (fr56 239 (by decide) (by decide))) ((fr57 242 (by decide)).trans (fr56 242 (by decide) (by decide))) ((fr57 244 (by decide)).trans (fr56 244 (by decide) (by decide))))
  have hm62 := (x_KS_at2 hKS (fun j h1 h2 h3 h4 => ((fr57 j (by omega)).trans (fr56 j (by omega) (by omega)))))
  refine x_n_lt (fun hlt64 => ?_)
  have hm63 := (x_PS_at hPS (fun j hj hne => by have hj2 := x_some_lt hlt0 hne; exact ((fr57 j (by omega)).trans (fr56 j (by omega) (by omega)))))
  have hm65 := (x_LK_at2 hLK0 (fun j h1 h2 => ((fr57 j (by omega)).trans (fr56 j (by omega) (by omega)))))
  have hm66 := (x_SP_at hSP (fun j hj hne => by have hj2 := x_some_lt hlt0 hne; exact ((fr57 j (by omega)).trans (fr56 j (by omega) (by omega)))))
  have hm67 := (zq_V5_at hV5 ((fr57 485 (by decide)).trans (fr56 485 (by decide) (by decide))))
  have hm68 := (zq_SL_at hSL ((fr57 482 (by decide)).trans (fr56 482 (by decide) (by decide))))
  have hm69 := (zq_RW_at hRW ((fr57 483 (by decide)).trans (fr56 483 (by decide) (by decide))))
  have hm70 := (zq_J_at hJ ((fr57 468 (by decide)).trans (fr56 468 (by decide) (by decide))) ((fr57 469 (by decide)).trans (fr56 469 (by decide) (by decide))) ((fr57 470 (by decide)).trans (fr56 470 (by decide) (by decide))))
  have hm71 := (zFJ_at hFJ (fun j h1 h2 => ((fr57 j (by omega)).trans (fr56 j (by omega) (by omega)))))
  have hm72 := (zWJ_at hWJ (fun j h1 h2 => ((fr57 j (by omega)).trans (fr56 j (by omega) (by omega)))))
  have hm73 := (zq_OV_at hOV ((fr57 452 (by decide)).trans (fr56 452 (by decide) (by decide))) ((fr57 453 (by decide)).trans (fr56 453 (by decide) (by decide))))
  have hGz74 : zG φ57 7 (x_s (x_s (x_s (x_s (x_s (x_s (x_s (x_s (x_s (x_s (x_s (x_s (x_s (x_s (x_s (x_s (x_s (x_s (x_s (x_s (x_s (x_s (x_s (x_s (x_s (x_s (x_s (x_s (x_s (x_s (x_s (x_s (x_s (x_s (x_s (x_s (x_s (x_s (x_s (x_s tp 0 35) 1 48) 2 43) 3 32) 4 32) 5 32) 6 32) 7 32) 8 32) 9 32) 10 32) 11 32) 12 32) 13 32) 14 32) 15 32) 16 32) 17 32) 18 32) 19 32) 0 35) 1 49) 2 61) 3 97) 4 40) 5 41) 6 59) 7 32) 8 32) 9 32) 10 32) 11 32) 12 32) 13 32) 14 32) 15 32) 16 32) 17 32) 18 32) 19 32) 2 mi 40 0 svm comb hm sc sm mh noted verd ins ver sz bw := ⟨⟨_, _, hs57_0, (x_hw_at hhw (fun j hj hne => by have hj2 := x_some_lt hlt0 hne; exact ((fr57 j (by omega)).trans (fr56 j (by omega) (by omega)))))⟩, hm58, hm59, hm60, hm61, ⟨_, ⟨_, _, _, _, _, _, _, _, _, _, hm62⟩, hco⟩, ⟨_, _, _, hm63, hm65⟩, hm66, hm67, ⟨_, hm68⟩, hm69, hm70, hm71, hm72, ⟨_, _, hm73, hovn, hovh⟩⟩
  refine q_callrB (xs := [(6, 0, 0)]) (p2 := 131) rfl rfl rfl rfl (x_rcv_s 0 hs57_0) rfl (zc_read40  hGz74 (by omega) hpv (by omega) (((x_s_ne (by decide)).trans ((x_s_ne (by decide)).trans ((x_s_ne (by decide)).trans ((x_s_ne (by decide)).trans ((x_s_ne (by decide)).trans ((x_s_ne (by decide)).trans ((x_s_ne (by decide)).trans ((x_s_ne (by decide)).trans ((x_s_ne (by decide)).trans ((x_s_ne (by decide)).trans ((x_s_ne (by decide)).trans ((x_s_ne (by decide)).trans ((x_s_ne (by decide)).trans ((x_s_ne (by decide)).trans ((x_s_ne (by decide)).trans ((x_s_ne (by decide)).trans ((x_s_ne (by decide)).trans ((x_s_ne (by decide)).trans ((x_s_ne (by decide)).trans (x_s_eq))))))))))))))))))))) (((x_s_ne (by decide)).trans ((x_s_ne (by decide)).trans ((x_s_ne (by decide)).trans ((x_s_ne (by decide)).trans ((x_s_ne (by decide)).trans ((x_s_ne (by decide)).trans ((x_s_ne (by decide)).trans ((x_s_ne (by decide)).trans ((x_s_ne (by decide)).trans ((x_s_ne (by decide)).trans ((x_s_ne (by decide)).trans ((x_s_ne (by decide)).trans ((x_s_ne (by decide)).trans ((x_s_ne (by decide)).trans ((x_s_ne (by decide)).trans ((x_s_ne (by decide)).trans ((x_s_ne (by decide)).trans ((x_s_ne (by decide)).trans (x_s_eq)))))))))))))))))))) (((x_s_ne (by decide)).trans ((x_s_ne (by decide)).trans ((x_s_ne (by decide)).trans ((x_s_ne (by decide)).trans ((x_s_ne (by decide)).trans ((x_s_ne (by decide)).trans ((x_s_ne (by decide)).trans ((x_s_ne (by decide)).trans ((x_s_ne (by decide)).trans ((x_s_ne (by decide)).trans ((x_s_ne (by decide)).trans ((x_s_ne (by decide)).trans ((x_s_ne (by decide)).trans ((x_s_ne (by decide)).trans ((x_s_ne (by decide)).trans ((x_s_ne (by decide)).trans ((x_s_ne (by decide)).trans (x_s_eq))))))))))))))))))) (((x_s_ne (by decide)).trans ((x_s_ne (by decide)).trans ((x_s_ne (by decide)).trans ((x_s_ne (by decide)).trans ((x_s_ne (by decide)).trans ((x_s_ne (by decide)).trans ((x_s_ne (by decide)).trans ((x_s_ne (by decide)).trans ((x_s_ne (by decide)).trans ((x_s_ne (by decide)).trans ((x_s_ne (by decide)).trans ((x_s_ne (by decide)).trans ((x_s_ne (by decide)).trans ((x_s_ne (by decide)).trans ((x_s_ne (by decide)).trans ((x_s_ne (by decide)).trans (x_s_eq)))))))))))))))))) (((x_s_ne (by decide)).trans ((x_s_ne (by decide)).trans ((x_s_ne (by decide)).trans ((x_s_ne (by decide)).trans ((x_s_ne (by decide)).trans ((x_s_ne (by decide)).trans ((x_s_ne (by decide)).trans ((x_s_ne (by decide)).trans ((x_s_ne (by decide)).trans ((x_s_ne (by decide)).trans ((x_s_ne (by decide)).trans ((x_s_ne (by decide)).trans ((x_s_ne (by decide)).trans ((x_s_ne (by decide)).trans ((x_s_ne (by decide)).trans (x_s_eq))))))))))))))))) (((x_s_ne (by decide)).trans ((x_s_ne (by decide)).trans ((x_s_ne (by decide)).trans ((x_s_ne (by decide)).trans ((x_s_ne (by decide)).trans ((x_s_ne (by decide)).trans ((x_s_ne (by decide)).trans ((x_s_ne (by decide)).trans ((x_s_ne (by decide)).trans ((x_s_ne (by decide)).trans ((x_s_ne (by decide)).trans ((x_s_ne (by decide)).trans ((x_s_ne (by decide)).trans ((x_s_ne (by decide)).trans (x_s_eq)))))))))))))))) (((x_s_ne (by decide)).trans ((x_s_ne (by decide)).trans ((x_s_ne (by decide)).trans ((x_s_ne (by decide)).trans ((x_s_ne (by decide)).trans ((x_s_ne (by decide)).trans ((x_s_ne (by decide)).trans ((x_s_ne (by decide)).trans ((x_s_ne (by decide)).trans ((x_s_ne (by decide)).trans ((x_s_ne (by decide)).trans ((x_s_ne (by decide)).trans ((x_s_ne (by decide)).trans (x_s_eq)))))))))))))))) rfl (fun w74 φ74 n74 sl74 hn74 hN74 hs74 hT74 hR74 => ?_)
  obtain ⟨hwz74, hGr74⟩ := hR74
  subst hwz74
  have hG := hGr74
  skip
  obtain ⟨⟨hand, ie, hH, hhw⟩, hB, hTJ, hEJ, hN, hKJ, ⟨A, B, s9, hPS, hLK0⟩, hSP, hV5, ⟨slq, hSL⟩, hRW, hJ, hFJ, hWJ, ⟨ovn, ovh, hOV, hovn, hovh⟩⟩ := hG
  refine x_n_lt (fun hlt0 => ?_)
  have hmade := x_PS_lt hPS
  obtain ⟨co, ⟨top_, fr_, pc_, mm, st, lo, re, rs, fl, se, hKS⟩, hco⟩ := hKJ
  refine q_const (p2 := 132) rfl rfl ?_
  refine q_icmp (p2 := 133) rfl (by decide) rfl (fun hb => absurd hb (show ¬ (¬ (2147483638 = 2147483638)) by decide)) (fun _ => ?_)
  refine q_load (v := (6, 0, 0)) (p2 := 134) rfl rfl rfl rfl ?_
  have hGz76 : zG φ74 0 (x_s (x_s (x_s (x_s (x_s (x_s (x_s (x_s (x_s (x_s (x_s (x_s (x_s (x_s (x_s (x_s (x_s (x_s (x_s (x_s (x_s (x_s (x_s (x_s (x_s (x_s (x_s (x_s (x_s (x_s (x_s (x_s (x_s (x_s (x_s (x_s (x_s (x_s (x_s (x_s tp 0 35) 1 48) 2 43) 3 32) 4 32) 5 32) 6 32) 7 32) 8 32) 9 32) 10 32) 11 32) 12 32) 13 32) 14 32) 15 32) 16 32) 17 32) 18 32) 19 32) 0 35) 1 49) 2 61) 3 97) 4 40) 5 41) 6 59) 7 32) 8 32) 9 32) 10 32) 11 32) 12 32) 13 32) 14 32) 15 32) 16 32) 17 32) 18 32) 19 32) 2 mi 40 0 svm (x_s comb 40 1) hm sc sm mh noted verd ins ver sz bw := ⟨⟨_, _, hH, hhw⟩, hB, hTJ, hEJ, hN, ⟨_, ⟨_, _, _, _, _, _, _, _, _, _, hKS⟩, hco⟩, ⟨_, _, _, hPS, hLK0⟩, hSP, hV5, ⟨_, hSL⟩, hRW, hJ, hFJ, hWJ, ⟨_, _, hOV, hovn, hovh⟩⟩
  refine q_callr (xs := [(6, 0, 0)]) (p2 := 135) rfl rfl rfl rfl (x_rcv_s 0 hH) rfl (zc_fault  hGz76 (by omega) ) (Nat.le_refl _) (Nat.le_refl _) rfl ?_
  refine q_const (p2 := 136) rfl rfl ?_
  refine q_icmp_s (p2 := 137) rfl (by decide) (by omega) (by omega) rfl (fun hb => absurd hb (show ¬ (¬ (2 = 2)) by omega)) (fun _ => ?_)
  refine q_const (p2 := 138) rfl rfl ?_
  refine q_goto rfl ?_
  exact q_retv (v := (0, 1, 0)) rfl rfl (⟨rfl, ⟨by omega, by omega⟩, ⟨by omega, by omega⟩, _, rfl, ⟨⟨_, _, hH, hhw⟩, hB, hTJ, hEJ, hN, ⟨_, ⟨_, _, _, _, _, _, _, _, _, _, hKS⟩, hco⟩, ⟨_, _, _, hPS, hLK0⟩, hSP, hV5, ⟨_, hSL⟩, hRW, hJ, hFJ, hWJ, ⟨_, _, hOV, hovn, hovh⟩⟩⟩)
end FPOP75
