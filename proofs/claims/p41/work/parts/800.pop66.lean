section FPOP66
theorem e_save0 {d n sl A B made svm st : Nat} {φ : FH} {comb sc : Nat → Nat} {hm sm : Nat → MV} (hS : x_PS φ A B made 0 svm st comb hm) (hQ : x_SP φ sc sm) : x_f x_P (d + 1) 340 [(6, 7, 0)] φ n sl (x_rR (0, 1, 0) n sl (fun φ2 => x_PS φ2 A B made 1 made st comb hm ∧ x_SP φ2 (fun i => if i < 40 then comb i else sc i) hm ∧ ∀ j, j ≠ 7 → j ≠ 228 → j ≠ 229 → φ2 j = φ j)) := by
  refine x_f_mono (e_save hS hQ) (fun u w φ2 n2 sl2 q => ?_)
  obtain ⟨q1, q2, q3, q4, q5⟩ := q
  rcases q5 with q5 | q5
  · exact ⟨q1, q2, q3, q4, q5.2⟩
  · exact absurd rfl q5.1
theorem e_save1 {d n sl A B made svm st : Nat} {φ : FH} {comb sc : Nat → Nat} {hm sm : Nat → MV} (hS : x_PS φ A B made 1 svm st comb hm) (hQ : x_SP φ sc sm) : x_f x_P (d + 1) 340 [(6, 7, 0)] φ n sl (x_r φ n sl (0, 0, 0)) := by
  refine x_f_mono (e_save hS hQ) (fun u w φ2 n2 sl2 q => ?_)
  obtain ⟨q1, q2, q3, q4, q5⟩ := q
  rcases q5 with q5 | q5
  · exact absurd q5.1 (by decide)
  · exact ⟨q1, q2, q5.2, q3, q4⟩
theorem e_restore1 {d n sl A B made svm st : Nat} {φ : FH} {comb sc : Nat → Nat} {hm sm : Nat → MV} (hS : x_PS φ A B made 1 svm st comb hm) (hQ : x_SP φ sc sm) : x_f x_P (d + 1) 78 [(6, 7, 0)] φ n sl (x_rR (0, 1, 0) n sl (fun φ2 => x_PS φ2 A B svm 0 svm 1 (fun i => if i < 40 then sc i else comb i) sm ∧ ∀ j, j ≠ 7 → j ≠ 226 → j ≠ 227 → φ2 j = φ j)) := by
  refine x_f_mono (e_restore hS hQ) (fun u w φ2 n2 sl2 q => ?_)
  obtain ⟨q1, q2, q3, q4, q5⟩ := q
  rcases q5 with q5 | q5
  · exact ⟨q1, q2, q3, q4, q5.2⟩
  · exact absurd q5.1 (by decide)
theorem e_restore0 {d n sl A B made svm st : Nat} {φ : FH} {comb sc : Nat → Nat} {hm sm : Nat → MV} (hS : x_PS φ A B made 0 svm st comb hm) (hQ : x_SP φ sc sm) : x_f x_P (d + 1) 78 [(6, 7, 0)] φ n sl (x_r φ n sl (0, 0, 0)) := by
  refine x_f_mono (e_restore hS hQ) (fun u w φ2 n2 sl2 q => ?_)
  obtain ⟨q1, q2, q3, q4, q5⟩ := q
  rcases q5 with q5 | q5
  · exact absurd rfl q5.1
  · exact ⟨q1, q2, q5.2, q3, q4⟩
theorem e_discard0 {d n sl A B made svm st : Nat} {φ : FH} {comb : Nat → Nat} {hm : Nat → MV} (hS : x_PS φ A B made 0 svm st comb hm) : x_f x_P (d + 1) 77 [(6, 7, 0), (11, 0, 0)] φ n sl (x_rR (0, 0, 0) n sl (fun φ2 => x_PS φ2 A B made 0 svm st comb hm ∧ ∀ j, j ≠ 7 → φ2 j = φ j)) := by
  refine x_f_mono (e_discard hS.1.choose_spec) (fun u w φ2 n2 sl2 q => ?_)
  obtain ⟨q1, q2, q3, q4, q5, q6⟩ := q
  exact ⟨q1, q2, q3, q4, x_PS_st hS q6 q5, q6⟩
def zsv (comb sc : Nat → Nat) : Nat → Nat := fun i => if i < 40 then comb i else sc i
set_option maxHeartbeats 1000000 in
theorem zc_begin {d n sl : Nat} {φ : FH} {tpd : Nat} {tp : Nat → Nat} {lf : Nat} {mi : Nat} {made : Nat} {svm : Nat} {comb : Nat → Nat} {hm : Nat → MV} {sc : Nat → Nat} {sm : Nat → MV} {mh : MV} {noted : Nat} {verd : Nat} {ins : Nat → Nat} {ver : Nat → Nat} {sz : Nat} {bw : Nat → Nat}  (hG : zG φ tpd tp lf mi made 0 svm comb hm sc sm mh noted verd ins ver sz bw) (hn0 : 486 ≤ n) (hpv : ∀ i, x_pv2 (hm i)) (hmi : mi + 100 ≤ 20000)  : x_f x_P (d + 2) 339 [(6, 0, 0)] φ n sl (x_bR n sl 0 0 (fun zw φ2 => zw = (0, 1, 0) ∧ zG φ2 tpd tp lf mi made 1 made comb hm (zsv comb sc) hm mh noted verd ins ver sz bw)) := by
  refine x_f_of rfl ?_
  have hG0 := hG
  obtain ⟨⟨hand, ie, hH, hhw⟩, hB, hTJ, hEJ, hN, hKJ, ⟨A, B, s9, hPS, hLK0⟩, hSP, hV5, ⟨slq, hSL⟩, hRW, hJ, hFJ, hWJ, ⟨ovn, ovh, hOV, hovn, hovh⟩⟩ := hG
  refine x_n_lt (fun hlt0 => ?_)
  have hmade := x_PS_lt hPS
  obtain ⟨co, ⟨top_, fr_, pc_, mm, st, lo, re, rs, fl, se, hKS⟩, hco⟩ := hKJ
  refine q_load (v := (6, 0, 0)) (p2 := 1) rfl rfl rfl rfl ?_
  refine q_getv (v := (6, 7, 0)) (p2 := 2) rfl hH (by decide) rfl rfl ?_
  refine q_callrE (xs := [(6, 7, 0)]) (p2 := 3) rfl rfl rfl rfl (x_rcv_s 7 hPS.1.choose_spec.1) rfl (e_save0 hPS hSP) (Nat.le_refl _) (Nat.le_refl _) rfl (fun φ1 hR1 => ?_)
  obtain ⟨hPS1, hSP1, frn1⟩ := hR1
  have hPZ1 : x_PS φ1 A B made 1 made s9 comb hm := hPS1
  refine x_n_lt (fun hlt2 => ?_)
  have hSZ1 : x_SP φ1 (zsv comb sc) hm := hSP1
  refine q_if0_s (p2 := 4) rfl (by decide) (by omega) rfl (fun hb => absurd hb (show ¬ (1 = 0) by omega)) (fun _ => ?_)
  refine q_const (p2 := 5) rfl rfl ?_
  refine q_goto rfl ?_
  have hm3 := (zq_H_at hH (frn1 0 (by omega) (by omega) (by omega)))
  have hm4 := (zq_tp_at hB (frn1 1 (by omega) (by omega) (by omega)))
  have hm5 := (zTJ_at hTJ (fun j h1 h2 => (frn1 j (by omega) (by omega) (by omega))))
  have hm6 := (zEJ_at hEJ (fun j h1 h2 => (frn1 j (by omega) (by omega) (by omega))))
  have hm7 := (zq_nm_at hN (frn1 239 (by omega) (by omega) (by omega)) (frn1 242 (by omega) (by omega) (by omega)) (frn1 244 (by omega) (by omega) (by omega)))
  have hm8 := (x_KS_at2 hKS (fun j h1 h2 h3 h4 => (frn1 j (by omega) (by omega) (by omega))))
  have hm9 := (x_LK_at2 hLK0 (fun j h1 h2 => (frn1 j (by omega) (by omega) (by omega))))
  have hm10 := (zq_V5_at hV5 (frn1 485 (by omega) (by omega) (by omega)))
  have hm11 := (zq_SL_at hSL (frn1 482 (by omega) (by omega) (by omega)))
  have hm12 := (zq_RW_at hRW (frn1 483 (by omega) (by omega) (by omega)))
  have hm13 := (zq_J_at hJ (frn1 468 (by omega) (by omega) (by omega)) (frn1 469 (by omega) (by omega) (by omega)) (frn1 470 (by omega) (by omega) (by omega)))
  have hm14 := (zFJ_at hFJ (fun j h1 h2 => (frn1 j (by omega) (by omega) (by omega))))
  have hm15 := (zWJ_at hWJ (fun j h1 h2 => (frn1 j (by omega) (by omega) (by omega))))
  have hm16 := (zq_OV_at hOV (frn1 452 (by omega) (by omega) (by omega)) (frn1 453 (by omega) (by omega) (by omega)))
  exact q_retv (v := (0, 1, 0)) rfl rfl (⟨rfl, ⟨by omega, by omega⟩, ⟨by omega, by omega⟩, rfl, ⟨⟨_, _, hm3, (x_hw_at hhw (fun j hj hne => by have hj2 := x_some_lt hlt0 hne; exact (frn1 j (by omega) (by omega) (by omega))))⟩, hm4, hm5, hm6, hm7, ⟨_, ⟨_, _, _, _, _, _, _, _, _, _, hm8⟩, hco⟩, ⟨_, _, _, hPZ1, hm9⟩, hSZ1, hm10, ⟨_, hm11⟩, hm12, hm13, hm14, hm15, ⟨_, _, hm16, hovn, hovh⟩⟩⟩)
set_option maxHeartbeats 1000000 in
theorem zc_begin_no {d n sl : Nat} {φ : FH} {tpd : Nat} {tp : Nat → Nat} {lf : Nat} {mi : Nat} {made : Nat} {svm : Nat} {comb : Nat → Nat} {hm : Nat → MV} {sc : Nat → Nat} {sm : Nat → MV} {mh : MV} {noted : Nat} {verd : Nat} {ins : Nat → Nat} {ver : Nat → Nat} {sz : Nat} {bw : Nat → Nat}  (hG : zG φ tpd tp lf mi made 1 svm comb hm sc sm mh noted verd ins ver sz bw) (hn0 : 486 ≤ n) (hpv : ∀ i, x_pv2 (hm i)) (hmi : mi + 100 ≤ 20000)  : x_f x_P (d + 2) 339 [(6, 0, 0)] φ n sl (x_bR n sl 0 0 (fun zw φ2 => zw = (0, 4294967293, 0) ∧ zG φ2 tpd tp lf mi made 1 svm comb hm sc sm mh noted verd ins ver sz bw)) := by
  refine x_f_of rfl ?_
  have hG0 := hG
  obtain ⟨⟨hand, ie, hH, hhw⟩, hB, hTJ, hEJ, hN, hKJ, ⟨A, B, s9, hPS, hLK0⟩, hSP, hV5, ⟨slq, hSL⟩, hRW, hJ, hFJ, hWJ, ⟨ovn, ovh, hOV, hovn, hovh⟩⟩ := hG
  refine x_n_lt (fun hlt0 => ?_)
  have hmade := x_PS_lt hPS
  obtain ⟨co, ⟨top_, fr_, pc_, mm, st, lo, re, rs, fl, se, hKS⟩, hco⟩ := hKJ
  refine q_load (v := (6, 0, 0)) (p2 := 1) rfl rfl rfl rfl ?_
  refine q_getv (v := (6, 7, 0)) (p2 := 2) rfl hH (by decide) rfl rfl ?_
  refine q_callr (xs := [(6, 7, 0)]) (p2 := 3) rfl rfl rfl rfl (x_rcv_s 7 hPS.1.choose_spec.1) rfl (e_save1 hPS hSP) (Nat.le_refl _) (Nat.le_refl _) rfl ?_
  refine q_if0_s (p2 := 4) rfl (by decide) (by omega) rfl (fun _ => ?_) (fun hb => absurd (show 0 = 0 by omega) hb)
  refine q_const (p2 := 7) rfl rfl ?_
  exact q_retv (v := (0, 4294967293, 0)) rfl rfl (⟨rfl, ⟨by omega, by omega⟩, ⟨by omega, by omega⟩, rfl, ⟨⟨_, _, hH, hhw⟩, hB, hTJ, hEJ, hN, ⟨_, ⟨_, _, _, _, _, _, _, _, _, _, hKS⟩, hco⟩, ⟨_, _, _, hPS, hLK0⟩, hSP, hV5, ⟨_, hSL⟩, hRW, hJ, hFJ, hWJ, ⟨_, _, hOV, hovn, hovh⟩⟩⟩)
set_option maxHeartbeats 1000000 in
theorem zc_commit_no {d n sl : Nat} {φ : FH} {tpd : Nat} {tp : Nat → Nat} {lf : Nat} {mi : Nat} {made : Nat} {svm : Nat} {comb : Nat → Nat} {hm : Nat → MV} {sc : Nat → Nat} {sm : Nat → MV} {mh : MV} {noted : Nat} {verd : Nat} {ins : Nat → Nat} {ver : Nat → Nat} {sz : Nat} {bw : Nat → Nat}  (hG : zG φ tpd tp lf mi made 0 svm comb hm sc sm mh noted verd ins ver sz bw) (hn0 : 486 ≤ n) (hpv : ∀ i, x_pv2 (hm i)) (hmi : mi + 100 ≤ 20000)  : x_f x_P (d + 2) 33 [(6, 0, 0)] φ n sl (x_bR n sl 0 0 (fun zw φ2 => zw = (0, 4294967293, 0) ∧ zG φ2 tpd tp lf mi made 0 svm comb hm sc sm mh noted verd ins ver sz bw)) := by
  refine x_f_of rfl ?_
  have hG0 := hG
  obtain ⟨⟨hand, ie, hH, hhw⟩, hB, hTJ, hEJ, hN, hKJ, ⟨A, B, s9, hPS, hLK0⟩, hSP, hV5, ⟨slq, hSL⟩, hRW, hJ, hFJ, hWJ, ⟨ovn, ovh, hOV, hovn, hovh⟩⟩ := hG
  refine x_n_lt (fun hlt0 => ?_)
  have hmade := x_PS_lt hPS
  obtain ⟨co, ⟨top_, fr_, pc_, mm, st, lo, re, rs, fl, se, hKS⟩, hco⟩ := hKJ
  refine q_load (v := (6, 0, 0)) (p2 := 1) rfl rfl rfl rfl ?_
  refine q_getv (v := (6, 7, 0)) (p2 := 2) rfl hH (by decide) rfl rfl ?_
  refine q_callrE (xs := [(6, 7, 0)]) (p2 := 3) rfl rfl rfl rfl (x_rcv_s 7 hPS.1.choose_spec.1) rfl (e_discard0 hPS) (Nat.le_refl _) (Nat.le_refl _) rfl (fun φ1 hR1 => ?_)
  obtain ⟨hPS1, frn1⟩ := hR1
  have hPZ1 : x_PS φ1 A B made 0 svm s9 comb hm := hPS1
  refine x_n_lt (fun hlt2 => ?_)
  refine q_if0_s (p2 := 4) rfl (by decide) (by omega) rfl (fun _ => ?_) (fun hb => absurd (show 0 = 0 by omega) hb)
  refine q_const (p2 := 7) rfl rfl ?_
  have hm3 := (zq_H_at hH (frn1 0 (by omega)))
  have hm4 := (zq_tp_at hB (frn1 1 (by omega)))
  have hm5 := (zTJ_at hTJ (fun j h1 h2 => (frn1 j (by omega))))
  have hm6 := (zEJ_at hEJ (fun j h1 h2 => (frn1 j (by omega))))
  have hm7 := (zq_nm_at hN (frn1 239 (by omega)) (frn1 242 (by omega)) (frn1 244 (by omega)))
  have hm8 := (x_KS_at2 hKS (fun j h1 h2 h3 h4 => (frn1 j (by omega))))
  have hm9 := (x_LK_at2 hLK0 (fun j h1 h2 => (frn1 j (by omega))))
  have hm10 := (x_SP_at hSP (fun j hj hne => by have hj2 := x_some_lt hlt0 hne; exact (frn1 j (by omega))))
  have hm11 := (zq_V5_at hV5 (frn1 485 (by omega)))
  have hm12 := (zq_SL_at hSL (frn1 482 (by omega)))
  have hm13 := (zq_RW_at hRW (frn1 483 (by omega)))
  have hm14 := (zq_J_at hJ (frn1 468 (by omega)) (frn1 469 (by omega)) (frn1 470 (by omega)))
  have hm15 := (zFJ_at hFJ (fun j h1 h2 => (frn1 j (by omega))))
  have hm16 := (zWJ_at hWJ (fun j h1 h2 => (frn1 j (by omega))))
  have hm17 := (zq_OV_at hOV (frn1 452 (by omega)) (frn1 453 (by omega)))
  exact q_retv (v := (0, 4294967293, 0)) rfl rfl (⟨rfl, ⟨by omega, by omega⟩, ⟨by omega, by omega⟩, rfl, ⟨⟨_, _, hm3, (x_hw_at hhw (fun j hj hne => by have hj2 := x_some_lt hlt0 hne; exact (frn1 j (by omega))))⟩, hm4, hm5, hm6, hm7, ⟨_, ⟨_, _, _, _, _, _, _, _, _, _, hm8⟩, hco⟩, ⟨_, _, _, hPZ1, hm9⟩, hm10, hm11, ⟨_, hm12⟩, hm13, hm14, hm15, hm16, ⟨_, _, hm17, hovn, hovh⟩⟩⟩)
set_option maxHeartbeats 1000000 in
theorem zc_abort_no {d n sl : Nat} {φ : FH} {tpd : Nat} {tp : Nat → Nat} {lf : Nat} {mi : Nat} {made : Nat} {svm : Nat} {comb : Nat → Nat} {hm : Nat → MV} {sc : Nat → Nat} {sm : Nat → MV} {mh : MV} {noted : Nat} {verd : Nat} {ins : Nat → Nat} {ver : Nat → Nat} {sz : Nat} {bw : Nat → Nat}  (hG : zG φ tpd tp lf mi made 0 svm comb hm sc sm mh noted verd ins ver sz bw) (hn0 : 486 ≤ n) (hpv : ∀ i, x_pv2 (hm i)) (hmi : mi + 100 ≤ 20000)  : x_f x_P (d + 2) 34 [(6, 0, 0), (11, 0, 0)] φ n sl (x_bR n sl 0 0 (fun zw φ2 => zw = (0, 4294967293, 0) ∧ zG φ2 tpd tp lf mi made 0 svm comb hm sc sm mh noted verd ins ver sz bw)) := by
  refine x_f_of rfl ?_
  have hG0 := hG
  obtain ⟨⟨hand, ie, hH, hhw⟩, hB, hTJ, hEJ, hN, hKJ, ⟨A, B, s9, hPS, hLK0⟩, hSP, hV5, ⟨slq, hSL⟩, hRW, hJ, hFJ, hWJ, ⟨ovn, ovh, hOV, hovn, hovh⟩⟩ := hG
  refine x_n_lt (fun hlt0 => ?_)
  have hmade := x_PS_lt hPS
  obtain ⟨co, ⟨top_, fr_, pc_, mm, st, lo, re, rs, fl, se, hKS⟩, hco⟩ := hKJ
  refine q_load (v := (6, 0, 0)) (p2 := 1) rfl rfl rfl rfl ?_
  refine q_getv (v := (6, 7, 0)) (p2 := 2) rfl hH (by decide) rfl rfl ?_
  refine q_callr (xs := [(6, 7, 0)]) (p2 := 3) rfl rfl rfl rfl (x_rcv_s 7 hPS.1.choose_spec.1) rfl (e_restore0 hPS hSP) (Nat.le_refl _) (Nat.le_refl _) rfl ?_
  refine q_if0_s (p2 := 4) rfl (by decide) (by omega) rfl (fun hb => absurd hb (show ¬ (¬ (0 = 0)) by omega)) (fun _ => ?_)
  refine q_const (p2 := 5) rfl rfl ?_
  exact q_retv (v := (0, 4294967293, 0)) rfl rfl (⟨rfl, ⟨by omega, by omega⟩, ⟨by omega, by omega⟩, rfl, ⟨⟨_, _, hH, hhw⟩, hB, hTJ, hEJ, hN, ⟨_, ⟨_, _, _, _, _, _, _, _, _, _, hKS⟩, hco⟩, ⟨_, _, _, hPS, hLK0⟩, hSP, hV5, ⟨_, hSL⟩, hRW, hJ, hFJ, hWJ, ⟨_, _, hOV, hovn, hovh⟩⟩⟩)
set_option maxHeartbeats 1000000 in
theorem zc_abort {d n sl : Nat} {φ : FH} {tpd : Nat} {tp : Nat → Nat} {lf : Nat} {mi : Nat} {made : Nat} {svm : Nat} {comb : Nat → Nat} {hm : Nat → MV} {sc : Nat → Nat} {sm : Nat → MV} {mh : MV} {noted : Nat} {verd : Nat} {ins : Nat → Nat} {ver : Nat → Nat} {sz : Nat} {bw : Nat → Nat}  (hG : zG φ tpd tp lf mi made 1 svm comb hm sc sm mh noted verd ins ver sz bw) (hn0 : 486 ≤ n) (hpv : ∀ i, x_pv2 (hm i)) (hmi : mi + 100 ≤ 20000)  : x_f x_P (d + 2) 34 [(6, 0, 0), (11, 0, 0)] φ n sl (x_bR n sl 1 7 (fun zw φ2 => zw = (0, 1, 0) ∧ zG φ2 tpd tp lf mi svm 0 svm (zsv sc comb) sm sc sm (0, 0, 0, 0, []) noted verd ins ver sz bw)) := by
  refine x_f_of rfl ?_
  have hG0 := hG
  obtain ⟨⟨hand, ie, hH, hhw⟩, hB, hTJ, hEJ, hN, hKJ, ⟨A, B, s9, hPS, hLK0⟩, hSP, hV5, ⟨slq, hSL⟩, hRW, hJ, hFJ, hWJ, ⟨ovn, ovh, hOV, hovn, hovh⟩⟩ := hG
  refine x_n_lt (fun hlt0 => ?_)
  have hmade := x_PS_lt hPS
  obtain ⟨co, ⟨top_, fr_, pc_, mm, st, lo, re, rs, fl, se, hKS⟩, hco⟩ := hKJ
  refine q_load (v := (6, 0, 0)) (p2 := 1) rfl rfl rfl rfl ?_
  refine q_getv (v := (6, 7, 0)) (p2 := 2) rfl hH (by decide) rfl rfl ?_
  refine q_callrE (xs := [(6, 7, 0)]) (p2 := 3) rfl rfl rfl rfl (x_rcv_s 7 hPS.1.choose_spec.1) rfl (e_restore1 hPS hSP) (Nat.le_refl _) (Nat.le_refl _) rfl (fun φ1 hR1 => ?_)
  obtain ⟨hPS1, frn1⟩ := hR1
  have hPZ1 : x_PS φ1 A B svm 0 svm 1 (zsv sc comb) sm := hPS1
  refine x_n_lt (fun hlt2 => ?_)
  have hLZ1 := x_LK_st1 (made2 := svm) (comb2 := (zsv sc comb)) (hm2 := sm) hLK0 (fun j h1 h2 => (frn1 j (by omega) (by omega) (by omega)))
  refine q_if0_s (p2 := 4) rfl (by decide) (by omega) rfl (fun _ => ?_) (fun hb => absurd (show ¬ (1 = 0) by omega) hb)
  refine q_load (v := (6, 0, 0)) (p2 := 7) rfl rfl rfl rfl ?_
  refine q_newE (p2 := 8) (len := 7) (g := x_gV) rfl rfl x_gV_ok rfl (fun φ3 hh3 frn3 => ?_)
  refine q_dup (p2 := 9) rfl rfl rfl ?_
  refine q_const (p2 := 10) rfl rfl ?_
  refine q_const (p2 := 11) rfl rfl ?_
  refine q_callvE (xs := [(2, 0, 0), (0, 0, 0), (6, n, 0)]) (p2 := 12) rfl rfl rfl rfl (x_rcv_s n hh3) rfl (e_new2 hh3) (Nat.le_refl _) (Nat.le_refl _) rfl (fun φ4 hR4 => ?_)
  obtain ⟨⟨fv4, hV4, hg4⟩, fr4⟩ := hR4
  have frn4 := fr4
  refine x_n_lt (fun hlt5 => ?_)
  have hz6 := x_mv_lt (x_mv_sc (by omega) (by omega) (by decide) hV4 hg4) hlt5
  have hy6 := (x_mv_sc (by omega) (by omega) (by decide) hV4 hg4).1
  have hm7 := (zq_H_at hH ((frn4 0 (by omega)).trans ((frn3 0 (by omega)).trans (frn1 0 (by omega) (by omega) (by omega)))))
  refine q_putfE (v := (6, n, 0)) (p2 := 13) rfl hm7 (by decide) rfl rfl (fun φ8 f8 hh8 hg8 ho8 fr8 => ?_)
  have hs8 := zq_H_put_0_10 hm7 hh8 hg8 ho8 fr8
  refine q_const (p2 := 14) rfl rfl ?_
  refine q_store (loc2 := [(6, 0, 0), (0, 0, 0)]) (p2 := 15) rfl rfl rfl rfl rfl ?_
  refine q_load (v := (0, 0, 0)) (p2 := 16) rfl rfl rfl rfl ?_
  refine q_const (p2 := 17) rfl rfl ?_
  refine q_icmp_s (p2 := 18) rfl (by decide) (by omega) (by omega) rfl (fun hb => absurd hb (show ¬ (¬ (0 < 4)) by omega)) (fun _ => ?_)
  refine q_load (v := (6, 0, 0)) (p2 := 19) rfl rfl rfl rfl ?_
  refine q_getv (v := (6, 482, 0)) (p2 := 20) rfl hs8 (by decide) rfl rfl ?_
  refine q_load (v := (0, 0, 0)) (p2 := 21) rfl rfl rfl rfl ?_
  refine q_load (v := (6, 0, 0)) (p2 := 22) rfl rfl rfl rfl ?_
  refine q_getv (v := (6, n, 0)) (p2 := 23) rfl hs8 (by decide) rfl rfl ?_
  have hm9 := (zq_SL_at hSL ((fr8 482 (by decide)).trans ((frn4 482 (by omega)).trans ((frn3 482 (by omega)).trans (frn1 482 (by omega) (by omega) (by omega))))))
  refine x_n_lt (fun hlt12 => ?_)
  have hv11 := x_mv_at (x_mv_sc (by omega) (by omega) (by decide) hV4 hg4) (fun j hj hne => by have hj2 := x_some_lt hlt5 hne; exact (fr8 j (by omega)))
  obtain ⟨fV13, hW13, hg13⟩ := x_mv_gS hv11 (by decide)
  have hl13 := hlt12 _ _ hW13
  have h6_13 := hv11.1
  refine q_astE (v := (6, n, 0)) (w := (6, n, 0)) (p2 := 24) rfl hm9 (by omega) (by omega) (x_ok_r hW13 rfl) (x_nv_same rfl (by decide)) rfl (fun φ10 f10 hh10 hg10 ho10 fr10 => ?_)
  have hs10 := zq_SL_st_482 hm9 hh10 hg10 ho10 fr10
  refine q_load (v := (6, 0, 0)) (p2 := 25) rfl rfl rfl rfl ?_
  have hm14 := (zq_H_at hs8 (fr10 0 (by decide)))
  refine q_getv (v := (6, 483, 0)) (p2 := 26) rfl hm14 (by decide) rfl rfl ?_
  refine q_load (v := (0, 0, 0)) (p2 := 27) rfl rfl rfl rfl ?_
  have hm15 := (zq_RW_at hRW ((fr10 483 (by decide)).trans ((fr8 483 (by decide)).trans ((frn4 483 (by omega)).trans ((frn3 483 (by omega)).trans (frn1 483 (by omega) (by omega) (by omega)))))))
  refine q_aldT (tag := 6) (v := 485) (p2 := 28) rfl hm15 (by omega) (by omega) rfl rfl ?_
  have hm16 := (zq_V5_at hV5 ((fr10 485 (by decide)).trans ((fr8 485 (by decide)).trans ((frn4 485 (by omega)).trans ((frn3 485 (by omega)).trans (frn1 485 (by omega) (by omega) (by omega)))))))
  refine q_getv (v := (0, 0, 0)) (p2 := 29) rfl hm16 (by decide) rfl rfl ?_
  refine q_const (p2 := 30) rfl rfl ?_
  refine q_icmp_s (p2 := 31) rfl (by decide) (by omega) (by omega) rfl (fun _ => ?_) (fun hb => absurd (show ¬ (0 = 5) by omega) hb)
  refine q_iinc (z := 1) (loc2 := [(6, 0, 0), (0, 1, 0)]) (p2 := 38) rfl rfl (by decide) rfl rfl ?_
  refine q_goto rfl ?_
  refine q_load (v := (0, 1, 0)) (p2 := 16) rfl rfl rfl rfl ?_
  refine q_const (p2 := 17) rfl rfl ?_
  refine q_icmp_s (p2 := 18) rfl (by decide) (by omega) (by omega) rfl (fun hb => absurd hb (show ¬ (¬ (1 < 4)) by omega)) (fun _ => ?_)
  refine q_load (v := (6, 0, 0)) (p2 := 19) rfl rfl rfl rfl ?_
  refine q_getv (v := (6, 482, 0)) (p2 := 20) rfl hm14 (by decide) rfl rfl ?_
  refine q_load (v := (0, 1, 0)) (p2 := 21) rfl rfl rfl rfl ?_
  refine q_load (v := (6, 0, 0)) (p2 := 22) rfl rfl rfl rfl ?_
  refine q_getv (v := (6, n, 0)) (p2 := 23) rfl hm14 (by decide) rfl rfl ?_
  refine q_astE (v := (6, n, 0)) (w := (6, n, 0)) (p2 := 24) rfl hs10 (by omega) (by omega) (x_ok_r ((fr10 n (by omega)).trans hW13) rfl) (x_nv_same rfl (by decide)) rfl (fun φ17 f17 hh17 hg17 ho17 fr17 => ?_)
  have hs17 := zq_SL_st_482 hs10 hh17 hg17 ho17 fr17
  refine q_load (v := (6, 0, 0)) (p2 := 25) rfl rfl rfl rfl ?_
  have hm18 := (zq_H_at hm14 (fr17 0 (by decide)))
  refine q_getv (v := (6, 483, 0)) (p2 := 26) rfl hm18 (by decide) rfl rfl ?_
  refine q_load (v := (0, 1, 0)) (p2 := 27) rfl rfl rfl rfl ?_
  have hm19 := (zq_RW_at hm15 (fr17 483 (by decide)))
  refine q_aldT (tag := 6) (v := 485) (p2 := 28) rfl hm19 (by omega) (by omega) rfl rfl ?_
  have hm20 := (zq_V5_at hm16 (fr17 485 (by decide)))
  refine q_getv (v := (0, 0, 0)) (p2 := 29) rfl hm20 (by decide) rfl rfl ?_
  refine q_const (p2 := 30) rfl rfl ?_
  refine q_icmp_s (p2 := 31) rfl (by decide) (by omega) (by omega) rfl (fun _ => ?_) (fun hb => absurd (show ¬ (0 = 5) by omega) hb)
  refine q_iinc (z := 2) (loc2 := [(6, 0, 0), (0, 2, 0)]) (p2 := 38) rfl rfl (by decide) rfl rfl ?_
  refine q_goto rfl ?_
  refine q_load (v := (0, 2, 0)) (p2 := 16) rfl rfl rfl rfl ?_
  refine q_const (p2 := 17) rfl rfl ?_
  refine q_icmp_s (p2 := 18) rfl (by decide) (by omega) (by omega) rfl (fun hb => absurd hb (show ¬ (¬ (2 < 4)) by omega)) (fun _ => ?_)
  refine q_load (v := (6, 0, 0)) (p2 := 19) rfl rfl rfl rfl ?_
  refine q_getv (v := (6, 482, 0)) (p2 := 20) rfl hm18 (by decide) rfl rfl ?_
  refine q_load (v := (0, 2, 0)) (p2 := 21) rfl rfl rfl rfl ?_
  refine q_load (v := (6, 0, 0)) (p2 := 22) rfl rfl rfl rfl ?_
  refine q_getv (v := (6, n, 0)) (p2 := 23) rfl hm18 (by decide) rfl rfl ?_
  refine q_astE (v := (6, n, 0)) (w := (6, n, 0)) (p2 := 24) rfl hs17 (by omega) (by omega) (x_ok_r (((fr17 n (by omega)).trans (fr10 n (by omega))).trans hW13) rfl) (x_nv_same rfl (by decide)) rfl (fun φ21 f21 hh21 hg21 ho21 fr21 => ?_)
  have hs21 := zq_SL_st_482 hs17 hh21 hg21 ho21 fr21
  refine q_load (v := (6, 0, 0)) (p2 := 25) rfl rfl rfl rfl ?_
  have hm22 := (zq_H_at hm18 (fr21 0 (by decide)))
  refine q_getv (v := (6, 483, 0)) (p2 := 26) rfl hm22 (by decide) rfl rfl ?_
  refine q_load (v := (0, 2, 0)) (p2 := 27) rfl rfl rfl rfl ?_
  have hm23 := (zq_RW_at hm19 (fr21 483 (by decide)))
  refine q_aldT (tag := 6) (v := 485) (p2 := 28) rfl hm23 (by omega) (by omega) rfl rfl ?_
  have hm24 := (zq_V5_at hm20 (fr21 485 (by decide)))
  refine q_getv (v := (0, 0, 0)) (p2 := 29) rfl hm24 (by decide) rfl rfl ?_
  refine q_const (p2 := 30) rfl rfl ?_
  refine q_icmp_s (p2 := 31) rfl (by decide) (by omega) (by omega) rfl (fun _ => ?_) (fun hb => absurd (show ¬ (0 = 5) by omega) hb)
  refine q_iinc (z := 3) (loc2 := [(6, 0, 0), (0, 3, 0)]) (p2 := 38) rfl rfl (by decide) rfl rfl ?_
  refine q_goto rfl ?_
  refine q_load (v := (0, 3, 0)) (p2 := 16) rfl rfl rfl rfl ?_
  refine q_const (p2 := 17) rfl rfl ?_
  refine q_icmp_s (p2 := 18) rfl (by decide) (by omega) (by omega) rfl (fun hb => absurd hb (show ¬ (¬ (3 < 4)) by omega)) (fun _ => ?_)
  refine q_load (v := (6, 0, 0)) (p2 := 19) rfl rfl rfl rfl ?_
  refine q_getv (v := (6, 482, 0)) (p2 := 20) rfl hm22 (by decide) rfl rfl ?_
  refine q_load (v := (0, 3, 0)) (p2 := 21) rfl rfl rfl rfl ?_
  refine q_load (v := (6, 0, 0)) (p2 := 22) rfl rfl rfl rfl ?_
  refine q_getv (v := (6, n, 0)) (p2 := 23) rfl hm22 (by decide) rfl rfl ?_
  refine q_astE (v := (6, n, 0)) (w := (6, n, 0)) (p2 := 24) rfl hs21 (by omega) (by omega) (x_ok_r (((fr21 n (by omega)).trans ((fr17 n (by omega)).trans (fr10 n (by omega)))).trans hW13) rfl) (x_nv_same rfl (by decide)) rfl (fun φ25 f25 hh25 hg25 ho25 fr25 => ?_)
  have hs25 := zq_SL_st_482 hs21 hh25 hg25 ho25 fr25
  refine q_load (v := (6, 0, 0)) (p2 := 25) rfl rfl rfl rfl ?_
  have hm26 := (zq_H_at hm22 (fr25 0 (by decide)))
  refine q_getv (v := (6, 483, 0)) (p2 := 26) rfl hm26 (by decide) rfl rfl ?_
  refine q_load (v := (0, 3, 0)) (p2 := 27) rfl rfl rfl rfl ?_
  have hm27 := (zq_RW_at hm23 (fr25 483 (by decide)))
  refine q_aldT (tag := 6) (v := 485) (p2 := 28) rfl hm27 (by omega) (by omega) rfl rfl ?_
  have hm28 := (zq_V5_at hm24 (fr25 485 (by decide)))
  refine q_getv (v := (0, 0, 0)) (p2 := 29) rfl hm28 (by decide) rfl rfl ?_
  refine q_const (p2 := 30) rfl rfl ?_
  refine q_icmp_s (p2 := 31) rfl (by decide) (by omega) (by omega) rfl (fun _ => ?_) (fun hb => absurd (show ¬ (0 = 5) by omega) hb)
  refine q_iinc (z := 4) (loc2 := [(6, 0, 0), (0, 4, 0)]) (p2 := 38) rfl rfl (by decide) rfl rfl ?_
  refine q_goto rfl ?_
  refine q_load (v := (0, 4, 0)) (p2 := 16) rfl rfl rfl rfl ?_
  refine q_const (p2 := 17) rfl rfl ?_
  refine q_icmp_s (p2 := 18) rfl (by decide) (by omega) (by omega) rfl (fun _ => ?_) (fun hb => absurd (show ¬ (4 < 4) by omega) hb)
  refine q_const (p2 := 40) rfl rfl ?_
  refine x_n_lt (fun hlt30 => ?_)
  have hv29 := x_mv_at hv11 (fun j hj hne => by have hj2 := x_some_lt hlt12 hne; exact ((fr25 j (by omega)).trans ((fr21 j (by omega)).trans ((fr17 j (by omega)).trans (fr10 j (by omega))))))
  have hm31 := (zq_tp_at hB ((fr25 1 (by decide)).trans ((fr21 1 (by decide)).trans ((fr17 1 (by decide)).trans ((fr10 1 (by decide)).trans ((fr8 1 (by decide)).trans ((frn4 1 (by omega)).trans ((frn3 1 (by omega)).trans (frn1 1 (by omega) (by omega) (by omega))))))))))
  have hm32 := (zTJ_at hTJ (fun j h1 h2 => ((fr25 j (by omega)).trans ((fr21 j (by omega)).trans ((fr17 j (by omega)).trans ((fr10 j (by omega)).trans ((fr8 j (by omega)).trans ((frn4 j (by omega)).trans ((frn3 j (by omega)).trans (frn1 j (by omega) (by omega) (by omega)))))))))))
  have hm33 := (zEJ_at hEJ (fun j h1 h2 => ((fr25 j (by omega)).trans ((fr21 j (by omega)).trans ((fr17 j (by omega)).trans ((fr10 j (by omega)).trans ((fr8 j (by omega)).trans ((frn4 j (by omega)).trans ((frn3 j (by omega)).trans (frn1 j (by omega) (by omega) (by omega)))))))))))
  have hm34 := (zq_nm_at hN ((fr25 239 (by decide)).trans ((fr21 239 (by decide)).trans ((fr17 239 (by decide)).trans ((fr10 239 (by decide)).trans ((fr8 239 (by decide)).trans ((frn4 239 (by omega)).trans ((frn3 239 (by omega)).trans (frn1 239 (by omega) (by omega) (by omega))))))))) ((fr25 242 (by decide)).trans ((fr21 242 (by decide)).trans ((fr17 242 (by decide)).trans ((fr10 242 (by decide)).trans ((fr8 242 (by decide)).trans ((frn4 242 (by omega)).trans ((frn3 242 (by omega)).trans (frn1 242 (by omega) (by omega) (by omega))))))))) ((fr25 244 (by decide)).trans ((fr21 244 (by decide)).trans ((fr17 244 (by decide)).trans ((fr10 244 (by decide)).trans ((fr8 244 (by decide)).trans ((frn4 244 (by omega)).trans ((frn3 244 (by omega)).trans (frn1 244 (by omega) (by omega) (by omega))))))))))
  have hm35 := (x_KS_at2 hKS (fun j h1 h2 h3 h4 => ((fr25 j (by omega)).trans ((fr21 j (by omega)).trans ((fr17 j (by omega)).trans ((fr10 j (by omega)).trans ((fr8 j (by omega)).trans ((frn4 j (by omega)).trans ((frn3 j (by omega)).trans (frn1 j (by omega) (by omega) (by omega)))))))))))
  have hm36 := (x_PS_at hPZ1 (fun j hj hne => by have hj2 := x_some_lt hlt2 hne; exact ((fr25 j (by omega)).trans ((fr21 j (by omega)).trans ((fr17 j (by omega)).trans ((fr10 j (by omega)).trans ((fr8 j (by omega)).trans ((frn4 j (by omega)).trans (frn3 j (by omega))))))))))
  have hm37 := (x_LK_at2 hLZ1 (fun j h1 h2 => ((fr25 j (by omega)).trans ((fr21 j (by omega)).trans ((fr17 j (by omega)).trans ((fr10 j (by omega)).trans ((fr8 j (by omega)).trans ((frn4 j (by omega)).trans (frn3 j (by omega))))))))))
  have hm38 := (x_SP_at hSP (fun j hj hne => by have hj2 := x_some_lt hlt0 hne; exact ((fr25 j (by omega)).trans ((fr21 j (by omega)).trans ((fr17 j (by omega)).trans ((fr10 j (by omega)).trans ((fr8 j (by omega)).trans ((frn4 j (by omega)).trans ((frn3 j (by omega)).trans (frn1 j (by omega) (by omega) (by omega)))))))))))
  have hm39 := (zq_J_at hJ ((fr25 468 (by decide)).trans ((fr21 468 (by decide)).trans ((fr17 468 (by decide)).trans ((fr10 468 (by decide)).trans ((fr8 468 (by decide)).trans ((frn4 468 (by omega)).trans ((frn3 468 (by omega)).trans (frn1 468 (by omega) (by omega) (by omega))))))))) ((fr25 469 (by decide)).trans ((fr21 469 (by decide)).trans ((fr17 469 (by decide)).trans ((fr10 469 (by decide)).trans ((fr8 469 (by decide)).trans ((frn4 469 (by omega)).trans ((frn3 469 (by omega)).trans (frn1 469 (by omega) (by omega) (by omega))))))))) ((fr25 470 (by decide)).trans ((fr21 470 (by decide)).trans ((fr17 470 (by decide)).trans ((fr10 470 (by decide)).trans ((fr8 470 (by decide)).trans ((frn4 470 (by omega)).trans ((frn3 470 (by omega)).trans (frn1 470 (by omega) (by omega) (by omega))))))))))
  have hm40 := (zFJ_at hFJ (fun j h1 h2 => ((fr25 j (by omega)).trans ((fr21 j (by omega)).trans ((fr17 j (by omega)).trans ((fr10 j (by omega)).trans ((fr8 j (by omega)).trans ((frn4 j (by omega)).trans ((frn3 j (by omega)).trans (frn1 j (by omega) (by omega) (by omega)))))))))))
  have hm41 := (zWJ_at hWJ (fun j h1 h2 => ((fr25 j (by omega)).trans ((fr21 j (by omega)).trans ((fr17 j (by omega)).trans ((fr10 j (by omega)).trans ((fr8 j (by omega)).trans ((frn4 j (by omega)).trans ((frn3 j (by omega)).trans (frn1 j (by omega) (by omega) (by omega)))))))))))
  have hm42 := (zq_OV_at hOV ((fr25 452 (by decide)).trans ((fr21 452 (by decide)).trans ((fr17 452 (by decide)).trans ((fr10 452 (by decide)).trans ((fr8 452 (by decide)).trans ((frn4 452 (by omega)).trans ((frn3 452 (by omega)).trans (frn1 452 (by omega) (by omega) (by omega))))))))) ((fr25 453 (by decide)).trans ((fr21 453 (by decide)).trans ((fr17 453 (by decide)).trans ((fr10 453 (by decide)).trans ((fr8 453 (by decide)).trans ((frn4 453 (by omega)).trans ((frn3 453 (by omega)).trans (frn1 453 (by omega) (by omega) (by omega))))))))))
  exact q_retv (v := (0, 1, 0)) rfl rfl (⟨rfl, ⟨by omega, by omega⟩, ⟨by omega, by omega⟩, rfl, ⟨⟨_, _, hm26, (Or.inl hv29)⟩, hm31, hm32, hm33, hm34, ⟨_, ⟨_, _, _, _, _, _, _, _, _, _, hm35⟩, hco⟩, ⟨_, _, _, hm36, hm37⟩, hm38, hm28, ⟨_, hs25⟩, hm27, hm39, hm40, hm41, ⟨_, _, hm42, hovn, hovh⟩⟩⟩)
end FPOP66
