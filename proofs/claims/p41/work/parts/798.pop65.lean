section FPOP65
theorem q_inegz {P : List (List XI)} {d pc p2 n sl : Nat} {code : List XI} {t loc : List XV} {φ : FH} {Post : FP} {a b x z : Nat} {tb : List (Nat × Nat)} (hc : x_nth code pc = some (19, a, b, tb)) (hz : (4294967296 - x % 4294967296) % 4294967296 = z) (hp : pc + 1 = p2) (kk : x_n P d code p2 ((0, z, 0) :: t) loc φ n sl Post) : x_n P d code pc ((0, x, 0) :: t) loc φ n sl Post := by
  subst hp hz
  refine x_n_go (fun K f h _ => (x_run_op hc rfl).trans ?_) kk
  show x_if (Nat.beq 0 0) (x_I (Nat.sub 4294967296 (Nat.mod x 4294967296)) (fun w => x_force (Nat.succ pc) (fun p => x_run K f code p (w :: t) loc h n sl))) none = _
  rw [Nat.beq_refl, x_if_true, xe_I, x_force_eq]
  rfl
theorem zr_pos {φ : FH} {n sl a b c : Nat} {q : Prop} [Decidable q] {P : List (List XI)} {d M : Nat} {loc : List XV} (h : x_f P d M loc φ n sl (x_r φ n sl (0, if q then a else b, c))) (e : q) : x_f P d M loc φ n sl (x_r φ n sl (0, a, c)) := by
  rw [if_pos e] at h; exact h
theorem x_hw_g {φ : FH} {v : Nat} {m : MV} (h : x_hw φ v m) (h5 : zq_V5 φ) : ∃ f s l la ho c, φ v = some (0, 10, 7, f) ∧ x_vg f m.1 m.2.1 s l la ho c ∧ m.1 < 7 := by
  rcases h with h | ⟨rfl, rfl⟩
  · exact x_mv_g h
  · exact ⟨_, 0, 0, 0, 0, (12, 0, 0), h5, ⟨rfl, rfl, rfl, rfl, rfl, rfl, rfl⟩, by show 0 < 7; decide⟩
/-- slot 0 has the hand -/
def zKS (φ : FH) (m : MV) : Prop := ∃ tpd hand lf ie : Nat, ∃ slq : Nat → Nat, zq_H φ tpd hand lf ie ∧ zq_SL φ slq ∧ slq 0 = hand ∧ x_mv φ hand m
set_option maxHeartbeats 1000000 in
theorem zc_row_far {d n sl : Nat} {φ : FH} {tpd : Nat} {tp : Nat → Nat} {lf : Nat} {mi : Nat} {made : Nat} {sv : Nat} {svm : Nat} {comb : Nat → Nat} {hm : Nat → MV} {sc : Nat → Nat} {sm : Nat → MV} {mh : MV} {noted : Nat} {verd : Nat} {ins : Nat → Nat} {ver : Nat → Nat} {sz : Nat} {bw : Nat → Nat} {far : Nat} (hG : zG φ tpd tp lf mi made sv svm comb hm sc sm mh noted verd ins ver sz bw) (hn0 : 486 ≤ n) (hpv : ∀ i, x_pv2 (hm i)) (hmi : mi + 100 ≤ 20000) (hfar : 60 ≤ far ∧ far ≤ 315) : x_f x_P (d + 1) 31 [(6, 0, 0), (0, far, 0)] φ n sl (x_bR n sl 0 0 (fun zw φ2 => zw = (0, 4294967295, 0) ∧ zG φ2 tpd tp lf mi made sv svm comb hm sc sm mh noted verd ins ver sz bw)) := by
  refine x_f_of rfl ?_
  have hG0 := hG
  obtain ⟨⟨hand, ie, hH, hhw⟩, hB, hTJ, hEJ, hN, hKJ, ⟨A, B, s9, hPS, hLK0⟩, hSP, hV5, ⟨slq, hSL⟩, hRW, hJ, hFJ, hWJ, ⟨ovn, ovh, hOV, hovn, hovh⟩⟩ := hG
  refine x_n_lt (fun hlt0 => ?_)
  have hmade := x_PS_lt hPS
  obtain ⟨co, ⟨top_, fr_, pc_, mm, st, lo, re, rs, fl, se, hKS⟩, hco⟩ := hKJ
  refine q_load (v := (0, far, 0)) (p2 := 1) rfl rfl rfl rfl ?_
  refine q_if0_s (p2 := 2) rfl (by decide) (by omega) rfl (fun hb => absurd hb (show ¬ (far < 0) by omega)) (fun _ => ?_)
  refine q_load (v := (0, far, 0)) (p2 := 3) rfl rfl rfl rfl ?_
  refine q_load (v := (6, 0, 0)) (p2 := 4) rfl rfl rfl rfl ?_
  refine q_getv (v := (6, 7, 0)) (p2 := 5) rfl hH (by decide) rfl rfl ?_
  refine q_getv (v := (0, made, 0)) (p2 := 6) rfl hPS.1.choose_spec.1 (by decide) hPS.1.choose_spec.2.2.2.1 rfl ?_
  refine q_icmp_s (p2 := 7) rfl (by decide) (by omega) (by omega) rfl (fun hb => absurd hb (show ¬ (far < made) by omega)) (fun _ => ?_)
  refine q_const (p2 := 8) rfl rfl ?_
  refine q_goto rfl ?_
  exact q_retv (v := (0, 4294967295, 0)) rfl rfl (⟨rfl, ⟨by omega, by omega⟩, ⟨by omega, by omega⟩, rfl, ⟨⟨_, _, hH, hhw⟩, hB, hTJ, hEJ, hN, ⟨_, ⟨_, _, _, _, _, _, _, _, _, _, hKS⟩, hco⟩, ⟨_, _, _, hPS, hLK0⟩, hSP, hV5, ⟨_, hSL⟩, hRW, hJ, hFJ, hWJ, ⟨_, _, hOV, hovn, hovh⟩⟩⟩)
set_option maxHeartbeats 1000000 in
theorem zc_set_far {d n sl : Nat} {φ : FH} {tpd : Nat} {tp : Nat → Nat} {lf : Nat} {mi : Nat} {made : Nat} {sv : Nat} {svm : Nat} {comb : Nat → Nat} {hm : Nat → MV} {sc : Nat → Nat} {sm : Nat → MV} {mh : MV} {noted : Nat} {verd : Nat} {ins : Nat → Nat} {ver : Nat → Nat} {sz : Nat} {bw : Nat → Nat} {far : Nat} (hG : zG φ tpd tp lf mi made sv svm comb hm sc sm mh noted verd ins ver sz bw) (hn0 : 486 ≤ n) (hpv : ∀ i, x_pv2 (hm i)) (hmi : mi + 100 ≤ 20000) (hfar : 60 ≤ far ∧ far ≤ 315) : x_f x_P (d + 4) 24 [(6, 0, 0), (0, far, 0), (0, 0, 0), (11, 0, 0), (11, 0, 0), (11, 0, 0)] φ n sl (x_bR n sl 0 0 (fun zw φ2 => zw = (0, 4294967295, 0) ∧ zG φ2 tpd tp lf mi made sv svm comb hm sc sm mh noted verd ins ver sz bw)) := by
  refine x_f_of rfl ?_
  have hG0 := hG
  obtain ⟨⟨hand, ie, hH, hhw⟩, hB, hTJ, hEJ, hN, hKJ, ⟨A, B, s9, hPS, hLK0⟩, hSP, hV5, ⟨slq, hSL⟩, hRW, hJ, hFJ, hWJ, ⟨ovn, ovh, hOV, hovn, hovh⟩⟩ := hG
  refine x_n_lt (fun hlt0 => ?_)
  have hmade := x_PS_lt hPS
  obtain ⟨co, ⟨top_, fr_, pc_, mm, st, lo, re, rs, fl, se, hKS⟩, hco⟩ := hKJ
  refine q_load (v := (6, 0, 0)) (p2 := 1) rfl rfl rfl rfl ?_
  refine q_getv (v := (6, 7, 0)) (p2 := 2) rfl hH (by decide) rfl rfl ?_
  refine q_load (v := (0, far, 0)) (p2 := 3) rfl rfl rfl rfl ?_
  refine q_load (v := (0, 0, 0)) (p2 := 4) rfl rfl rfl rfl ?_
  refine q_callr (xs := [(0, 0, 0), (0, far, 0), (6, 7, 0)]) (p2 := 5) rfl rfl rfl rfl (x_rcv_s 7 hPS.1.choose_spec.1) rfl (zr_no (e_has_0 hPS.1.choose_spec hPS.2.1 hKS.2.2.2.2.2.2.2.2.2 (by omega)) (fun z => by have := z.1.1; omega)) (Nat.le_refl _) (Nat.le_refl _) rfl ?_
  refine q_if0_s (p2 := 6) rfl (by decide) (by omega) rfl (fun _ => ?_) (fun hb => absurd (show 0 = 0 by omega) hb)
  refine q_const (p2 := 16) rfl rfl ?_
  exact q_retv (v := (0, 4294967295, 0)) rfl rfl (⟨rfl, ⟨by omega, by omega⟩, ⟨by omega, by omega⟩, rfl, ⟨⟨_, _, hH, hhw⟩, hB, hTJ, hEJ, hN, ⟨_, ⟨_, _, _, _, _, _, _, _, _, _, hKS⟩, hco⟩, ⟨_, _, _, hPS, hLK0⟩, hSP, hV5, ⟨_, hSL⟩, hRW, hJ, hFJ, hWJ, ⟨_, _, hOV, hovn, hovh⟩⟩⟩)
set_option maxHeartbeats 1000000 in
theorem zc_get_far {d n sl : Nat} {φ : FH} {tpd : Nat} {tp : Nat → Nat} {lf : Nat} {mi : Nat} {made : Nat} {sv : Nat} {svm : Nat} {comb : Nat → Nat} {hm : Nat → MV} {sc : Nat → Nat} {sm : Nat → MV} {mh : MV} {noted : Nat} {verd : Nat} {ins : Nat → Nat} {ver : Nat → Nat} {sz : Nat} {bw : Nat → Nat} {far : Nat} (hG : zG φ tpd tp lf mi made sv svm comb hm sc sm mh noted verd ins ver sz bw) (hn0 : 486 ≤ n) (hpv : ∀ i, x_pv2 (hm i)) (hmi : mi + 100 ≤ 20000) (hfar : 60 ≤ far ∧ far ≤ 315) : x_f x_P (d + 4) 26 [(6, 0, 0), (0, 0, 0), (0, far, 0)] φ n sl (x_bR n sl 0 0 (fun zw φ2 => zw = (0, 4294967295, 0) ∧ zG φ2 tpd tp lf mi made sv svm comb hm sc sm mh noted verd ins ver sz bw)) := by
  refine x_f_of rfl ?_
  have hG0 := hG
  obtain ⟨⟨hand, ie, hH, hhw⟩, hB, hTJ, hEJ, hN, hKJ, ⟨A, B, s9, hPS, hLK0⟩, hSP, hV5, ⟨slq, hSL⟩, hRW, hJ, hFJ, hWJ, ⟨ovn, ovh, hOV, hovn, hovh⟩⟩ := hG
  refine x_n_lt (fun hlt0 => ?_)
  have hmade := x_PS_lt hPS
  obtain ⟨co, ⟨top_, fr_, pc_, mm, st, lo, re, rs, fl, se, hKS⟩, hco⟩ := hKJ
  refine q_load (v := (6, 0, 0)) (p2 := 1) rfl rfl rfl rfl ?_
  refine q_getv (v := (6, 7, 0)) (p2 := 2) rfl hH (by decide) rfl rfl ?_
  refine q_load (v := (0, 0, 0)) (p2 := 3) rfl rfl rfl rfl ?_
  refine q_load (v := (0, far, 0)) (p2 := 4) rfl rfl rfl rfl ?_
  refine q_callr (xs := [(0, far, 0), (0, 0, 0), (6, 7, 0)]) (p2 := 5) rfl rfl rfl rfl (x_rcv_s 7 hPS.1.choose_spec.1) rfl (e_has_no hPS.1.choose_spec hKS.2.2.2.2.2.2.2.2.2 (by omega) (by omega)) (Nat.le_refl _) (Nat.le_refl _) rfl ?_
  refine q_if0_s (p2 := 6) rfl (by decide) (by omega) rfl (fun hb => absurd hb (show ¬ (¬ (0 = 0)) by omega)) (fun _ => ?_)
  refine q_const (p2 := 7) rfl rfl ?_
  exact q_retv (v := (0, 4294967295, 0)) rfl rfl (⟨rfl, ⟨by omega, by omega⟩, ⟨by omega, by omega⟩, rfl, ⟨⟨_, _, hH, hhw⟩, hB, hTJ, hEJ, hN, ⟨_, ⟨_, _, _, _, _, _, _, _, _, _, hKS⟩, hco⟩, ⟨_, _, _, hPS, hLK0⟩, hSP, hV5, ⟨_, hSL⟩, hRW, hJ, hFJ, hWJ, ⟨_, _, hOV, hovn, hovh⟩⟩⟩)
set_option maxHeartbeats 1000000 in
theorem zc_drop_far {d n sl : Nat} {φ : FH} {tpd : Nat} {tp : Nat → Nat} {lf : Nat} {mi : Nat} {made : Nat} {sv : Nat} {svm : Nat} {comb : Nat → Nat} {hm : Nat → MV} {sc : Nat → Nat} {sm : Nat → MV} {mh : MV} {noted : Nat} {verd : Nat} {ins : Nat → Nat} {ver : Nat → Nat} {sz : Nat} {bw : Nat → Nat} {far : Nat} (hG : zG φ tpd tp lf mi made sv svm comb hm sc sm mh noted verd ins ver sz bw) (hn0 : 486 ≤ n) (hpv : ∀ i, x_pv2 (hm i)) (hmi : mi + 100 ≤ 20000) (hfar : 60 ≤ far ∧ far ≤ 315) : x_f x_P (d + 2) 25 [(6, 0, 0), (0, far, 0)] φ n sl (x_bR n sl 0 0 (fun zw φ2 => zw = (0, 4294967295, 0) ∧ zG φ2 tpd tp lf mi made sv svm comb hm sc sm mh noted verd ins ver sz bw)) := by
  refine x_f_of rfl ?_
  have hG0 := hG
  obtain ⟨⟨hand, ie, hH, hhw⟩, hB, hTJ, hEJ, hN, hKJ, ⟨A, B, s9, hPS, hLK0⟩, hSP, hV5, ⟨slq, hSL⟩, hRW, hJ, hFJ, hWJ, ⟨ovn, ovh, hOV, hovn, hovh⟩⟩ := hG
  refine x_n_lt (fun hlt0 => ?_)
  have hmade := x_PS_lt hPS
  obtain ⟨co, ⟨top_, fr_, pc_, mm, st, lo, re, rs, fl, se, hKS⟩, hco⟩ := hKJ
  refine q_load (v := (6, 0, 0)) (p2 := 1) rfl rfl rfl rfl ?_
  refine q_getv (v := (6, 7, 0)) (p2 := 2) rfl hH (by decide) rfl rfl ?_
  refine q_load (v := (0, far, 0)) (p2 := 3) rfl rfl rfl rfl ?_
  refine q_callr (xs := [(0, far, 0), (6, 7, 0)]) (p2 := 4) rfl rfl rfl rfl (x_rcv_s 7 hPS.1.choose_spec.1) rfl (zr_no (e_exists hPS.1.choose_spec hPS.2.1 (by omega)) (fun z => by have := z.1; omega)) (Nat.le_refl _) (Nat.le_refl _) rfl ?_
  refine q_if0_s (p2 := 5) rfl (by decide) (by omega) rfl (fun hb => absurd hb (show ¬ (¬ (0 = 0)) by omega)) (fun _ => ?_)
  refine q_const (p2 := 6) rfl rfl ?_
  exact q_retv (v := (0, 4294967295, 0)) rfl rfl (⟨rfl, ⟨by omega, by omega⟩, ⟨by omega, by omega⟩, rfl, ⟨⟨_, _, hH, hhw⟩, hB, hTJ, hEJ, hN, ⟨_, ⟨_, _, _, _, _, _, _, _, _, _, hKS⟩, hco⟩, ⟨_, _, _, hPS, hLK0⟩, hSP, hV5, ⟨_, hSL⟩, hRW, hJ, hFJ, hWJ, ⟨_, _, hOV, hovn, hovh⟩⟩⟩)
set_option maxHeartbeats 1000000 in
theorem zc_keep_4 {d n sl : Nat} {φ : FH} {tpd : Nat} {tp : Nat → Nat} {lf : Nat} {mi : Nat} {made : Nat} {sv : Nat} {svm : Nat} {comb : Nat → Nat} {hm : Nat → MV} {sc : Nat → Nat} {sm : Nat → MV} {mh : MV} {noted : Nat} {verd : Nat} {ins : Nat → Nat} {ver : Nat → Nat} {sz : Nat} {bw : Nat → Nat}  (hG : zG φ tpd tp lf mi made sv svm comb hm sc sm mh noted verd ins ver sz bw) (hn0 : 486 ≤ n) (hpv : ∀ i, x_pv2 (hm i)) (hmi : mi + 100 ≤ 20000)  : x_f x_P (d + 1) 32 [(6, 0, 0), (0, 4, 0)] φ n sl (x_bR n sl 0 0 (fun zw φ2 => zw = (0, 4294967295, 0) ∧ zG φ2 tpd tp lf mi made sv svm comb hm sc sm mh noted verd ins ver sz bw)) := by
  refine x_f_of rfl ?_
  have hG0 := hG
  obtain ⟨⟨hand, ie, hH, hhw⟩, hB, hTJ, hEJ, hN, hKJ, ⟨A, B, s9, hPS, hLK0⟩, hSP, hV5, ⟨slq, hSL⟩, hRW, hJ, hFJ, hWJ, ⟨ovn, ovh, hOV, hovn, hovh⟩⟩ := hG
  refine x_n_lt (fun hlt0 => ?_)
  have hmade := x_PS_lt hPS
  obtain ⟨co, ⟨top_, fr_, pc_, mm, st, lo, re, rs, fl, se, hKS⟩, hco⟩ := hKJ
  refine q_load (v := (0, 4, 0)) (p2 := 1) rfl rfl rfl rfl ?_
  refine q_if0_s (p2 := 2) rfl (by decide) (by omega) rfl (fun hb => absurd hb (show ¬ (4 < 0) by omega)) (fun _ => ?_)
  refine q_load (v := (0, 4, 0)) (p2 := 3) rfl rfl rfl rfl ?_
  refine q_const (p2 := 4) rfl rfl ?_
  refine q_icmp_s (p2 := 5) rfl (by decide) (by omega) (by omega) rfl (fun hb => absurd hb (show ¬ (4 < 4) by omega)) (fun _ => ?_)
  refine q_const (p2 := 6) rfl rfl ?_
  exact q_retv (v := (0, 4294967295, 0)) rfl rfl (⟨rfl, ⟨by omega, by omega⟩, ⟨by omega, by omega⟩, rfl, ⟨⟨_, _, hH, hhw⟩, hB, hTJ, hEJ, hN, ⟨_, ⟨_, _, _, _, _, _, _, _, _, _, hKS⟩, hco⟩, ⟨_, _, _, hPS, hLK0⟩, hSP, hV5, ⟨_, hSL⟩, hRW, hJ, hFJ, hWJ, ⟨_, _, hOV, hovn, hovh⟩⟩⟩)
set_option maxHeartbeats 1000000 in
theorem zc_take_4 {d n sl : Nat} {φ : FH} {tpd : Nat} {tp : Nat → Nat} {lf : Nat} {mi : Nat} {made : Nat} {sv : Nat} {svm : Nat} {comb : Nat → Nat} {hm : Nat → MV} {sc : Nat → Nat} {sm : Nat → MV} {mh : MV} {noted : Nat} {verd : Nat} {ins : Nat → Nat} {ver : Nat → Nat} {sz : Nat} {bw : Nat → Nat}  (hG : zG φ tpd tp lf mi made sv svm comb hm sc sm mh noted verd ins ver sz bw) (hn0 : 486 ≤ n) (hpv : ∀ i, x_pv2 (hm i)) (hmi : mi + 100 ≤ 20000)  : x_f x_P (d + 1) 35 [(6, 0, 0), (0, 4, 0)] φ n sl (x_bR n sl 0 0 (fun zw φ2 => zw = (0, 4294967295, 0) ∧ zG φ2 tpd tp lf mi made sv svm comb hm sc sm mh noted verd ins ver sz bw)) := by
  refine x_f_of rfl ?_
  have hG0 := hG
  obtain ⟨⟨hand, ie, hH, hhw⟩, hB, hTJ, hEJ, hN, hKJ, ⟨A, B, s9, hPS, hLK0⟩, hSP, hV5, ⟨slq, hSL⟩, hRW, hJ, hFJ, hWJ, ⟨ovn, ovh, hOV, hovn, hovh⟩⟩ := hG
  refine x_n_lt (fun hlt0 => ?_)
  have hmade := x_PS_lt hPS
  obtain ⟨co, ⟨top_, fr_, pc_, mm, st, lo, re, rs, fl, se, hKS⟩, hco⟩ := hKJ
  refine q_load (v := (0, 4, 0)) (p2 := 1) rfl rfl rfl rfl ?_
  refine q_if0_s (p2 := 2) rfl (by decide) (by omega) rfl (fun hb => absurd hb (show ¬ (4 < 0) by omega)) (fun _ => ?_)
  refine q_load (v := (0, 4, 0)) (p2 := 3) rfl rfl rfl rfl ?_
  refine q_const (p2 := 4) rfl rfl ?_
  refine q_icmp_s (p2 := 5) rfl (by decide) (by omega) (by omega) rfl (fun hb => absurd hb (show ¬ (4 < 4) by omega)) (fun _ => ?_)
  refine q_const (p2 := 6) rfl rfl ?_
  exact q_retv (v := (0, 4294967295, 0)) rfl rfl (⟨rfl, ⟨by omega, by omega⟩, ⟨by omega, by omega⟩, rfl, ⟨⟨_, _, hH, hhw⟩, hB, hTJ, hEJ, hN, ⟨_, ⟨_, _, _, _, _, _, _, _, _, _, hKS⟩, hco⟩, ⟨_, _, _, hPS, hLK0⟩, hSP, hV5, ⟨_, hSL⟩, hRW, hJ, hFJ, hWJ, ⟨_, _, hOV, hovn, hovh⟩⟩⟩)
set_option maxHeartbeats 1000000 in
theorem zc_count_13 {d n sl : Nat} {φ : FH} {tpd : Nat} {tp : Nat → Nat} {lf : Nat} {mi : Nat} {made : Nat} {sv : Nat} {svm : Nat} {comb : Nat → Nat} {hm : Nat → MV} {sc : Nat → Nat} {sm : Nat → MV} {mh : MV} {noted : Nat} {verd : Nat} {ins : Nat → Nat} {ver : Nat → Nat} {sz : Nat} {bw : Nat → Nat}  (hG : zG φ tpd tp lf mi made sv svm comb hm sc sm mh noted verd ins ver sz bw) (hn0 : 486 ≤ n) (hpv : ∀ i, x_pv2 (hm i)) (hmi : mi + 100 ≤ 20000)  : x_f x_P (d + 1) 30 [(6, 0, 0), (0, 13, 0), (11, 0, 0)] φ n sl (x_bR n sl 0 0 (fun zw φ2 => zw = (0, 4294967295, 0) ∧ zG φ2 tpd tp lf mi made sv svm comb hm sc sm mh noted verd ins ver sz bw)) := by
  refine x_f_of rfl ?_
  have hG0 := hG
  obtain ⟨⟨hand, ie, hH, hhw⟩, hB, hTJ, hEJ, hN, hKJ, ⟨A, B, s9, hPS, hLK0⟩, hSP, hV5, ⟨slq, hSL⟩, hRW, hJ, hFJ, hWJ, ⟨ovn, ovh, hOV, hovn, hovh⟩⟩ := hG
  refine x_n_lt (fun hlt0 => ?_)
  have hmade := x_PS_lt hPS
  obtain ⟨co, ⟨top_, fr_, pc_, mm, st, lo, re, rs, fl, se, hKS⟩, hco⟩ := hKJ
  refine q_load (v := (6, 0, 0)) (p2 := 1) rfl rfl rfl rfl ?_
  refine q_getv (v := (6, 7, 0)) (p2 := 2) rfl hH (by decide) rfl rfl ?_
  refine q_getv (v := (6, 237, 0)) (p2 := 3) rfl hPS.1.choose_spec.1 (by decide) hPS.1.choose_spec.2.1 rfl ?_
  refine q_store (loc2 := [(6, 0, 0), (0, 13, 0), (6, 237, 0)]) (p2 := 4) rfl rfl rfl rfl rfl ?_
  refine q_load (v := (0, 13, 0)) (p2 := 5) rfl rfl rfl rfl ?_
  refine q_switch (tgt := 60) rfl (by decide) rfl ?_
  refine q_const (p2 := 61) rfl rfl ?_
  exact q_retv (v := (0, 4294967295, 0)) rfl rfl (⟨rfl, ⟨by omega, by omega⟩, ⟨by omega, by omega⟩, rfl, ⟨⟨_, _, hH, hhw⟩, hB, hTJ, hEJ, hN, ⟨_, ⟨_, _, _, _, _, _, _, _, _, _, hKS⟩, hco⟩, ⟨_, _, _, hPS, hLK0⟩, hSP, hV5, ⟨_, hSL⟩, hRW, hJ, hFJ, hWJ, ⟨_, _, hOV, hovn, hovh⟩⟩⟩)
set_option maxHeartbeats 1000000 in
theorem zc_comb_3 {d n sl : Nat} {φ : FH} {tpd : Nat} {tp : Nat → Nat} {lf : Nat} {mi : Nat} {made : Nat} {sv : Nat} {svm : Nat} {comb : Nat → Nat} {hm : Nat → MV} {sc : Nat → Nat} {sm : Nat → MV} {mh : MV} {noted : Nat} {verd : Nat} {ins : Nat → Nat} {ver : Nat → Nat} {sz : Nat} {bw : Nat → Nat}  (hG : zG φ tpd tp lf mi made sv svm comb hm sc sm mh noted verd ins ver sz bw) (hn0 : 486 ≤ n) (hpv : ∀ i, x_pv2 (hm i)) (hmi : mi + 100 ≤ 20000)  : x_f x_P (d + 1) 36 [(6, 0, 0), (0, 3, 0)] φ n sl (x_bR n sl 0 0 (fun zw φ2 => zw = (0, 4294967295, 0) ∧ zG φ2 tpd tp lf mi made sv svm comb hm sc sm mh noted verd ins ver sz bw)) := by
  refine x_f_of rfl ?_
  have hG0 := hG
  obtain ⟨⟨hand, ie, hH, hhw⟩, hB, hTJ, hEJ, hN, hKJ, ⟨A, B, s9, hPS, hLK0⟩, hSP, hV5, ⟨slq, hSL⟩, hRW, hJ, hFJ, hWJ, ⟨ovn, ovh, hOV, hovn, hovh⟩⟩ := hG
  refine x_n_lt (fun hlt0 => ?_)
  have hmade := x_PS_lt hPS
  obtain ⟨co, ⟨top_, fr_, pc_, mm, st, lo, re, rs, fl, se, hKS⟩, hco⟩ := hKJ
  refine q_load (v := (0, 3, 0)) (p2 := 1) rfl rfl rfl rfl ?_
  refine q_if0_s (p2 := 2) rfl (by decide) (by omega) rfl (fun hb => absurd hb (show ¬ (3 < 0) by omega)) (fun _ => ?_)
  refine q_load (v := (0, 3, 0)) (p2 := 3) rfl rfl rfl rfl ?_
  refine q_load (v := (6, 0, 0)) (p2 := 4) rfl rfl rfl rfl ?_
  refine q_getv (v := (6, 7, 0)) (p2 := 5) rfl hH (by decide) rfl rfl ?_
  refine q_getv (v := (6, 237, 0)) (p2 := 6) rfl hPS.1.choose_spec.1 (by decide) hPS.1.choose_spec.2.1 rfl ?_
  refine q_getv (v := (6, 246, 0)) (p2 := 7) rfl hKS.2.2.2.2.2.2.2.2.2.1.choose_spec.1 (by decide) hKS.2.2.2.2.2.2.2.2.2.1.choose_spec.2.2.2.1 rfl ?_
  refine q_const (p2 := 8) rfl rfl ?_
  refine q_aldv (v := (0, 3, 0)) (p2 := 9) rfl (x_sc_246 hKS.2.2.2.2.2.2.2.2.2) (by omega) (by omega) rfl rfl ?_
  refine q_icmp_s (p2 := 10) rfl (by decide) (by omega) (by omega) rfl (fun hb => absurd hb (show ¬ (3 < 3) by omega)) (fun _ => ?_)
  refine q_const (p2 := 11) rfl rfl ?_
  exact q_retv (v := (0, 4294967295, 0)) rfl rfl (⟨rfl, ⟨by omega, by omega⟩, ⟨by omega, by omega⟩, rfl, ⟨⟨_, _, hH, hhw⟩, hB, hTJ, hEJ, hN, ⟨_, ⟨_, _, _, _, _, _, _, _, _, _, hKS⟩, hco⟩, ⟨_, _, _, hPS, hLK0⟩, hSP, hV5, ⟨_, hSL⟩, hRW, hJ, hFJ, hWJ, ⟨_, _, hOV, hovn, hovh⟩⟩⟩)
set_option maxHeartbeats 1000000 in
theorem zc_cut_far {d n sl : Nat} {φ : FH} {tp : Nat → Nat} {lf : Nat} {mi : Nat} {made : Nat} {sv : Nat} {svm : Nat} {comb : Nat → Nat} {hm : Nat → MV} {sc : Nat → Nat} {sm : Nat → MV} {mh : MV} {noted : Nat} {verd : Nat} {ins : Nat → Nat} {ver : Nat → Nat} {sz : Nat} {bw : Nat → Nat} {far : Nat} (hG : zG φ 0 tp lf mi made sv svm comb hm sc sm mh noted verd ins ver sz bw) (hn0 : 486 ≤ n) (hpv : ∀ i, x_pv2 (hm i)) (hmi : mi + 100 ≤ 20000) (hfar : 60 ≤ far ∧ far ≤ 315) : x_f x_P (d + 1) 21 [(6, 0, 0), (0, far, 0)] φ n sl (x_bR n sl 0 0 (fun zw φ2 => zw = (0, 4294967295, 0) ∧ zG φ2 0 tp lf mi made sv svm comb hm sc sm mh noted verd ins ver sz bw)) := by
  refine x_f_of rfl ?_
  have hG0 := hG
  obtain ⟨⟨hand, ie, hH, hhw⟩, hB, hTJ, hEJ, hN, hKJ, ⟨A, B, s9, hPS, hLK0⟩, hSP, hV5, ⟨slq, hSL⟩, hRW, hJ, hFJ, hWJ, ⟨ovn, ovh, hOV, hovn, hovh⟩⟩ := hG
  refine x_n_lt (fun hlt0 => ?_)
  have hmade := x_PS_lt hPS
  obtain ⟨co, ⟨top_, fr_, pc_, mm, st, lo, re, rs, fl, se, hKS⟩, hco⟩ := hKJ
  refine q_load (v := (0, far, 0)) (p2 := 1) rfl rfl rfl rfl ?_
  refine q_if0_s (p2 := 2) rfl (by decide) (by omega) rfl (fun hb => absurd hb (show ¬ (far < 0) by omega)) (fun _ => ?_)
  refine q_load (v := (0, far, 0)) (p2 := 3) rfl rfl rfl rfl ?_
  refine q_load (v := (6, 0, 0)) (p2 := 4) rfl rfl rfl rfl ?_
  refine q_getv (v := (0, 0, 0)) (p2 := 5) rfl hH (by decide) rfl rfl ?_
  refine q_icmp_s (p2 := 6) rfl (by decide) (by omega) (by omega) rfl (fun hb => absurd hb (show ¬ (¬ (0 < far)) by omega)) (fun _ => ?_)
  refine q_const (p2 := 7) rfl rfl ?_
  exact q_retv (v := (0, 4294967295, 0)) rfl rfl (⟨rfl, ⟨by omega, by omega⟩, ⟨by omega, by omega⟩, rfl, ⟨⟨_, _, hH, hhw⟩, hB, hTJ, hEJ, hN, ⟨_, ⟨_, _, _, _, _, _, _, _, _, _, hKS⟩, hco⟩, ⟨_, _, _, hPS, hLK0⟩, hSP, hV5, ⟨_, hSL⟩, hRW, hJ, hFJ, hWJ, ⟨_, _, hOV, hovn, hovh⟩⟩⟩)
theorem zc_fault {d n sl : Nat} {φ : FH} {tpd : Nat} {tp : Nat → Nat} {lf : Nat} {mi : Nat} {made : Nat} {sv : Nat} {svm : Nat} {comb : Nat → Nat} {hm : Nat → MV} {sc : Nat → Nat} {sm : Nat → MV} {mh : MV} {noted : Nat} {verd : Nat} {ins : Nat → Nat} {ver : Nat → Nat} {sz : Nat} {bw : Nat → Nat}  (hG : zG φ tpd tp lf mi made sv svm comb hm sc sm mh noted verd ins ver sz bw) (hn0 : 486 ≤ n)  : x_f x_P (d + 1) 37 [(6, 0, 0)] φ n sl (x_r φ n sl (0, lf, 0)) := by
  refine x_f_of rfl ?_
  have hG0 := hG
  obtain ⟨⟨hand, ie, hH, hhw⟩, hB, hTJ, hEJ, hN, hKJ, ⟨A, B, s9, hPS, hLK0⟩, hSP, hV5, ⟨slq, hSL⟩, hRW, hJ, hFJ, hWJ, ⟨ovn, ovh, hOV, hovn, hovh⟩⟩ := hG
  refine x_n_lt (fun hlt0 => ?_)
  have hmade := x_PS_lt hPS
  obtain ⟨co, ⟨top_, fr_, pc_, mm, st, lo, re, rs, fl, se, hKS⟩, hco⟩ := hKJ
  refine q_load (v := (6, 0, 0)) (p2 := 1) rfl rfl rfl rfl ?_
  refine q_getv (v := (0, lf, 0)) (p2 := 2) rfl hH (by decide) rfl rfl ?_
  exact q_retv (v := (0, lf, 0)) rfl rfl (⟨rfl, rfl, rfl, rfl, rfl⟩)
theorem zc_count7 {d n sl : Nat} {φ : FH} {tpd : Nat} {tp : Nat → Nat} {lf : Nat} {mi : Nat} {made : Nat} {sv : Nat} {svm : Nat} {comb : Nat → Nat} {hm : Nat → MV} {sc : Nat → Nat} {sm : Nat → MV} {mh : MV} {noted : Nat} {verd : Nat} {ins : Nat → Nat} {ver : Nat → Nat} {sz : Nat} {bw : Nat → Nat}  (hG : zG φ tpd tp lf mi made sv svm comb hm sc sm mh noted verd ins ver sz bw) (hn0 : 486 ≤ n)  : x_f x_P (d + 1) 30 [(6, 0, 0), (0, 7, 0), (11, 0, 0)] φ n sl (x_r φ n sl (0, made, 0)) := by
  refine x_f_of rfl ?_
  have hG0 := hG
  obtain ⟨⟨hand, ie, hH, hhw⟩, hB, hTJ, hEJ, hN, hKJ, ⟨A, B, s9, hPS, hLK0⟩, hSP, hV5, ⟨slq, hSL⟩, hRW, hJ, hFJ, hWJ, ⟨ovn, ovh, hOV, hovn, hovh⟩⟩ := hG
  refine x_n_lt (fun hlt0 => ?_)
  have hmade := x_PS_lt hPS
  obtain ⟨co, ⟨top_, fr_, pc_, mm, st, lo, re, rs, fl, se, hKS⟩, hco⟩ := hKJ
  refine q_load (v := (6, 0, 0)) (p2 := 1) rfl rfl rfl rfl ?_
  refine q_getv (v := (6, 7, 0)) (p2 := 2) rfl hH (by decide) rfl rfl ?_
  refine q_getv (v := (6, 237, 0)) (p2 := 3) rfl hPS.1.choose_spec.1 (by decide) hPS.1.choose_spec.2.1 rfl ?_
  refine q_store (loc2 := [(6, 0, 0), (0, 7, 0), (6, 237, 0)]) (p2 := 4) rfl rfl rfl rfl rfl ?_
  refine q_load (v := (0, 7, 0)) (p2 := 5) rfl rfl rfl rfl ?_
  refine q_switch (tgt := 37) rfl (by decide) rfl ?_
  refine q_load (v := (6, 0, 0)) (p2 := 38) rfl rfl rfl rfl ?_
  refine q_getv (v := (6, 7, 0)) (p2 := 39) rfl hH (by decide) rfl rfl ?_
  refine q_getv (v := (0, made, 0)) (p2 := 40) rfl hPS.1.choose_spec.1 (by decide) hPS.1.choose_spec.2.2.2.1 rfl ?_
  exact q_retv (v := (0, made, 0)) rfl rfl (⟨rfl, rfl, rfl, rfl, rfl⟩)
theorem zc_count8 {d n sl : Nat} {φ : FH} {tpd : Nat} {tp : Nat → Nat} {lf : Nat} {mi : Nat} {made : Nat} {sv : Nat} {svm : Nat} {comb : Nat → Nat} {hm : Nat → MV} {sc : Nat → Nat} {sm : Nat → MV} {mh : MV} {noted : Nat} {verd : Nat} {ins : Nat → Nat} {ver : Nat → Nat} {sz : Nat} {bw : Nat → Nat}  (hG : zG φ tpd tp lf mi made sv svm comb hm sc sm mh noted verd ins ver sz bw) (hn0 : 486 ≤ n)  : x_f x_P (d + 3) 30 [(6, 0, 0), (0, 8, 0), (11, 0, 0)] φ n sl (x_r φ n sl (0, (x_fl (fun y => comb y ≠ 0) made).length, 0)) := by
  refine x_f_of rfl ?_
  have hG0 := hG
  obtain ⟨⟨hand, ie, hH, hhw⟩, hB, hTJ, hEJ, hN, hKJ, ⟨A, B, s9, hPS, hLK0⟩, hSP, hV5, ⟨slq, hSL⟩, hRW, hJ, hFJ, hWJ, ⟨ovn, ovh, hOV, hovn, hovh⟩⟩ := hG
  refine x_n_lt (fun hlt0 => ?_)
  have hmade := x_PS_lt hPS
  obtain ⟨co, ⟨top_, fr_, pc_, mm, st, lo, re, rs, fl, se, hKS⟩, hco⟩ := hKJ
  refine q_load (v := (6, 0, 0)) (p2 := 1) rfl rfl rfl rfl ?_
  refine q_getv (v := (6, 7, 0)) (p2 := 2) rfl hH (by decide) rfl rfl ?_
  refine q_getv (v := (6, 237, 0)) (p2 := 3) rfl hPS.1.choose_spec.1 (by decide) hPS.1.choose_spec.2.1 rfl ?_
  refine q_store (loc2 := [(6, 0, 0), (0, 8, 0), (6, 237, 0)]) (p2 := 4) rfl rfl rfl rfl rfl ?_
  refine q_load (v := (0, 8, 0)) (p2 := 5) rfl rfl rfl rfl ?_
  refine q_switch (tgt := 41) rfl (by decide) rfl ?_
  refine q_load (v := (6, 0, 0)) (p2 := 42) rfl rfl rfl rfl ?_
  refine q_getv (v := (6, 7, 0)) (p2 := 43) rfl hH (by decide) rfl rfl ?_
  refine q_callr (xs := [(6, 7, 0)]) (p2 := 44) rfl rfl rfl rfl (x_rcv_s 7 hPS.1.choose_spec.1) rfl (e_existing hPS) (Nat.le_refl _) (Nat.le_refl _) rfl ?_
  exact q_retv (v := (0, (x_fl (fun y => comb y ≠ 0) made).length, 0)) rfl rfl (⟨rfl, rfl, rfl, rfl, rfl⟩)
theorem zc_row {d n sl : Nat} {φ : FH} {tpd : Nat} {tp : Nat → Nat} {lf : Nat} {mi : Nat} {made : Nat} {sv : Nat} {svm : Nat} {comb : Nat → Nat} {hm : Nat → MV} {sc : Nat → Nat} {sm : Nat → MV} {mh : MV} {noted : Nat} {verd : Nat} {ins : Nat → Nat} {ver : Nat → Nat} {sz : Nat} {bw : Nat → Nat} {x : Nat} (hG : zG φ tpd tp lf mi made sv svm comb hm sc sm mh noted verd ins ver sz bw) (hn0 : 486 ≤ n) (hx : x < made) : x_f x_P (d + 2) 31 [(6, 0, 0), (0, x, 0)] φ n sl (x_r φ n sl (0, comb x, 0)) := by
  refine x_f_of rfl ?_
  have hG0 := hG
  obtain ⟨⟨hand, ie, hH, hhw⟩, hB, hTJ, hEJ, hN, hKJ, ⟨A, B, s9, hPS, hLK0⟩, hSP, hV5, ⟨slq, hSL⟩, hRW, hJ, hFJ, hWJ, ⟨ovn, ovh, hOV, hovn, hovh⟩⟩ := hG
  refine x_n_lt (fun hlt0 => ?_)
  have hmade := x_PS_lt hPS
  obtain ⟨co, ⟨top_, fr_, pc_, mm, st, lo, re, rs, fl, se, hKS⟩, hco⟩ := hKJ
  refine q_load (v := (0, x, 0)) (p2 := 1) rfl rfl rfl rfl ?_
  refine q_if0_s (p2 := 2) rfl (by decide) (by omega) rfl (fun hb => absurd hb (show ¬ (x < 0) by omega)) (fun _ => ?_)
  refine q_load (v := (0, x, 0)) (p2 := 3) rfl rfl rfl rfl ?_
  refine q_load (v := (6, 0, 0)) (p2 := 4) rfl rfl rfl rfl ?_
  refine q_getv (v := (6, 7, 0)) (p2 := 5) rfl hH (by decide) rfl rfl ?_
  refine q_getv (v := (0, made, 0)) (p2 := 6) rfl hPS.1.choose_spec.1 (by decide) hPS.1.choose_spec.2.2.2.1 rfl ?_
  refine q_icmp_s (p2 := 7) rfl (by decide) (by omega) (by omega) rfl (fun _ => ?_) (fun hb => absurd (show x < made by omega) hb)
  refine q_load (v := (6, 0, 0)) (p2 := 10) rfl rfl rfl rfl ?_
  refine q_getv (v := (6, 7, 0)) (p2 := 11) rfl hH (by decide) rfl rfl ?_
  refine q_load (v := (0, x, 0)) (p2 := 12) rfl rfl rfl rfl ?_
  refine q_callr (xs := [(0, x, 0), (6, 7, 0)]) (p2 := 13) rfl rfl rfl rfl (x_rcv_s 7 hPS.1.choose_spec.1) rfl (zr_pos (e_rowOf hPS.1.choose_spec hPS.2.1 (by omega)) (by omega)) (Nat.le_refl _) (Nat.le_refl _) rfl ?_
  exact q_retv (v := (0, comb x, 0)) rfl rfl (⟨rfl, rfl, rfl, rfl, rfl⟩)
theorem zc_hand0 {d n sl : Nat} {φ : FH} {tpd : Nat} {tp : Nat → Nat} {lf : Nat} {mi : Nat} {made : Nat} {sv : Nat} {svm : Nat} {comb : Nat → Nat} {hm : Nat → MV} {sc : Nat → Nat} {sm : Nat → MV} {mh : MV} {noted : Nat} {verd : Nat} {ins : Nat → Nat} {ver : Nat → Nat} {sz : Nat} {bw : Nat → Nat}  (hG : zG φ tpd tp lf mi made sv svm comb hm sc sm mh noted verd ins ver sz bw) (hn0 : 486 ≤ n)  : x_f x_P (d + 1) 334 [(6, 0, 0), (0, 0, 0)] φ n sl (x_r φ n sl (0, mh.1, 0)) := by
  refine x_f_of rfl ?_
  have hG0 := hG
  obtain ⟨⟨hand, ie, hH, hhw⟩, hB, hTJ, hEJ, hN, hKJ, ⟨A, B, s9, hPS, hLK0⟩, hSP, hV5, ⟨slq, hSL⟩, hRW, hJ, hFJ, hWJ, ⟨ovn, ovh, hOV, hovn, hovh⟩⟩ := hG
  refine x_n_lt (fun hlt0 => ?_)
  have hmade := x_PS_lt hPS
  obtain ⟨co, ⟨top_, fr_, pc_, mm, st, lo, re, rs, fl, se, hKS⟩, hco⟩ := hKJ
  obtain ⟨fG, sG, lG, aG, oG, cG, hW, hg, hk7⟩ := x_hw_g hhw hV5
  have hl0 := hlt0 _ _ hW
  refine q_load (v := (0, 0, 0)) (p2 := 1) rfl rfl rfl rfl ?_
  refine q_if0_s (p2 := 2) rfl (by decide) (by omega) rfl (fun hb => absurd hb (show ¬ (0 < 0) by omega)) (fun _ => ?_)
  refine q_load (v := (0, 0, 0)) (p2 := 3) rfl rfl rfl rfl ?_
  refine q_const (p2 := 4) rfl rfl ?_
  refine q_icmp_s (p2 := 5) rfl (by decide) (by omega) (by omega) rfl (fun _ => ?_) (fun hb => absurd (show ¬ (4 < 0) by omega) hb)
  refine q_load (v := (0, 0, 0)) (p2 := 8) rfl rfl rfl rfl ?_
  refine q_if0_s (p2 := 9) rfl (by decide) (by omega) rfl (fun hb => absurd hb (show ¬ (¬ (0 = 0)) by omega)) (fun _ => ?_)
  refine q_load (v := (6, 0, 0)) (p2 := 10) rfl rfl rfl rfl ?_
  refine q_getv (v := (6, hand, 0)) (p2 := 11) rfl hH (by decide) rfl rfl ?_
  refine q_getv (v := (0, mh.1, 0)) (p2 := 12) rfl hW (by decide) hg.1 rfl ?_
  exact q_retv (v := (0, mh.1, 0)) rfl rfl (⟨rfl, rfl, rfl, rfl, rfl⟩)
theorem zc_bits {d n sl : Nat} {φ : FH} {tpd : Nat} {tp : Nat → Nat} {lf : Nat} {mi : Nat} {made : Nat} {sv : Nat} {svm : Nat} {comb : Nat → Nat} {hm : Nat → MV} {sc : Nat → Nat} {sm : Nat → MV} {mh : MV} {noted : Nat} {verd : Nat} {ins : Nat → Nat} {ver : Nat → Nat} {sz : Nat} {bw : Nat → Nat}  (hG : zG φ tpd tp lf mi made sv svm comb hm sc sm mh noted verd ins ver sz bw) (hn0 : 486 ≤ n)  : x_f x_P (d + 1) 335 [(6, 0, 0), (0, 4294967293, 0)] φ n sl (x_r φ n sl (2, mh.2.1, 0)) := by
  refine x_f_of rfl ?_
  have hG0 := hG
  obtain ⟨⟨hand, ie, hH, hhw⟩, hB, hTJ, hEJ, hN, hKJ, ⟨A, B, s9, hPS, hLK0⟩, hSP, hV5, ⟨slq, hSL⟩, hRW, hJ, hFJ, hWJ, ⟨ovn, ovh, hOV, hovn, hovh⟩⟩ := hG
  refine x_n_lt (fun hlt0 => ?_)
  have hmade := x_PS_lt hPS
  obtain ⟨co, ⟨top_, fr_, pc_, mm, st, lo, re, rs, fl, se, hKS⟩, hco⟩ := hKJ
  obtain ⟨fG, sG, lG, aG, oG, cG, hW, hg, hk7⟩ := x_hw_g hhw hV5
  have hl0 := hlt0 _ _ hW
  refine q_load (v := (0, 4294967293, 0)) (p2 := 1) rfl rfl rfl rfl ?_
  refine q_const (p2 := 2) rfl rfl ?_
  refine q_icmp (p2 := 3) rfl (by decide) rfl (fun hb => absurd hb (show ¬ (¬ (2147483645 = 2147483645)) by decide)) (fun _ => ?_)
  refine q_load (v := (6, 0, 0)) (p2 := 4) rfl rfl rfl rfl ?_
  refine q_getv (v := (6, hand, 0)) (p2 := 5) rfl hH (by decide) rfl rfl ?_
  refine q_getv (v := (2, mh.2.1, 0)) (p2 := 6) rfl hW (by decide) hg.2.1 rfl ?_
  exact q_retv (v := (2, mh.2.1, 0)) rfl rfl (⟨rfl, rfl, rfl, rfl, rfl⟩)
theorem zc_hand3_no {d n sl : Nat} {φ : FH} {tpd : Nat} {tp : Nat → Nat} {lf : Nat} {mi : Nat} {made : Nat} {sv : Nat} {svm : Nat} {comb : Nat → Nat} {hm : Nat → MV} {sc : Nat → Nat} {sm : Nat → MV} {mh : MV} {noted : Nat} {verd : Nat} {ins : Nat → Nat} {ver : Nat → Nat} {sz : Nat} {bw : Nat → Nat}  (hG : zG φ tpd tp lf mi made sv svm comb hm sc sm mh noted verd ins ver sz bw) (hn0 : 486 ≤ n) (hm6 : mh.1 ≠ 6) : x_f x_P (d + 1) 334 [(6, 0, 0), (0, 3, 0)] φ n sl (x_r φ n sl (0, 4294967293, 0)) := by
  refine x_f_of rfl ?_
  have hG0 := hG
  obtain ⟨⟨hand, ie, hH, hhw⟩, hB, hTJ, hEJ, hN, hKJ, ⟨A, B, s9, hPS, hLK0⟩, hSP, hV5, ⟨slq, hSL⟩, hRW, hJ, hFJ, hWJ, ⟨ovn, ovh, hOV, hovn, hovh⟩⟩ := hG
  refine x_n_lt (fun hlt0 => ?_)
  have hmade := x_PS_lt hPS
  obtain ⟨co, ⟨top_, fr_, pc_, mm, st, lo, re, rs, fl, se, hKS⟩, hco⟩ := hKJ
  obtain ⟨fG, sG, lG, aG, oG, cG, hW, hg, hk7⟩ := x_hw_g hhw hV5
  have hl0 := hlt0 _ _ hW
  refine q_load (v := (0, 3, 0)) (p2 := 1) rfl rfl rfl rfl ?_
  refine q_if0_s (p2 := 2) rfl (by decide) (by omega) rfl (fun hb => absurd hb (show ¬ (3 < 0) by omega)) (fun _ => ?_)
  refine q_load (v := (0, 3, 0)) (p2 := 3) rfl rfl rfl rfl ?_
  refine q_const (p2 := 4) rfl rfl ?_
  refine q_icmp_s (p2 := 5) rfl (by decide) (by omega) (by omega) rfl (fun _ => ?_) (fun hb => absurd (show ¬ (4 < 3) by omega) hb)
  refine q_load (v := (0, 3, 0)) (p2 := 8) rfl rfl rfl rfl ?_
  refine q_if0_s (p2 := 9) rfl (by decide) (by omega) rfl (fun _ => ?_) (fun hb => absurd (show ¬ (3 = 0) by omega) hb)
  refine q_load (v := (6, 0, 0)) (p2 := 14) rfl rfl rfl rfl ?_
  refine q_getv (v := (6, hand, 0)) (p2 := 15) rfl hH (by decide) rfl rfl ?_
  refine q_getv (v := (0, mh.1, 0)) (p2 := 16) rfl hW (by decide) hg.1 rfl ?_
  refine q_const (p2 := 17) rfl rfl ?_
  refine q_icmp_s (p2 := 18) rfl (by decide) (by omega) (by omega) rfl (fun hb => absurd hb (show ¬ (mh.1 = 6) by omega)) (fun _ => ?_)
  refine q_const (p2 := 19) rfl rfl ?_
  exact q_retv (v := (0, 4294967293, 0)) rfl rfl (⟨rfl, rfl, rfl, rfl, rfl⟩)
theorem zc_hand3_yes {d n sl : Nat} {φ : FH} {tpd : Nat} {tp : Nat → Nat} {lf : Nat} {mi : Nat} {made : Nat} {sv : Nat} {svm : Nat} {comb : Nat → Nat} {hm : Nat → MV} {sc : Nat → Nat} {sm : Nat → MV} {mh : MV} {noted : Nat} {verd : Nat} {ins : Nat → Nat} {ver : Nat → Nat} {sz : Nat} {bw : Nat → Nat}  (hG : zG φ tpd tp lf mi made sv svm comb hm sc sm mh noted verd ins ver sz bw) (hn0 : 486 ≤ n) (hm6 : mh.1 = 6) : x_f x_P (d + 1) 334 [(6, 0, 0), (0, 3, 0)] φ n sl (x_r φ n sl (0, mh.2.2.2.2.length, 0)) := by
  refine x_f_of rfl ?_
  have hG0 := hG
  obtain ⟨⟨hand, ie, hH, hhw⟩, hB, hTJ, hEJ, hN, hKJ, ⟨A, B, s9, hPS, hLK0⟩, hSP, hV5, ⟨slq, hSL⟩, hRW, hJ, hFJ, hWJ, ⟨ovn, ovh, hOV, hovn, hovh⟩⟩ := hG
  refine x_n_lt (fun hlt0 => ?_)
  have hmade := x_PS_lt hPS
  obtain ⟨co, ⟨top_, fr_, pc_, mm, st, lo, re, rs, fl, se, hKS⟩, hco⟩ := hKJ
  obtain ⟨m1, m2, m3, m4, m5⟩ := mh
  have hm6 : m1 = 6 := hm6
  subst hm6
  have hm7 : x_mv φ hand (6, m2, m3, m4, m5) := hhw.elim id (fun z => by have z2 := congrArg Prod.fst z.2; exact absurd z2 (by show ¬ (6 = 0); decide))
  have hm8 := (hm7.2.2.2.elim (fun z => absurd z.1 (by show ¬ 6 < 6; decide)) id : x_mvA φ hand (6, m2, m3, m4, m5))
  obtain ⟨-, -, -, -, hm9, fA, cA, gA, hcA, hW, hg, hcc, -⟩ := hm8
  have hm9 : m5.length ≤ 24 := hm9
  refine q_load (v := (0, 3, 0)) (p2 := 1) rfl rfl rfl rfl ?_
  refine q_if0_s (p2 := 2) rfl (by decide) (by omega) rfl (fun hb => absurd hb (show ¬ (3 < 0) by omega)) (fun _ => ?_)
  refine q_load (v := (0, 3, 0)) (p2 := 3) rfl rfl rfl rfl ?_
  refine q_const (p2 := 4) rfl rfl ?_
  refine q_icmp_s (p2 := 5) rfl (by decide) (by omega) (by omega) rfl (fun _ => ?_) (fun hb => absurd (show ¬ (4 < 3) by omega) hb)
  refine q_load (v := (0, 3, 0)) (p2 := 8) rfl rfl rfl rfl ?_
  refine q_if0_s (p2 := 9) rfl (by decide) (by omega) rfl (fun _ => ?_) (fun hb => absurd (show ¬ (3 = 0) by omega) hb)
  refine q_load (v := (6, 0, 0)) (p2 := 14) rfl rfl rfl rfl ?_
  refine q_getv (v := (6, hand, 0)) (p2 := 15) rfl hH (by decide) rfl rfl ?_
  refine q_getv (v := (0, 6, 0)) (p2 := 16) rfl hW (by decide) hg.1 rfl ?_
  refine q_const (p2 := 17) rfl rfl ?_
  refine q_icmp_s (p2 := 18) rfl (by decide) (by omega) (by omega) rfl (fun _ => ?_) (fun hb => absurd (show 6 = 6 by omega) hb)
  refine q_load (v := (0, 3, 0)) (p2 := 21) rfl rfl rfl rfl ?_
  refine q_switch (tgt := 30) rfl (by decide) rfl ?_
  refine q_load (v := (6, 0, 0)) (p2 := 31) rfl rfl rfl rfl ?_
  refine q_getv (v := (6, hand, 0)) (p2 := 32) rfl hH (by decide) rfl rfl ?_
  refine q_getv (v := (6, cA, 0)) (p2 := 33) rfl hW (by decide) hg.2.2.2.2.2.2 rfl ?_
  refine q_alen (p2 := 34) rfl hcc rfl (by omega) rfl ?_
  exact q_retv (v := (0, m5.length, 0)) rfl rfl (⟨rfl, rfl, rfl, rfl, rfl⟩)
theorem zc_s_knows_0 {d n sl : Nat} {φ : FH}  (hS : x_sch φ)  : x_f x_P (d + 1) 50 [(6, 237, 0), (0, 0, 0)] φ n sl (x_r φ n sl (0, 1, 0)) := by
  refine x_f_of rfl ?_
  refine q_load (v := (0, 0, 0)) (p2 := 1) rfl rfl rfl rfl ?_
  refine q_const (p2 := 2) rfl rfl ?_
  refine q_load (v := (6, 237, 0)) (p2 := 3) rfl rfl rfl rfl ?_
  refine q_getv (v := (6, 246, 0)) (p2 := 4) rfl hS.1.choose_spec.1 (by decide) hS.1.choose_spec.2.2.2.1 rfl ?_
  refine q_const (p2 := 5) rfl rfl ?_
  refine q_aldv (v := (0, 3, 0)) (p2 := 6) rfl (x_sc_246 hS) (by omega) (by omega) rfl rfl ?_
  refine q_iop (w := 1 <<< (3 % 32)) (z := 8) (p2 := 7) rfl (xo_shl 1 3) (by decide) rfl ?_
  refine q_const (p2 := 8) rfl rfl ?_
  refine q_iop (w := 8 + (4294967296 - 1 % 4294967296)) (z := 7) (p2 := 9) rfl (xo_sub 8 1) (by decide) rfl ?_
  refine q_const (p2 := 10) rfl rfl ?_
  refine q_iop (w := 7 ^^^ 4294967295) (z := 4294967288) (p2 := 11) rfl (xo_xor 7 4294967295) (by decide) rfl ?_
  refine q_iop (w := 0 &&& 4294967288) (z := 0) (p2 := 12) rfl (xo_and 0 4294967288) (by decide) rfl ?_
  refine q_if0_s (p2 := 13) rfl (by decide) (by omega) rfl (fun hb => absurd hb (show ¬ (¬ (0 = 0)) by omega)) (fun _ => ?_)
  refine q_const (p2 := 14) rfl rfl ?_
  refine q_goto rfl ?_
  exact q_retv (v := (0, 1, 0)) rfl rfl (⟨rfl, rfl, rfl, rfl, rfl⟩)
theorem zc_s_knows_1 {d n sl : Nat} {φ : FH}  (hS : x_sch φ)  : x_f x_P (d + 1) 50 [(6, 237, 0), (0, 1, 0)] φ n sl (x_r φ n sl (0, 1, 0)) := by
  refine x_f_of rfl ?_
  refine q_load (v := (0, 1, 0)) (p2 := 1) rfl rfl rfl rfl ?_
  refine q_const (p2 := 2) rfl rfl ?_
  refine q_load (v := (6, 237, 0)) (p2 := 3) rfl rfl rfl rfl ?_
  refine q_getv (v := (6, 246, 0)) (p2 := 4) rfl hS.1.choose_spec.1 (by decide) hS.1.choose_spec.2.2.2.1 rfl ?_
  refine q_const (p2 := 5) rfl rfl ?_
  refine q_aldv (v := (0, 3, 0)) (p2 := 6) rfl (x_sc_246 hS) (by omega) (by omega) rfl rfl ?_
  refine q_iop (w := 1 <<< (3 % 32)) (z := 8) (p2 := 7) rfl (xo_shl 1 3) (by decide) rfl ?_
  refine q_const (p2 := 8) rfl rfl ?_
  refine q_iop (w := 8 + (4294967296 - 1 % 4294967296)) (z := 7) (p2 := 9) rfl (xo_sub 8 1) (by decide) rfl ?_
  refine q_const (p2 := 10) rfl rfl ?_
  refine q_iop (w := 7 ^^^ 4294967295) (z := 4294967288) (p2 := 11) rfl (xo_xor 7 4294967295) (by decide) rfl ?_
  refine q_iop (w := 1 &&& 4294967288) (z := 0) (p2 := 12) rfl (xo_and 1 4294967288) (by decide) rfl ?_
  refine q_if0_s (p2 := 13) rfl (by decide) (by omega) rfl (fun hb => absurd hb (show ¬ (¬ (0 = 0)) by omega)) (fun _ => ?_)
  refine q_const (p2 := 14) rfl rfl ?_
  refine q_goto rfl ?_
  exact q_retv (v := (0, 1, 0)) rfl rfl (⟨rfl, rfl, rfl, rfl, rfl⟩)
theorem zc_s_knows_3 {d n sl : Nat} {φ : FH}  (hS : x_sch φ)  : x_f x_P (d + 1) 50 [(6, 237, 0), (0, 3, 0)] φ n sl (x_r φ n sl (0, 1, 0)) := by
  refine x_f_of rfl ?_
  refine q_load (v := (0, 3, 0)) (p2 := 1) rfl rfl rfl rfl ?_
  refine q_const (p2 := 2) rfl rfl ?_
  refine q_load (v := (6, 237, 0)) (p2 := 3) rfl rfl rfl rfl ?_
  refine q_getv (v := (6, 246, 0)) (p2 := 4) rfl hS.1.choose_spec.1 (by decide) hS.1.choose_spec.2.2.2.1 rfl ?_
  refine q_const (p2 := 5) rfl rfl ?_
  refine q_aldv (v := (0, 3, 0)) (p2 := 6) rfl (x_sc_246 hS) (by omega) (by omega) rfl rfl ?_
  refine q_iop (w := 1 <<< (3 % 32)) (z := 8) (p2 := 7) rfl (xo_shl 1 3) (by decide) rfl ?_
  refine q_const (p2 := 8) rfl rfl ?_
  refine q_iop (w := 8 + (4294967296 - 1 % 4294967296)) (z := 7) (p2 := 9) rfl (xo_sub 8 1) (by decide) rfl ?_
  refine q_const (p2 := 10) rfl rfl ?_
  refine q_iop (w := 7 ^^^ 4294967295) (z := 4294967288) (p2 := 11) rfl (xo_xor 7 4294967295) (by decide) rfl ?_
  refine q_iop (w := 3 &&& 4294967288) (z := 0) (p2 := 12) rfl (xo_and 3 4294967288) (by decide) rfl ?_
  refine q_if0_s (p2 := 13) rfl (by decide) (by omega) rfl (fun hb => absurd hb (show ¬ (¬ (0 = 0)) by omega)) (fun _ => ?_)
  refine q_const (p2 := 14) rfl rfl ?_
  refine q_goto rfl ?_
  exact q_retv (v := (0, 1, 0)) rfl rfl (⟨rfl, rfl, rfl, rfl, rfl⟩)
theorem zc_s_knows_5 {d n sl : Nat} {φ : FH}  (hS : x_sch φ)  : x_f x_P (d + 1) 50 [(6, 237, 0), (0, 5, 0)] φ n sl (x_r φ n sl (0, 1, 0)) := by
  refine x_f_of rfl ?_
  refine q_load (v := (0, 5, 0)) (p2 := 1) rfl rfl rfl rfl ?_
  refine q_const (p2 := 2) rfl rfl ?_
  refine q_load (v := (6, 237, 0)) (p2 := 3) rfl rfl rfl rfl ?_
  refine q_getv (v := (6, 246, 0)) (p2 := 4) rfl hS.1.choose_spec.1 (by decide) hS.1.choose_spec.2.2.2.1 rfl ?_
  refine q_const (p2 := 5) rfl rfl ?_
  refine q_aldv (v := (0, 3, 0)) (p2 := 6) rfl (x_sc_246 hS) (by omega) (by omega) rfl rfl ?_
  refine q_iop (w := 1 <<< (3 % 32)) (z := 8) (p2 := 7) rfl (xo_shl 1 3) (by decide) rfl ?_
  refine q_const (p2 := 8) rfl rfl ?_
  refine q_iop (w := 8 + (4294967296 - 1 % 4294967296)) (z := 7) (p2 := 9) rfl (xo_sub 8 1) (by decide) rfl ?_
  refine q_const (p2 := 10) rfl rfl ?_
  refine q_iop (w := 7 ^^^ 4294967295) (z := 4294967288) (p2 := 11) rfl (xo_xor 7 4294967295) (by decide) rfl ?_
  refine q_iop (w := 5 &&& 4294967288) (z := 0) (p2 := 12) rfl (xo_and 5 4294967288) (by decide) rfl ?_
  refine q_if0_s (p2 := 13) rfl (by decide) (by omega) rfl (fun hb => absurd hb (show ¬ (¬ (0 = 0)) by omega)) (fun _ => ?_)
  refine q_const (p2 := 14) rfl rfl ?_
  refine q_goto rfl ?_
  exact q_retv (v := (0, 1, 0)) rfl rfl (⟨rfl, rfl, rfl, rfl, rfl⟩)
theorem zc_s_knows_6 {d n sl : Nat} {φ : FH}  (hS : x_sch φ)  : x_f x_P (d + 1) 50 [(6, 237, 0), (0, 6, 0)] φ n sl (x_r φ n sl (0, 1, 0)) := by
  refine x_f_of rfl ?_
  refine q_load (v := (0, 6, 0)) (p2 := 1) rfl rfl rfl rfl ?_
  refine q_const (p2 := 2) rfl rfl ?_
  refine q_load (v := (6, 237, 0)) (p2 := 3) rfl rfl rfl rfl ?_
  refine q_getv (v := (6, 246, 0)) (p2 := 4) rfl hS.1.choose_spec.1 (by decide) hS.1.choose_spec.2.2.2.1 rfl ?_
  refine q_const (p2 := 5) rfl rfl ?_
  refine q_aldv (v := (0, 3, 0)) (p2 := 6) rfl (x_sc_246 hS) (by omega) (by omega) rfl rfl ?_
  refine q_iop (w := 1 <<< (3 % 32)) (z := 8) (p2 := 7) rfl (xo_shl 1 3) (by decide) rfl ?_
  refine q_const (p2 := 8) rfl rfl ?_
  refine q_iop (w := 8 + (4294967296 - 1 % 4294967296)) (z := 7) (p2 := 9) rfl (xo_sub 8 1) (by decide) rfl ?_
  refine q_const (p2 := 10) rfl rfl ?_
  refine q_iop (w := 7 ^^^ 4294967295) (z := 4294967288) (p2 := 11) rfl (xo_xor 7 4294967295) (by decide) rfl ?_
  refine q_iop (w := 6 &&& 4294967288) (z := 0) (p2 := 12) rfl (xo_and 6 4294967288) (by decide) rfl ?_
  refine q_if0_s (p2 := 13) rfl (by decide) (by omega) rfl (fun hb => absurd hb (show ¬ (¬ (0 = 0)) by omega)) (fun _ => ?_)
  refine q_const (p2 := 14) rfl rfl ?_
  refine q_goto rfl ?_
  exact q_retv (v := (0, 1, 0)) rfl rfl (⟨rfl, rfl, rfl, rfl, rfl⟩)
theorem zc_s_knows_7 {d n sl : Nat} {φ : FH}  (hS : x_sch φ)  : x_f x_P (d + 1) 50 [(6, 237, 0), (0, 7, 0)] φ n sl (x_r φ n sl (0, 1, 0)) := by
  refine x_f_of rfl ?_
  refine q_load (v := (0, 7, 0)) (p2 := 1) rfl rfl rfl rfl ?_
  refine q_const (p2 := 2) rfl rfl ?_
  refine q_load (v := (6, 237, 0)) (p2 := 3) rfl rfl rfl rfl ?_
  refine q_getv (v := (6, 246, 0)) (p2 := 4) rfl hS.1.choose_spec.1 (by decide) hS.1.choose_spec.2.2.2.1 rfl ?_
  refine q_const (p2 := 5) rfl rfl ?_
  refine q_aldv (v := (0, 3, 0)) (p2 := 6) rfl (x_sc_246 hS) (by omega) (by omega) rfl rfl ?_
  refine q_iop (w := 1 <<< (3 % 32)) (z := 8) (p2 := 7) rfl (xo_shl 1 3) (by decide) rfl ?_
  refine q_const (p2 := 8) rfl rfl ?_
  refine q_iop (w := 8 + (4294967296 - 1 % 4294967296)) (z := 7) (p2 := 9) rfl (xo_sub 8 1) (by decide) rfl ?_
  refine q_const (p2 := 10) rfl rfl ?_
  refine q_iop (w := 7 ^^^ 4294967295) (z := 4294967288) (p2 := 11) rfl (xo_xor 7 4294967295) (by decide) rfl ?_
  refine q_iop (w := 7 &&& 4294967288) (z := 0) (p2 := 12) rfl (xo_and 7 4294967288) (by decide) rfl ?_
  refine q_if0_s (p2 := 13) rfl (by decide) (by omega) rfl (fun hb => absurd hb (show ¬ (¬ (0 = 0)) by omega)) (fun _ => ?_)
  refine q_const (p2 := 14) rfl rfl ?_
  refine q_goto rfl ?_
  exact q_retv (v := (0, 1, 0)) rfl rfl (⟨rfl, rfl, rfl, rfl, rfl⟩)
theorem zc_s_knows_8 {d n sl : Nat} {φ : FH}  (hS : x_sch φ)  : x_f x_P (d + 1) 50 [(6, 237, 0), (0, 8, 0)] φ n sl (x_r φ n sl (0, 0, 0)) := by
  refine x_f_of rfl ?_
  refine q_load (v := (0, 8, 0)) (p2 := 1) rfl rfl rfl rfl ?_
  refine q_const (p2 := 2) rfl rfl ?_
  refine q_load (v := (6, 237, 0)) (p2 := 3) rfl rfl rfl rfl ?_
  refine q_getv (v := (6, 246, 0)) (p2 := 4) rfl hS.1.choose_spec.1 (by decide) hS.1.choose_spec.2.2.2.1 rfl ?_
  refine q_const (p2 := 5) rfl rfl ?_
  refine q_aldv (v := (0, 3, 0)) (p2 := 6) rfl (x_sc_246 hS) (by omega) (by omega) rfl rfl ?_
  refine q_iop (w := 1 <<< (3 % 32)) (z := 8) (p2 := 7) rfl (xo_shl 1 3) (by decide) rfl ?_
  refine q_const (p2 := 8) rfl rfl ?_
  refine q_iop (w := 8 + (4294967296 - 1 % 4294967296)) (z := 7) (p2 := 9) rfl (xo_sub 8 1) (by decide) rfl ?_
  refine q_const (p2 := 10) rfl rfl ?_
  refine q_iop (w := 7 ^^^ 4294967295) (z := 4294967288) (p2 := 11) rfl (xo_xor 7 4294967295) (by decide) rfl ?_
  refine q_iop (w := 8 &&& 4294967288) (z := 8) (p2 := 12) rfl (xo_and 8 4294967288) (by decide) rfl ?_
  refine q_if0_s (p2 := 13) rfl (by decide) (by omega) rfl (fun _ => ?_) (fun hb => absurd (show ¬ (8 = 0) by omega) hb)
  refine q_const (p2 := 16) rfl rfl ?_
  exact q_retv (v := (0, 0, 0)) rfl rfl (⟨rfl, rfl, rfl, rfl, rfl⟩)
theorem zc_s_reason_0 {d n sl : Nat} {φ : FH} {co : Nat → Nat} {ovn : Nat → Nat} {ovh : Nat → Nat} (hS : x_sch φ) (hC : zq_co φ co) (hOV : zq_OV φ ovn ovh) (hc0 : co 0 = 1) (hc1 : co 1 = 1) (hc2 : co 2 = 1) (hc3 : co 3 = 2) (hc4 : co 4 = 2) (hc5 : co 5 = 0) (hc6 : co 6 = 0) (hc7 : co 7 = 0) : x_f x_P (d + 1) 51 [(6, 237, 0), (0, 0, 0), (11, 0, 0)] φ n sl (x_r φ n sl (0, 1, 0)) := by
  refine x_f_of rfl ?_
  refine q_load (v := (0, 0, 0)) (p2 := 1) rfl rfl rfl rfl ?_
  refine q_if0_s (p2 := 2) rfl (by decide) (by omega) rfl (fun hb => absurd hb (show ¬ (¬ (0 = 0)) by omega)) (fun _ => ?_)
  refine q_const (p2 := 3) rfl rfl ?_
  exact q_retv (v := (0, 1, 0)) rfl rfl (⟨rfl, rfl, rfl, rfl, rfl⟩)
theorem zc_s_reason_1 {d n sl : Nat} {φ : FH} {co : Nat → Nat} {ovn : Nat → Nat} {ovh : Nat → Nat} (hS : x_sch φ) (hC : zq_co φ co) (hOV : zq_OV φ ovn ovh) (hc0 : co 0 = 1) (hc1 : co 1 = 1) (hc2 : co 2 = 1) (hc3 : co 3 = 2) (hc4 : co 4 = 2) (hc5 : co 5 = 0) (hc6 : co 6 = 0) (hc7 : co 7 = 0) : x_f x_P (d + 3) 51 [(6, 237, 0), (0, 1, 0), (11, 0, 0)] φ n sl (x_r φ n sl (0, 4, 0)) := by
  refine x_f_of rfl ?_
  refine q_load (v := (0, 1, 0)) (p2 := 1) rfl rfl rfl rfl ?_
  refine q_if0_s (p2 := 2) rfl (by decide) (by omega) rfl (fun _ => ?_) (fun hb => absurd (show ¬ (1 = 0) by omega) hb)
  refine q_const (p2 := 5) rfl rfl ?_
  refine q_store (loc2 := [(6, 237, 0), (0, 1, 0), (0, 0, 0)]) (p2 := 6) rfl rfl rfl rfl rfl ?_
  refine q_load (v := (0, 0, 0)) (p2 := 7) rfl rfl rfl rfl ?_
  refine q_load (v := (6, 237, 0)) (p2 := 8) rfl rfl rfl rfl ?_
  refine q_getv (v := (6, 246, 0)) (p2 := 9) rfl hS.1.choose_spec.1 (by decide) hS.1.choose_spec.2.2.2.1 rfl ?_
  refine q_const (p2 := 10) rfl rfl ?_
  refine q_aldv (v := (0, 3, 0)) (p2 := 11) rfl (x_sc_246 hS) (by omega) (by omega) rfl rfl ?_
  refine q_icmp_s (p2 := 12) rfl (by decide) (by omega) (by omega) rfl (fun hb => absurd hb (show ¬ (¬ (0 < 3)) by omega)) (fun _ => ?_)
  refine q_load (v := (0, 1, 0)) (p2 := 13) rfl rfl rfl rfl ?_
  refine q_load (v := (0, 0, 0)) (p2 := 14) rfl rfl rfl rfl ?_
  refine q_iop (w := 1 >>> (0 % 32)) (z := 1) (p2 := 15) rfl (xo_shr (show 1 < 2147483648 by decide) 0) (by decide) rfl ?_
  refine q_const (p2 := 16) rfl rfl ?_
  refine q_iop (w := 1 &&& 1) (z := 1) (p2 := 17) rfl (xo_and 1 1) (by decide) rfl ?_
  refine q_const (p2 := 18) rfl rfl ?_
  refine q_icmp_s (p2 := 19) rfl (by decide) (by omega) (by omega) rfl (fun hb => absurd hb (show ¬ (¬ (1 = 1)) by omega)) (fun _ => ?_)
  refine q_load (v := (6, 237, 0)) (p2 := 20) rfl rfl rfl rfl ?_
  refine q_getv (v := (6, 257, 0)) (p2 := 21) rfl hS.1.choose_spec.1 (by decide) hS.1.choose_spec.2.2.2.2.2.2.1 rfl ?_
  refine q_load (v := (0, 0, 0)) (p2 := 22) rfl rfl rfl rfl ?_
  refine q_aldv (v := (6, 258, 0)) (p2 := 23) rfl (x_sc_257 hS) (by omega) (by omega) rfl rfl ?_
  refine q_const (p2 := 24) rfl rfl ?_
  refine q_aldv (v := (0, 0, 0)) (p2 := 25) rfl (x_sc_258 hS) (by omega) (by omega) rfl rfl ?_
  refine q_load (v := (0, 1, 0)) (p2 := 26) rfl rfl rfl rfl ?_
  refine q_const (p2 := 27) rfl rfl ?_
  refine q_iop (w := 1 ^^^ 4294967295) (z := 4294967294) (p2 := 28) rfl (xo_xor 1 4294967295) (by decide) rfl ?_
  refine q_iop (w := 0 &&& 4294967294) (z := 0) (p2 := 29) rfl (xo_and 0 4294967294) (by decide) rfl ?_
  refine q_if0_s (p2 := 30) rfl (by decide) (by omega) rfl (fun _ => ?_) (fun hb => absurd (show 0 = 0 by omega) hb)
  refine q_iinc (z := 1) (loc2 := [(6, 237, 0), (0, 1, 0), (0, 1, 0)]) (p2 := 33) rfl rfl (by decide) rfl rfl ?_
  refine q_goto rfl ?_
  refine q_load (v := (0, 1, 0)) (p2 := 7) rfl rfl rfl rfl ?_
  refine q_load (v := (6, 237, 0)) (p2 := 8) rfl rfl rfl rfl ?_
  refine q_getv (v := (6, 246, 0)) (p2 := 9) rfl hS.1.choose_spec.1 (by decide) hS.1.choose_spec.2.2.2.1 rfl ?_
  refine q_const (p2 := 10) rfl rfl ?_
  refine q_aldv (v := (0, 3, 0)) (p2 := 11) rfl (x_sc_246 hS) (by omega) (by omega) rfl rfl ?_
  refine q_icmp_s (p2 := 12) rfl (by decide) (by omega) (by omega) rfl (fun hb => absurd hb (show ¬ (¬ (1 < 3)) by omega)) (fun _ => ?_)
  refine q_load (v := (0, 1, 0)) (p2 := 13) rfl rfl rfl rfl ?_
  refine q_load (v := (0, 1, 0)) (p2 := 14) rfl rfl rfl rfl ?_
  refine q_iop (w := 1 >>> (1 % 32)) (z := 0) (p2 := 15) rfl (xo_shr (show 1 < 2147483648 by decide) 1) (by decide) rfl ?_
  refine q_const (p2 := 16) rfl rfl ?_
  refine q_iop (w := 0 &&& 1) (z := 0) (p2 := 17) rfl (xo_and 0 1) (by decide) rfl ?_
  refine q_const (p2 := 18) rfl rfl ?_
  refine q_icmp_s (p2 := 19) rfl (by decide) (by omega) (by omega) rfl (fun _ => ?_) (fun hb => absurd (show ¬ (0 = 1) by omega) hb)
  refine q_iinc (z := 2) (loc2 := [(6, 237, 0), (0, 1, 0), (0, 2, 0)]) (p2 := 33) rfl rfl (by decide) rfl rfl ?_
  refine q_goto rfl ?_
  refine q_load (v := (0, 2, 0)) (p2 := 7) rfl rfl rfl rfl ?_
  refine q_load (v := (6, 237, 0)) (p2 := 8) rfl rfl rfl rfl ?_
  refine q_getv (v := (6, 246, 0)) (p2 := 9) rfl hS.1.choose_spec.1 (by decide) hS.1.choose_spec.2.2.2.1 rfl ?_
  refine q_const (p2 := 10) rfl rfl ?_
  refine q_aldv (v := (0, 3, 0)) (p2 := 11) rfl (x_sc_246 hS) (by omega) (by omega) rfl rfl ?_
  refine q_icmp_s (p2 := 12) rfl (by decide) (by omega) (by omega) rfl (fun hb => absurd hb (show ¬ (¬ (2 < 3)) by omega)) (fun _ => ?_)
  refine q_load (v := (0, 1, 0)) (p2 := 13) rfl rfl rfl rfl ?_
  refine q_load (v := (0, 2, 0)) (p2 := 14) rfl rfl rfl rfl ?_
  refine q_iop (w := 1 >>> (2 % 32)) (z := 0) (p2 := 15) rfl (xo_shr (show 1 < 2147483648 by decide) 2) (by decide) rfl ?_
  refine q_const (p2 := 16) rfl rfl ?_
  refine q_iop (w := 0 &&& 1) (z := 0) (p2 := 17) rfl (xo_and 0 1) (by decide) rfl ?_
  refine q_const (p2 := 18) rfl rfl ?_
  refine q_icmp_s (p2 := 19) rfl (by decide) (by omega) (by omega) rfl (fun _ => ?_) (fun hb => absurd (show ¬ (0 = 1) by omega) hb)
  refine q_iinc (z := 3) (loc2 := [(6, 237, 0), (0, 1, 0), (0, 3, 0)]) (p2 := 33) rfl rfl (by decide) rfl rfl ?_
  refine q_goto rfl ?_
  refine q_load (v := (0, 3, 0)) (p2 := 7) rfl rfl rfl rfl ?_
  refine q_load (v := (6, 237, 0)) (p2 := 8) rfl rfl rfl rfl ?_
  refine q_getv (v := (6, 246, 0)) (p2 := 9) rfl hS.1.choose_spec.1 (by decide) hS.1.choose_spec.2.2.2.1 rfl ?_
  refine q_const (p2 := 10) rfl rfl ?_
  refine q_aldv (v := (0, 3, 0)) (p2 := 11) rfl (x_sc_246 hS) (by omega) (by omega) rfl rfl ?_
  refine q_icmp_s (p2 := 12) rfl (by decide) (by omega) (by omega) rfl (fun _ => ?_) (fun hb => absurd (show ¬ (3 < 3) by omega) hb)
  refine q_load (v := (6, 237, 0)) (p2 := 35) rfl rfl rfl rfl ?_
  refine q_load (v := (0, 1, 0)) (p2 := 36) rfl rfl rfl rfl ?_
  refine q_callK (xs := [(0, 1, 0), (6, 237, 0)]) (p2 := 37) rfl rfl rfl rfl (x_rcv_s 237 hS.1.choose_spec.1) rfl rfl ?_
  refine x_f_of rfl ?_
  refine q_load (v := (0, 1, 0)) (p2 := 1) rfl rfl rfl rfl ?_
  refine q_load (v := (0, 1, 0)) (p2 := 2) rfl rfl rfl rfl ?_
  refine q_inegz (z := 4294967295) (p2 := 3) rfl (by decide) rfl ?_
  refine q_iop (w := 1 &&& 4294967295) (z := 1) (p2 := 4) rfl (xo_and 1 4294967295) (by decide) rfl ?_
  refine q_store (loc2 := [(6, 237, 0), (0, 1, 0), (0, 1, 0), (11, 0, 0), (11, 0, 0), (11, 0, 0)]) (p2 := 5) rfl rfl rfl rfl rfl ?_
  refine q_const (p2 := 6) rfl rfl ?_
  refine q_store (loc2 := [(6, 237, 0), (0, 1, 0), (0, 1, 0), (0, 0, 0), (11, 0, 0), (11, 0, 0)]) (p2 := 7) rfl rfl rfl rfl rfl ?_
  refine q_load (v := (0, 0, 0)) (p2 := 8) rfl rfl rfl rfl ?_
  refine q_load (v := (6, 237, 0)) (p2 := 9) rfl rfl rfl rfl ?_
  refine q_getv (v := (6, 257, 0)) (p2 := 10) rfl hS.1.choose_spec.1 (by decide) hS.1.choose_spec.2.2.2.2.2.2.1 rfl ?_
  refine q_alen (p2 := 11) rfl (x_sc_257 hS) rfl (by omega) rfl ?_
  refine q_icmp_s (p2 := 12) rfl (by decide) (by omega) (by omega) rfl (fun hb => absurd hb (show ¬ (¬ (0 < 12)) by omega)) (fun _ => ?_)
  refine q_load (v := (0, 1, 0)) (p2 := 13) rfl rfl rfl rfl ?_
  refine q_load (v := (0, 1, 0)) (p2 := 14) rfl rfl rfl rfl ?_
  refine q_icmp_s (p2 := 15) rfl (by decide) (by omega) (by omega) rfl (fun _ => ?_) (fun hb => absurd (show 1 = 1 by omega) hb)
  refine q_load (v := (0, 1, 0)) (p2 := 67) rfl rfl rfl rfl ?_
  refine q_load (v := (0, 1, 0)) (p2 := 68) rfl rfl rfl rfl ?_
  refine q_icmp_s (p2 := 69) rfl (by decide) (by omega) (by omega) rfl (fun hb => absurd hb (show ¬ (¬ (1 = 1)) by omega)) (fun _ => ?_)
  refine q_const (p2 := 70) rfl rfl ?_
  refine q_goto rfl ?_
  refine q_retv (v := (0, 1, 0)) rfl rfl ⟨rfl, by omega, by omega, ?_⟩
  refine q_if0_s (p2 := 38) rfl (by decide) (by omega) rfl (fun _ => ?_) (fun hb => absurd (show ¬ (1 = 0) by omega) hb)
  refine q_load (v := (6, 237, 0)) (p2 := 41) rfl rfl rfl rfl ?_
  refine q_load (v := (0, 1, 0)) (p2 := 42) rfl rfl rfl rfl ?_
  refine q_callK (xs := [(0, 1, 0), (6, 237, 0)]) (p2 := 43) rfl rfl rfl rfl (x_rcv_s 237 hS.1.choose_spec.1) rfl rfl ?_
  refine x_f_of rfl ?_
  refine q_const (p2 := 1) rfl rfl ?_
  refine q_store (loc2 := [(6, 237, 0), (0, 1, 0), (0, 0, 0)]) (p2 := 2) rfl rfl rfl rfl rfl ?_
  refine q_load (v := (0, 0, 0)) (p2 := 3) rfl rfl rfl rfl ?_
  refine q_load (v := (6, 237, 0)) (p2 := 4) rfl rfl rfl rfl ?_
  refine q_getv (v := (6, 246, 0)) (p2 := 5) rfl hS.1.choose_spec.1 (by decide) hS.1.choose_spec.2.2.2.1 rfl ?_
  refine q_const (p2 := 6) rfl rfl ?_
  refine q_aldv (v := (0, 3, 0)) (p2 := 7) rfl (x_sc_246 hS) (by omega) (by omega) rfl rfl ?_
  refine q_icmp_s (p2 := 8) rfl (by decide) (by omega) (by omega) rfl (fun hb => absurd hb (show ¬ (¬ (0 < 3)) by omega)) (fun _ => ?_)
  refine q_load (v := (0, 1, 0)) (p2 := 9) rfl rfl rfl rfl ?_
  refine q_load (v := (0, 0, 0)) (p2 := 10) rfl rfl rfl rfl ?_
  refine q_iop (w := 1 >>> (0 % 32)) (z := 1) (p2 := 11) rfl (xo_shr (show 1 < 2147483648 by decide) 0) (by decide) rfl ?_
  refine q_const (p2 := 12) rfl rfl ?_
  refine q_iop (w := 1 &&& 1) (z := 1) (p2 := 13) rfl (xo_and 1 1) (by decide) rfl ?_
  refine q_const (p2 := 14) rfl rfl ?_
  refine q_icmp_s (p2 := 15) rfl (by decide) (by omega) (by omega) rfl (fun hb => absurd hb (show ¬ (¬ (1 = 1)) by omega)) (fun _ => ?_)
  refine q_load (v := (6, 237, 0)) (p2 := 16) rfl rfl rfl rfl ?_
  refine q_getv (v := (6, 257, 0)) (p2 := 17) rfl hS.1.choose_spec.1 (by decide) hS.1.choose_spec.2.2.2.2.2.2.1 rfl ?_
  refine q_load (v := (0, 0, 0)) (p2 := 18) rfl rfl rfl rfl ?_
  refine q_aldv (v := (6, 258, 0)) (p2 := 19) rfl (x_sc_257 hS) (by omega) (by omega) rfl rfl ?_
  refine q_const (p2 := 20) rfl rfl ?_
  refine q_aldv (v := (0, 1, 0)) (p2 := 21) rfl (x_sc_258 hS) (by omega) (by omega) rfl rfl ?_
  refine q_const (p2 := 22) rfl rfl ?_
  refine q_icmp_s (p2 := 23) rfl (by decide) (by omega) (by omega) rfl (fun hb => absurd hb (show ¬ (¬ (1 = 1)) by omega)) (fun _ => ?_)
  refine q_load (v := (6, 237, 0)) (p2 := 24) rfl rfl rfl rfl ?_
  refine q_load (v := (0, 0, 0)) (p2 := 25) rfl rfl rfl rfl ?_
  refine q_load (v := (0, 1, 0)) (p2 := 26) rfl rfl rfl rfl ?_
  refine q_callK (xs := [(0, 1, 0), (0, 0, 0), (6, 237, 0)]) (p2 := 27) rfl rfl rfl rfl (x_rcv_s 237 hS.1.choose_spec.1) rfl rfl ?_
  refine x_f_of rfl ?_
  refine q_const (p2 := 1) rfl rfl ?_
  refine q_store (loc2 := [(6, 237, 0), (0, 0, 0), (0, 1, 0), (0, 0, 0)]) (p2 := 2) rfl rfl rfl rfl rfl ?_
  refine q_load (v := (0, 0, 0)) (p2 := 3) rfl rfl rfl rfl ?_
  refine q_load (v := (6, 237, 0)) (p2 := 4) rfl rfl rfl rfl ?_
  refine q_getv (v := (6, 246, 0)) (p2 := 5) rfl hS.1.choose_spec.1 (by decide) hS.1.choose_spec.2.2.2.1 rfl ?_
  refine q_const (p2 := 6) rfl rfl ?_
  refine q_aldv (v := (0, 3, 0)) (p2 := 7) rfl (x_sc_246 hS) (by omega) (by omega) rfl rfl ?_
  refine q_icmp_s (p2 := 8) rfl (by decide) (by omega) (by omega) rfl (fun hb => absurd hb (show ¬ (¬ (0 < 3)) by omega)) (fun _ => ?_)
  refine q_load (v := (0, 1, 0)) (p2 := 9) rfl rfl rfl rfl ?_
  refine q_load (v := (0, 0, 0)) (p2 := 10) rfl rfl rfl rfl ?_
  refine q_iop (w := 1 >>> (0 % 32)) (z := 1) (p2 := 11) rfl (xo_shr (show 1 < 2147483648 by decide) 0) (by decide) rfl ?_
  refine q_const (p2 := 12) rfl rfl ?_
  refine q_iop (w := 1 &&& 1) (z := 1) (p2 := 13) rfl (xo_and 1 1) (by decide) rfl ?_
  refine q_const (p2 := 14) rfl rfl ?_
  refine q_icmp_s (p2 := 15) rfl (by decide) (by omega) (by omega) rfl (fun hb => absurd hb (show ¬ (¬ (1 = 1)) by omega)) (fun _ => ?_)
  refine q_load (v := (6, 237, 0)) (p2 := 16) rfl rfl rfl rfl ?_
  refine q_getv (v := (6, 257, 0)) (p2 := 17) rfl hS.1.choose_spec.1 (by decide) hS.1.choose_spec.2.2.2.2.2.2.1 rfl ?_
  refine q_load (v := (0, 0, 0)) (p2 := 18) rfl rfl rfl rfl ?_
  refine q_aldv (v := (6, 258, 0)) (p2 := 19) rfl (x_sc_257 hS) (by omega) (by omega) rfl rfl ?_
  refine q_const (p2 := 20) rfl rfl ?_
  refine q_aldv (v := (0, 0, 0)) (p2 := 21) rfl (x_sc_258 hS) (by omega) (by omega) rfl rfl ?_
  refine q_load (v := (0, 0, 0)) (p2 := 22) rfl rfl rfl rfl ?_
  refine q_iop (w := 0 >>> (0 % 32)) (z := 0) (p2 := 23) rfl (xo_shr (show 0 < 2147483648 by decide) 0) (by decide) rfl ?_
  refine q_const (p2 := 24) rfl rfl ?_
  refine q_iop (w := 0 &&& 1) (z := 0) (p2 := 25) rfl (xo_and 0 1) (by decide) rfl ?_
  refine q_const (p2 := 26) rfl rfl ?_
  refine q_icmp_s (p2 := 27) rfl (by decide) (by omega) (by omega) rfl (fun _ => ?_) (fun hb => absurd (show ¬ (0 = 1) by omega) hb)
  refine q_iinc (z := 1) (loc2 := [(6, 237, 0), (0, 0, 0), (0, 1, 0), (0, 1, 0)]) (p2 := 30) rfl rfl (by decide) rfl rfl ?_
  refine q_goto rfl ?_
  refine q_load (v := (0, 1, 0)) (p2 := 3) rfl rfl rfl rfl ?_
  refine q_load (v := (6, 237, 0)) (p2 := 4) rfl rfl rfl rfl ?_
  refine q_getv (v := (6, 246, 0)) (p2 := 5) rfl hS.1.choose_spec.1 (by decide) hS.1.choose_spec.2.2.2.1 rfl ?_
  refine q_const (p2 := 6) rfl rfl ?_
  refine q_aldv (v := (0, 3, 0)) (p2 := 7) rfl (x_sc_246 hS) (by omega) (by omega) rfl rfl ?_
  refine q_icmp_s (p2 := 8) rfl (by decide) (by omega) (by omega) rfl (fun hb => absurd hb (show ¬ (¬ (1 < 3)) by omega)) (fun _ => ?_)
  refine q_load (v := (0, 1, 0)) (p2 := 9) rfl rfl rfl rfl ?_
  refine q_load (v := (0, 1, 0)) (p2 := 10) rfl rfl rfl rfl ?_
  refine q_iop (w := 1 >>> (1 % 32)) (z := 0) (p2 := 11) rfl (xo_shr (show 1 < 2147483648 by decide) 1) (by decide) rfl ?_
  refine q_const (p2 := 12) rfl rfl ?_
  refine q_iop (w := 0 &&& 1) (z := 0) (p2 := 13) rfl (xo_and 0 1) (by decide) rfl ?_
  refine q_const (p2 := 14) rfl rfl ?_
  refine q_icmp_s (p2 := 15) rfl (by decide) (by omega) (by omega) rfl (fun _ => ?_) (fun hb => absurd (show ¬ (0 = 1) by omega) hb)
  refine q_iinc (z := 2) (loc2 := [(6, 237, 0), (0, 0, 0), (0, 1, 0), (0, 2, 0)]) (p2 := 30) rfl rfl (by decide) rfl rfl ?_
  refine q_goto rfl ?_
  refine q_load (v := (0, 2, 0)) (p2 := 3) rfl rfl rfl rfl ?_
  refine q_load (v := (6, 237, 0)) (p2 := 4) rfl rfl rfl rfl ?_
  refine q_getv (v := (6, 246, 0)) (p2 := 5) rfl hS.1.choose_spec.1 (by decide) hS.1.choose_spec.2.2.2.1 rfl ?_
  refine q_const (p2 := 6) rfl rfl ?_
  refine q_aldv (v := (0, 3, 0)) (p2 := 7) rfl (x_sc_246 hS) (by omega) (by omega) rfl rfl ?_
  refine q_icmp_s (p2 := 8) rfl (by decide) (by omega) (by omega) rfl (fun hb => absurd hb (show ¬ (¬ (2 < 3)) by omega)) (fun _ => ?_)
  refine q_load (v := (0, 1, 0)) (p2 := 9) rfl rfl rfl rfl ?_
  refine q_load (v := (0, 2, 0)) (p2 := 10) rfl rfl rfl rfl ?_
  refine q_iop (w := 1 >>> (2 % 32)) (z := 0) (p2 := 11) rfl (xo_shr (show 1 < 2147483648 by decide) 2) (by decide) rfl ?_
  refine q_const (p2 := 12) rfl rfl ?_
  refine q_iop (w := 0 &&& 1) (z := 0) (p2 := 13) rfl (xo_and 0 1) (by decide) rfl ?_
  refine q_const (p2 := 14) rfl rfl ?_
  refine q_icmp_s (p2 := 15) rfl (by decide) (by omega) (by omega) rfl (fun _ => ?_) (fun hb => absurd (show ¬ (0 = 1) by omega) hb)
  refine q_iinc (z := 3) (loc2 := [(6, 237, 0), (0, 0, 0), (0, 1, 0), (0, 3, 0)]) (p2 := 30) rfl rfl (by decide) rfl rfl ?_
  refine q_goto rfl ?_
  refine q_load (v := (0, 3, 0)) (p2 := 3) rfl rfl rfl rfl ?_
  refine q_load (v := (6, 237, 0)) (p2 := 4) rfl rfl rfl rfl ?_
  refine q_getv (v := (6, 246, 0)) (p2 := 5) rfl hS.1.choose_spec.1 (by decide) hS.1.choose_spec.2.2.2.1 rfl ?_
  refine q_const (p2 := 6) rfl rfl ?_
  refine q_aldv (v := (0, 3, 0)) (p2 := 7) rfl (x_sc_246 hS) (by omega) (by omega) rfl rfl ?_
  refine q_icmp_s (p2 := 8) rfl (by decide) (by omega) (by omega) rfl (fun _ => ?_) (fun hb => absurd (show ¬ (3 < 3) by omega) hb)
  refine q_const (p2 := 32) rfl rfl ?_
  refine q_retv (v := (0, 0, 0)) rfl rfl ⟨rfl, by omega, by omega, ?_⟩
  refine q_if0_s (p2 := 28) rfl (by decide) (by omega) rfl (fun hb => absurd hb (show ¬ (¬ (0 = 0)) by omega)) (fun _ => ?_)
  refine q_const (p2 := 29) rfl rfl ?_
  refine q_retv (v := (0, 4, 0)) rfl rfl ⟨rfl, by omega, by omega, ?_⟩
  exact q_retv (v := (0, 4, 0)) rfl rfl (⟨rfl, rfl, rfl, rfl, rfl⟩)
theorem zc_s_reason_3 {d n sl : Nat} {φ : FH} {co : Nat → Nat} {ovn : Nat → Nat} {ovh : Nat → Nat} (hS : x_sch φ) (hC : zq_co φ co) (hOV : zq_OV φ ovn ovh) (hc0 : co 0 = 1) (hc1 : co 1 = 1) (hc2 : co 2 = 1) (hc3 : co 3 = 2) (hc4 : co 4 = 2) (hc5 : co 5 = 0) (hc6 : co 6 = 0) (hc7 : co 7 = 0) : x_f x_P (d + 4) 51 [(6, 237, 0), (0, 3, 0), (11, 0, 0)] φ n sl (x_rR (0, 0, 0) n sl (fun φ2 => zq_OV φ2 (x_s (x_s (x_s ovn 0 2) 1 4) 0 6) (x_s (x_s (x_s ovh 0 1) 1 0) 0 1) ∧ ∀ j, j ≠ 452 → j ≠ 453 → φ2 j = φ j)) := by
  refine x_f_of rfl ?_
  refine q_load (v := (0, 3, 0)) (p2 := 1) rfl rfl rfl rfl ?_
  refine q_if0_s (p2 := 2) rfl (by decide) (by omega) rfl (fun _ => ?_) (fun hb => absurd (show ¬ (3 = 0) by omega) hb)
  refine q_const (p2 := 5) rfl rfl ?_
  refine q_store (loc2 := [(6, 237, 0), (0, 3, 0), (0, 0, 0)]) (p2 := 6) rfl rfl rfl rfl rfl ?_
  refine q_load (v := (0, 0, 0)) (p2 := 7) rfl rfl rfl rfl ?_
  refine q_load (v := (6, 237, 0)) (p2 := 8) rfl rfl rfl rfl ?_
  refine q_getv (v := (6, 246, 0)) (p2 := 9) rfl hS.1.choose_spec.1 (by decide) hS.1.choose_spec.2.2.2.1 rfl ?_
  refine q_const (p2 := 10) rfl rfl ?_
  refine q_aldv (v := (0, 3, 0)) (p2 := 11) rfl (x_sc_246 hS) (by omega) (by omega) rfl rfl ?_
  refine q_icmp_s (p2 := 12) rfl (by decide) (by omega) (by omega) rfl (fun hb => absurd hb (show ¬ (¬ (0 < 3)) by omega)) (fun _ => ?_)
  refine q_load (v := (0, 3, 0)) (p2 := 13) rfl rfl rfl rfl ?_
  refine q_load (v := (0, 0, 0)) (p2 := 14) rfl rfl rfl rfl ?_
  refine q_iop (w := 3 >>> (0 % 32)) (z := 3) (p2 := 15) rfl (xo_shr (show 3 < 2147483648 by decide) 0) (by decide) rfl ?_
  refine q_const (p2 := 16) rfl rfl ?_
  refine q_iop (w := 3 &&& 1) (z := 1) (p2 := 17) rfl (xo_and 3 1) (by decide) rfl ?_
  refine q_const (p2 := 18) rfl rfl ?_
  refine q_icmp_s (p2 := 19) rfl (by decide) (by omega) (by omega) rfl (fun hb => absurd hb (show ¬ (¬ (1 = 1)) by omega)) (fun _ => ?_)
  refine q_load (v := (6, 237, 0)) (p2 := 20) rfl rfl rfl rfl ?_
  refine q_getv (v := (6, 257, 0)) (p2 := 21) rfl hS.1.choose_spec.1 (by decide) hS.1.choose_spec.2.2.2.2.2.2.1 rfl ?_
  refine q_load (v := (0, 0, 0)) (p2 := 22) rfl rfl rfl rfl ?_
  refine q_aldv (v := (6, 258, 0)) (p2 := 23) rfl (x_sc_257 hS) (by omega) (by omega) rfl rfl ?_
  refine q_const (p2 := 24) rfl rfl ?_
  refine q_aldv (v := (0, 0, 0)) (p2 := 25) rfl (x_sc_258 hS) (by omega) (by omega) rfl rfl ?_
  refine q_load (v := (0, 3, 0)) (p2 := 26) rfl rfl rfl rfl ?_
  refine q_const (p2 := 27) rfl rfl ?_
  refine q_iop (w := 3 ^^^ 4294967295) (z := 4294967292) (p2 := 28) rfl (xo_xor 3 4294967295) (by decide) rfl ?_
  refine q_iop (w := 0 &&& 4294967292) (z := 0) (p2 := 29) rfl (xo_and 0 4294967292) (by decide) rfl ?_
  refine q_if0_s (p2 := 30) rfl (by decide) (by omega) rfl (fun _ => ?_) (fun hb => absurd (show 0 = 0 by omega) hb)
  refine q_iinc (z := 1) (loc2 := [(6, 237, 0), (0, 3, 0), (0, 1, 0)]) (p2 := 33) rfl rfl (by decide) rfl rfl ?_
  refine q_goto rfl ?_
  refine q_load (v := (0, 1, 0)) (p2 := 7) rfl rfl rfl rfl ?_
  refine q_load (v := (6, 237, 0)) (p2 := 8) rfl rfl rfl rfl ?_
  refine q_getv (v := (6, 246, 0)) (p2 := 9) rfl hS.1.choose_spec.1 (by decide) hS.1.choose_spec.2.2.2.1 rfl ?_
  refine q_const (p2 := 10) rfl rfl ?_
  refine q_aldv (v := (0, 3, 0)) (p2 := 11) rfl (x_sc_246 hS) (by omega) (by omega) rfl rfl ?_
  refine q_icmp_s (p2 := 12) rfl (by decide) (by omega) (by omega) rfl (fun hb => absurd hb (show ¬ (¬ (1 < 3)) by omega)) (fun _ => ?_)
  refine q_load (v := (0, 3, 0)) (p2 := 13) rfl rfl rfl rfl ?_
  refine q_load (v := (0, 1, 0)) (p2 := 14) rfl rfl rfl rfl ?_
  refine q_iop (w := 3 >>> (1 % 32)) (z := 1) (p2 := 15) rfl (xo_shr (show 3 < 2147483648 by decide) 1) (by decide) rfl ?_
  refine q_const (p2 := 16) rfl rfl ?_
  refine q_iop (w := 1 &&& 1) (z := 1) (p2 := 17) rfl (xo_and 1 1) (by decide) rfl ?_
  refine q_const (p2 := 18) rfl rfl ?_
  refine q_icmp_s (p2 := 19) rfl (by decide) (by omega) (by omega) rfl (fun hb => absurd hb (show ¬ (¬ (1 = 1)) by omega)) (fun _ => ?_)
  refine q_load (v := (6, 237, 0)) (p2 := 20) rfl rfl rfl rfl ?_
  refine q_getv (v := (6, 257, 0)) (p2 := 21) rfl hS.1.choose_spec.1 (by decide) hS.1.choose_spec.2.2.2.2.2.2.1 rfl ?_
  refine q_load (v := (0, 1, 0)) (p2 := 22) rfl rfl rfl rfl ?_
  refine q_aldv (v := (6, 259, 0)) (p2 := 23) rfl (x_sc_257 hS) (by omega) (by omega) rfl rfl ?_
  refine q_const (p2 := 24) rfl rfl ?_
  refine q_aldv (v := (0, 1, 0)) (p2 := 25) rfl (x_sc_259 hS) (by omega) (by omega) rfl rfl ?_
  refine q_load (v := (0, 3, 0)) (p2 := 26) rfl rfl rfl rfl ?_
  refine q_const (p2 := 27) rfl rfl ?_
  refine q_iop (w := 3 ^^^ 4294967295) (z := 4294967292) (p2 := 28) rfl (xo_xor 3 4294967295) (by decide) rfl ?_
  refine q_iop (w := 1 &&& 4294967292) (z := 0) (p2 := 29) rfl (xo_and 1 4294967292) (by decide) rfl ?_
  refine q_if0_s (p2 := 30) rfl (by decide) (by omega) rfl (fun _ => ?_) (fun hb => absurd (show 0 = 0 by omega) hb)
  refine q_iinc (z := 2) (loc2 := [(6, 237, 0), (0, 3, 0), (0, 2, 0)]) (p2 := 33) rfl rfl (by decide) rfl rfl ?_
  refine q_goto rfl ?_
  refine q_load (v := (0, 2, 0)) (p2 := 7) rfl rfl rfl rfl ?_
  refine q_load (v := (6, 237, 0)) (p2 := 8) rfl rfl rfl rfl ?_
  refine q_getv (v := (6, 246, 0)) (p2 := 9) rfl hS.1.choose_spec.1 (by decide) hS.1.choose_spec.2.2.2.1 rfl ?_
  refine q_const (p2 := 10) rfl rfl ?_
  refine q_aldv (v := (0, 3, 0)) (p2 := 11) rfl (x_sc_246 hS) (by omega) (by omega) rfl rfl ?_
  refine q_icmp_s (p2 := 12) rfl (by decide) (by omega) (by omega) rfl (fun hb => absurd hb (show ¬ (¬ (2 < 3)) by omega)) (fun _ => ?_)
  refine q_load (v := (0, 3, 0)) (p2 := 13) rfl rfl rfl rfl ?_
  refine q_load (v := (0, 2, 0)) (p2 := 14) rfl rfl rfl rfl ?_
  refine q_iop (w := 3 >>> (2 % 32)) (z := 0) (p2 := 15) rfl (xo_shr (show 3 < 2147483648 by decide) 2) (by decide) rfl ?_
  refine q_const (p2 := 16) rfl rfl ?_
  refine q_iop (w := 0 &&& 1) (z := 0) (p2 := 17) rfl (xo_and 0 1) (by decide) rfl ?_
  refine q_const (p2 := 18) rfl rfl ?_
  refine q_icmp_s (p2 := 19) rfl (by decide) (by omega) (by omega) rfl (fun _ => ?_) (fun hb => absurd (show ¬ (0 = 1) by omega) hb)
  refine q_iinc (z := 3) (loc2 := [(6, 237, 0), (0, 3, 0), (0, 3, 0)]) (p2 := 33) rfl rfl (by decide) rfl rfl ?_
  refine q_goto rfl ?_
  refine q_load (v := (0, 3, 0)) (p2 := 7) rfl rfl rfl rfl ?_
  refine q_load (v := (6, 237, 0)) (p2 := 8) rfl rfl rfl rfl ?_
  refine q_getv (v := (6, 246, 0)) (p2 := 9) rfl hS.1.choose_spec.1 (by decide) hS.1.choose_spec.2.2.2.1 rfl ?_
  refine q_const (p2 := 10) rfl rfl ?_
  refine q_aldv (v := (0, 3, 0)) (p2 := 11) rfl (x_sc_246 hS) (by omega) (by omega) rfl rfl ?_
  refine q_icmp_s (p2 := 12) rfl (by decide) (by omega) (by omega) rfl (fun _ => ?_) (fun hb => absurd (show ¬ (3 < 3) by omega) hb)
  refine q_load (v := (6, 237, 0)) (p2 := 35) rfl rfl rfl rfl ?_
  refine q_load (v := (0, 3, 0)) (p2 := 36) rfl rfl rfl rfl ?_
  refine q_callK (xs := [(0, 3, 0), (6, 237, 0)]) (p2 := 37) rfl rfl rfl rfl (x_rcv_s 237 hS.1.choose_spec.1) rfl rfl ?_
  refine x_f_of rfl ?_
  refine q_load (v := (0, 3, 0)) (p2 := 1) rfl rfl rfl rfl ?_
  refine q_load (v := (0, 3, 0)) (p2 := 2) rfl rfl rfl rfl ?_
  refine q_inegz (z := 4294967293) (p2 := 3) rfl (by decide) rfl ?_
  refine q_iop (w := 3 &&& 4294967293) (z := 1) (p2 := 4) rfl (xo_and 3 4294967293) (by decide) rfl ?_
  refine q_store (loc2 := [(6, 237, 0), (0, 3, 0), (0, 1, 0), (11, 0, 0), (11, 0, 0), (11, 0, 0)]) (p2 := 5) rfl rfl rfl rfl rfl ?_
  refine q_const (p2 := 6) rfl rfl ?_
  refine q_store (loc2 := [(6, 237, 0), (0, 3, 0), (0, 1, 0), (0, 0, 0), (11, 0, 0), (11, 0, 0)]) (p2 := 7) rfl rfl rfl rfl rfl ?_
  refine q_load (v := (0, 0, 0)) (p2 := 8) rfl rfl rfl rfl ?_
  refine q_load (v := (6, 237, 0)) (p2 := 9) rfl rfl rfl rfl ?_
  refine q_getv (v := (6, 257, 0)) (p2 := 10) rfl hS.1.choose_spec.1 (by decide) hS.1.choose_spec.2.2.2.2.2.2.1 rfl ?_
  refine q_alen (p2 := 11) rfl (x_sc_257 hS) rfl (by omega) rfl ?_
  refine q_icmp_s (p2 := 12) rfl (by decide) (by omega) (by omega) rfl (fun hb => absurd hb (show ¬ (¬ (0 < 12)) by omega)) (fun _ => ?_)
  refine q_load (v := (0, 1, 0)) (p2 := 13) rfl rfl rfl rfl ?_
  refine q_load (v := (0, 3, 0)) (p2 := 14) rfl rfl rfl rfl ?_
  refine q_icmp_s (p2 := 15) rfl (by decide) (by omega) (by omega) rfl (fun hb => absurd hb (show ¬ (1 = 3) by omega)) (fun _ => ?_)
  refine q_const (p2 := 16) rfl rfl ?_
  refine q_store (loc2 := [(6, 237, 0), (0, 3, 0), (0, 1, 0), (0, 0, 0), (0, 0, 0), (11, 0, 0)]) (p2 := 17) rfl rfl rfl rfl rfl ?_
  refine q_load (v := (0, 0, 0)) (p2 := 18) rfl rfl rfl rfl ?_
  refine q_load (v := (6, 237, 0)) (p2 := 19) rfl rfl rfl rfl ?_
  refine q_getv (v := (6, 246, 0)) (p2 := 20) rfl hS.1.choose_spec.1 (by decide) hS.1.choose_spec.2.2.2.1 rfl ?_
  refine q_const (p2 := 21) rfl rfl ?_
  refine q_aldv (v := (0, 3, 0)) (p2 := 22) rfl (x_sc_246 hS) (by omega) (by omega) rfl rfl ?_
  refine q_icmp_s (p2 := 23) rfl (by decide) (by omega) (by omega) rfl (fun hb => absurd hb (show ¬ (¬ (0 < 3)) by omega)) (fun _ => ?_)
  refine q_load (v := (0, 3, 0)) (p2 := 24) rfl rfl rfl rfl ?_
  refine q_load (v := (0, 0, 0)) (p2 := 25) rfl rfl rfl rfl ?_
  refine q_iop (w := 3 >>> (0 % 32)) (z := 3) (p2 := 26) rfl (xo_shr (show 3 < 2147483648 by decide) 0) (by decide) rfl ?_
  refine q_const (p2 := 27) rfl rfl ?_
  refine q_iop (w := 3 &&& 1) (z := 1) (p2 := 28) rfl (xo_and 3 1) (by decide) rfl ?_
  refine q_const (p2 := 29) rfl rfl ?_
  refine q_icmp_s (p2 := 30) rfl (by decide) (by omega) (by omega) rfl (fun hb => absurd hb (show ¬ (¬ (1 = 1)) by omega)) (fun _ => ?_)
  refine q_load (v := (6, 237, 0)) (p2 := 31) rfl rfl rfl rfl ?_
  refine q_getv (v := (6, 257, 0)) (p2 := 32) rfl hS.1.choose_spec.1 (by decide) hS.1.choose_spec.2.2.2.2.2.2.1 rfl ?_
  refine q_load (v := (0, 0, 0)) (p2 := 33) rfl rfl rfl rfl ?_
  refine q_aldv (v := (6, 258, 0)) (p2 := 34) rfl (x_sc_257 hS) (by omega) (by omega) rfl rfl ?_
  refine q_const (p2 := 35) rfl rfl ?_
  refine q_aldv (v := (0, 0, 0)) (p2 := 36) rfl (x_sc_258 hS) (by omega) (by omega) rfl rfl ?_
  refine q_load (v := (0, 3, 0)) (p2 := 37) rfl rfl rfl rfl ?_
  refine q_iop (w := 0 &&& 3) (z := 0) (p2 := 38) rfl (xo_and 0 3) (by decide) rfl ?_
  refine q_goto rfl ?_
  refine q_store (loc2 := [(6, 237, 0), (0, 3, 0), (0, 1, 0), (0, 0, 0), (0, 0, 0), (0, 0, 0)]) (p2 := 41) rfl rfl rfl rfl rfl ?_
  refine q_load (v := (0, 1, 0)) (p2 := 42) rfl rfl rfl rfl ?_
  refine q_load (v := (0, 0, 0)) (p2 := 43) rfl rfl rfl rfl ?_
  refine q_iop (w := 1 >>> (0 % 32)) (z := 1) (p2 := 44) rfl (xo_shr (show 1 < 2147483648 by decide) 0) (by decide) rfl ?_
  refine q_const (p2 := 45) rfl rfl ?_
  refine q_iop (w := 1 &&& 1) (z := 1) (p2 := 46) rfl (xo_and 1 1) (by decide) rfl ?_
  refine q_const (p2 := 47) rfl rfl ?_
  refine q_icmp_s (p2 := 48) rfl (by decide) (by omega) (by omega) rfl (fun _ => ?_) (fun hb => absurd (show 1 = 1 by omega) hb)
  refine q_load (v := (0, 1, 0)) (p2 := 53) rfl rfl rfl rfl ?_
  refine q_load (v := (0, 0, 0)) (p2 := 54) rfl rfl rfl rfl ?_
  refine q_load (v := (0, 3, 0)) (p2 := 55) rfl rfl rfl rfl ?_
  refine q_const (p2 := 56) rfl rfl ?_
  refine q_load (v := (0, 0, 0)) (p2 := 57) rfl rfl rfl rfl ?_
  refine q_iop (w := 1 <<< (0 % 32)) (z := 1) (p2 := 58) rfl (xo_shl 1 0) (by decide) rfl ?_
  refine q_iop (w := 3 &&& 1) (z := 1) (p2 := 59) rfl (xo_and 3 1) (by decide) rfl ?_
  refine q_iop (w := 0 ||| 1) (z := 1) (p2 := 60) rfl (xo_or 0 1) (by decide) rfl ?_
  refine q_iop (w := 1 ||| 1) (z := 1) (p2 := 61) rfl (xo_or 1 1) (by decide) rfl ?_
  refine q_store (loc2 := [(6, 237, 0), (0, 3, 0), (0, 1, 0), (0, 0, 0), (0, 0, 0), (0, 0, 0)]) (p2 := 62) rfl rfl rfl rfl rfl ?_
  refine q_iinc (z := 1) (loc2 := [(6, 237, 0), (0, 3, 0), (0, 1, 0), (0, 0, 0), (0, 1, 0), (0, 0, 0)]) (p2 := 63) rfl rfl (by decide) rfl rfl ?_
  refine q_goto rfl ?_
  refine q_load (v := (0, 1, 0)) (p2 := 18) rfl rfl rfl rfl ?_
  refine q_load (v := (6, 237, 0)) (p2 := 19) rfl rfl rfl rfl ?_
  refine q_getv (v := (6, 246, 0)) (p2 := 20) rfl hS.1.choose_spec.1 (by decide) hS.1.choose_spec.2.2.2.1 rfl ?_
  refine q_const (p2 := 21) rfl rfl ?_
  refine q_aldv (v := (0, 3, 0)) (p2 := 22) rfl (x_sc_246 hS) (by omega) (by omega) rfl rfl ?_
  refine q_icmp_s (p2 := 23) rfl (by decide) (by omega) (by omega) rfl (fun hb => absurd hb (show ¬ (¬ (1 < 3)) by omega)) (fun _ => ?_)
  refine q_load (v := (0, 3, 0)) (p2 := 24) rfl rfl rfl rfl ?_
  refine q_load (v := (0, 1, 0)) (p2 := 25) rfl rfl rfl rfl ?_
  refine q_iop (w := 3 >>> (1 % 32)) (z := 1) (p2 := 26) rfl (xo_shr (show 3 < 2147483648 by decide) 1) (by decide) rfl ?_
  refine q_const (p2 := 27) rfl rfl ?_
  refine q_iop (w := 1 &&& 1) (z := 1) (p2 := 28) rfl (xo_and 1 1) (by decide) rfl ?_
  refine q_const (p2 := 29) rfl rfl ?_
  refine q_icmp_s (p2 := 30) rfl (by decide) (by omega) (by omega) rfl (fun hb => absurd hb (show ¬ (¬ (1 = 1)) by omega)) (fun _ => ?_)
  refine q_load (v := (6, 237, 0)) (p2 := 31) rfl rfl rfl rfl ?_
  refine q_getv (v := (6, 257, 0)) (p2 := 32) rfl hS.1.choose_spec.1 (by decide) hS.1.choose_spec.2.2.2.2.2.2.1 rfl ?_
  refine q_load (v := (0, 1, 0)) (p2 := 33) rfl rfl rfl rfl ?_
  refine q_aldv (v := (6, 259, 0)) (p2 := 34) rfl (x_sc_257 hS) (by omega) (by omega) rfl rfl ?_
  refine q_const (p2 := 35) rfl rfl ?_
  refine q_aldv (v := (0, 1, 0)) (p2 := 36) rfl (x_sc_259 hS) (by omega) (by omega) rfl rfl ?_
  refine q_load (v := (0, 3, 0)) (p2 := 37) rfl rfl rfl rfl ?_
  refine q_iop (w := 1 &&& 3) (z := 1) (p2 := 38) rfl (xo_and 1 3) (by decide) rfl ?_
  refine q_goto rfl ?_
  refine q_store (loc2 := [(6, 237, 0), (0, 3, 0), (0, 1, 0), (0, 0, 0), (0, 1, 0), (0, 1, 0)]) (p2 := 41) rfl rfl rfl rfl rfl ?_
  refine q_load (v := (0, 1, 0)) (p2 := 42) rfl rfl rfl rfl ?_
  refine q_load (v := (0, 1, 0)) (p2 := 43) rfl rfl rfl rfl ?_
  refine q_iop (w := 1 >>> (1 % 32)) (z := 0) (p2 := 44) rfl (xo_shr (show 1 < 2147483648 by decide) 1) (by decide) rfl ?_
  refine q_const (p2 := 45) rfl rfl ?_
  refine q_iop (w := 0 &&& 1) (z := 0) (p2 := 46) rfl (xo_and 0 1) (by decide) rfl ?_
  refine q_const (p2 := 47) rfl rfl ?_
  refine q_icmp_s (p2 := 48) rfl (by decide) (by omega) (by omega) rfl (fun hb => absurd hb (show ¬ (0 = 1) by omega)) (fun _ => ?_)
  refine q_load (v := (0, 1, 0)) (p2 := 49) rfl rfl rfl rfl ?_
  refine q_load (v := (0, 1, 0)) (p2 := 50) rfl rfl rfl rfl ?_
  refine q_iop (w := 1 &&& 1) (z := 1) (p2 := 51) rfl (xo_and 1 1) (by decide) rfl ?_
  refine q_if0_s (p2 := 52) rfl (by decide) (by omega) rfl (fun hb => absurd hb (show ¬ (1 = 0) by omega)) (fun _ => ?_)
  refine q_load (v := (0, 1, 0)) (p2 := 53) rfl rfl rfl rfl ?_
  refine q_load (v := (0, 1, 0)) (p2 := 54) rfl rfl rfl rfl ?_
  refine q_load (v := (0, 3, 0)) (p2 := 55) rfl rfl rfl rfl ?_
  refine q_const (p2 := 56) rfl rfl ?_
  refine q_load (v := (0, 1, 0)) (p2 := 57) rfl rfl rfl rfl ?_
  refine q_iop (w := 1 <<< (1 % 32)) (z := 2) (p2 := 58) rfl (xo_shl 1 1) (by decide) rfl ?_
  refine q_iop (w := 3 &&& 2) (z := 2) (p2 := 59) rfl (xo_and 3 2) (by decide) rfl ?_
  refine q_iop (w := 1 ||| 2) (z := 3) (p2 := 60) rfl (xo_or 1 2) (by decide) rfl ?_
  refine q_iop (w := 1 ||| 3) (z := 3) (p2 := 61) rfl (xo_or 1 3) (by decide) rfl ?_
  refine q_store (loc2 := [(6, 237, 0), (0, 3, 0), (0, 3, 0), (0, 0, 0), (0, 1, 0), (0, 1, 0)]) (p2 := 62) rfl rfl rfl rfl rfl ?_
  refine q_iinc (z := 2) (loc2 := [(6, 237, 0), (0, 3, 0), (0, 3, 0), (0, 0, 0), (0, 2, 0), (0, 1, 0)]) (p2 := 63) rfl rfl (by decide) rfl rfl ?_
  refine q_goto rfl ?_
  refine q_load (v := (0, 2, 0)) (p2 := 18) rfl rfl rfl rfl ?_
  refine q_load (v := (6, 237, 0)) (p2 := 19) rfl rfl rfl rfl ?_
  refine q_getv (v := (6, 246, 0)) (p2 := 20) rfl hS.1.choose_spec.1 (by decide) hS.1.choose_spec.2.2.2.1 rfl ?_
  refine q_const (p2 := 21) rfl rfl ?_
  refine q_aldv (v := (0, 3, 0)) (p2 := 22) rfl (x_sc_246 hS) (by omega) (by omega) rfl rfl ?_
  refine q_icmp_s (p2 := 23) rfl (by decide) (by omega) (by omega) rfl (fun hb => absurd hb (show ¬ (¬ (2 < 3)) by omega)) (fun _ => ?_)
  refine q_load (v := (0, 3, 0)) (p2 := 24) rfl rfl rfl rfl ?_
  refine q_load (v := (0, 2, 0)) (p2 := 25) rfl rfl rfl rfl ?_
  refine q_iop (w := 3 >>> (2 % 32)) (z := 0) (p2 := 26) rfl (xo_shr (show 3 < 2147483648 by decide) 2) (by decide) rfl ?_
  refine q_const (p2 := 27) rfl rfl ?_
  refine q_iop (w := 0 &&& 1) (z := 0) (p2 := 28) rfl (xo_and 0 1) (by decide) rfl ?_
  refine q_const (p2 := 29) rfl rfl ?_
  refine q_icmp_s (p2 := 30) rfl (by decide) (by omega) (by omega) rfl (fun _ => ?_) (fun hb => absurd (show ¬ (0 = 1) by omega) hb)
  refine q_const (p2 := 40) rfl rfl ?_
  refine q_store (loc2 := [(6, 237, 0), (0, 3, 0), (0, 3, 0), (0, 0, 0), (0, 2, 0), (0, 0, 0)]) (p2 := 41) rfl rfl rfl rfl rfl ?_
  refine q_load (v := (0, 3, 0)) (p2 := 42) rfl rfl rfl rfl ?_
  refine q_load (v := (0, 2, 0)) (p2 := 43) rfl rfl rfl rfl ?_
  refine q_iop (w := 3 >>> (2 % 32)) (z := 0) (p2 := 44) rfl (xo_shr (show 3 < 2147483648 by decide) 2) (by decide) rfl ?_
  refine q_const (p2 := 45) rfl rfl ?_
  refine q_iop (w := 0 &&& 1) (z := 0) (p2 := 46) rfl (xo_and 0 1) (by decide) rfl ?_
  refine q_const (p2 := 47) rfl rfl ?_
  refine q_icmp_s (p2 := 48) rfl (by decide) (by omega) (by omega) rfl (fun hb => absurd hb (show ¬ (0 = 1) by omega)) (fun _ => ?_)
  refine q_load (v := (0, 0, 0)) (p2 := 49) rfl rfl rfl rfl ?_
  refine q_load (v := (0, 3, 0)) (p2 := 50) rfl rfl rfl rfl ?_
  refine q_iop (w := 0 &&& 3) (z := 0) (p2 := 51) rfl (xo_and 0 3) (by decide) rfl ?_
  refine q_if0_s (p2 := 52) rfl (by decide) (by omega) rfl (fun _ => ?_) (fun hb => absurd (show 0 = 0 by omega) hb)
  refine q_iinc (z := 3) (loc2 := [(6, 237, 0), (0, 3, 0), (0, 3, 0), (0, 0, 0), (0, 3, 0), (0, 0, 0)]) (p2 := 63) rfl rfl (by decide) rfl rfl ?_
  refine q_goto rfl ?_
  refine q_load (v := (0, 3, 0)) (p2 := 18) rfl rfl rfl rfl ?_
  refine q_load (v := (6, 237, 0)) (p2 := 19) rfl rfl rfl rfl ?_
  refine q_getv (v := (6, 246, 0)) (p2 := 20) rfl hS.1.choose_spec.1 (by decide) hS.1.choose_spec.2.2.2.1 rfl ?_
  refine q_const (p2 := 21) rfl rfl ?_
  refine q_aldv (v := (0, 3, 0)) (p2 := 22) rfl (x_sc_246 hS) (by omega) (by omega) rfl rfl ?_
  refine q_icmp_s (p2 := 23) rfl (by decide) (by omega) (by omega) rfl (fun _ => ?_) (fun hb => absurd (show ¬ (3 < 3) by omega) hb)
  refine q_iinc (z := 1) (loc2 := [(6, 237, 0), (0, 3, 0), (0, 3, 0), (0, 1, 0), (0, 3, 0), (0, 0, 0)]) (p2 := 65) rfl rfl (by decide) rfl rfl ?_
  refine q_goto rfl ?_
  refine q_load (v := (0, 1, 0)) (p2 := 8) rfl rfl rfl rfl ?_
  refine q_load (v := (6, 237, 0)) (p2 := 9) rfl rfl rfl rfl ?_
  refine q_getv (v := (6, 257, 0)) (p2 := 10) rfl hS.1.choose_spec.1 (by decide) hS.1.choose_spec.2.2.2.2.2.2.1 rfl ?_
  refine q_alen (p2 := 11) rfl (x_sc_257 hS) rfl (by omega) rfl ?_
  refine q_icmp_s (p2 := 12) rfl (by decide) (by omega) (by omega) rfl (fun hb => absurd hb (show ¬ (¬ (1 < 12)) by omega)) (fun _ => ?_)
  refine q_load (v := (0, 3, 0)) (p2 := 13) rfl rfl rfl rfl ?_
  refine q_load (v := (0, 3, 0)) (p2 := 14) rfl rfl rfl rfl ?_
  refine q_icmp_s (p2 := 15) rfl (by decide) (by omega) (by omega) rfl (fun _ => ?_) (fun hb => absurd (show 3 = 3 by omega) hb)
  refine q_load (v := (0, 3, 0)) (p2 := 67) rfl rfl rfl rfl ?_
  refine q_load (v := (0, 3, 0)) (p2 := 68) rfl rfl rfl rfl ?_
  refine q_icmp_s (p2 := 69) rfl (by decide) (by omega) (by omega) rfl (fun hb => absurd hb (show ¬ (¬ (3 = 3)) by omega)) (fun _ => ?_)
  refine q_const (p2 := 70) rfl rfl ?_
  refine q_goto rfl ?_
  refine q_retv (v := (0, 1, 0)) rfl rfl ⟨rfl, by omega, by omega, ?_⟩
  refine q_if0_s (p2 := 38) rfl (by decide) (by omega) rfl (fun _ => ?_) (fun hb => absurd (show ¬ (1 = 0) by omega) hb)
  refine q_load (v := (6, 237, 0)) (p2 := 41) rfl rfl rfl rfl ?_
  refine q_load (v := (0, 3, 0)) (p2 := 42) rfl rfl rfl rfl ?_
  refine q_callK (xs := [(0, 3, 0), (6, 237, 0)]) (p2 := 43) rfl rfl rfl rfl (x_rcv_s 237 hS.1.choose_spec.1) rfl rfl ?_
  refine x_f_of rfl ?_
  refine q_const (p2 := 1) rfl rfl ?_
  refine q_store (loc2 := [(6, 237, 0), (0, 3, 0), (0, 0, 0)]) (p2 := 2) rfl rfl rfl rfl rfl ?_
  refine q_load (v := (0, 0, 0)) (p2 := 3) rfl rfl rfl rfl ?_
  refine q_load (v := (6, 237, 0)) (p2 := 4) rfl rfl rfl rfl ?_
  refine q_getv (v := (6, 246, 0)) (p2 := 5) rfl hS.1.choose_spec.1 (by decide) hS.1.choose_spec.2.2.2.1 rfl ?_
  refine q_const (p2 := 6) rfl rfl ?_
  refine q_aldv (v := (0, 3, 0)) (p2 := 7) rfl (x_sc_246 hS) (by omega) (by omega) rfl rfl ?_
  refine q_icmp_s (p2 := 8) rfl (by decide) (by omega) (by omega) rfl (fun hb => absurd hb (show ¬ (¬ (0 < 3)) by omega)) (fun _ => ?_)
  refine q_load (v := (0, 3, 0)) (p2 := 9) rfl rfl rfl rfl ?_
  refine q_load (v := (0, 0, 0)) (p2 := 10) rfl rfl rfl rfl ?_
  refine q_iop (w := 3 >>> (0 % 32)) (z := 3) (p2 := 11) rfl (xo_shr (show 3 < 2147483648 by decide) 0) (by decide) rfl ?_
  refine q_const (p2 := 12) rfl rfl ?_
  refine q_iop (w := 3 &&& 1) (z := 1) (p2 := 13) rfl (xo_and 3 1) (by decide) rfl ?_
  refine q_const (p2 := 14) rfl rfl ?_
  refine q_icmp_s (p2 := 15) rfl (by decide) (by omega) (by omega) rfl (fun hb => absurd hb (show ¬ (¬ (1 = 1)) by omega)) (fun _ => ?_)
  refine q_load (v := (6, 237, 0)) (p2 := 16) rfl rfl rfl rfl ?_
  refine q_getv (v := (6, 257, 0)) (p2 := 17) rfl hS.1.choose_spec.1 (by decide) hS.1.choose_spec.2.2.2.2.2.2.1 rfl ?_
  refine q_load (v := (0, 0, 0)) (p2 := 18) rfl rfl rfl rfl ?_
  refine q_aldv (v := (6, 258, 0)) (p2 := 19) rfl (x_sc_257 hS) (by omega) (by omega) rfl rfl ?_
  refine q_const (p2 := 20) rfl rfl ?_
  refine q_aldv (v := (0, 1, 0)) (p2 := 21) rfl (x_sc_258 hS) (by omega) (by omega) rfl rfl ?_
  refine q_const (p2 := 22) rfl rfl ?_
  refine q_icmp_s (p2 := 23) rfl (by decide) (by omega) (by omega) rfl (fun hb => absurd hb (show ¬ (¬ (1 = 1)) by omega)) (fun _ => ?_)
  refine q_load (v := (6, 237, 0)) (p2 := 24) rfl rfl rfl rfl ?_
  refine q_load (v := (0, 0, 0)) (p2 := 25) rfl rfl rfl rfl ?_
  refine q_load (v := (0, 3, 0)) (p2 := 26) rfl rfl rfl rfl ?_
  refine q_callK (xs := [(0, 3, 0), (0, 0, 0), (6, 237, 0)]) (p2 := 27) rfl rfl rfl rfl (x_rcv_s 237 hS.1.choose_spec.1) rfl rfl ?_
  refine x_f_of rfl ?_
  refine q_const (p2 := 1) rfl rfl ?_
  refine q_store (loc2 := [(6, 237, 0), (0, 0, 0), (0, 3, 0), (0, 0, 0)]) (p2 := 2) rfl rfl rfl rfl rfl ?_
  refine q_load (v := (0, 0, 0)) (p2 := 3) rfl rfl rfl rfl ?_
  refine q_load (v := (6, 237, 0)) (p2 := 4) rfl rfl rfl rfl ?_
  refine q_getv (v := (6, 246, 0)) (p2 := 5) rfl hS.1.choose_spec.1 (by decide) hS.1.choose_spec.2.2.2.1 rfl ?_
  refine q_const (p2 := 6) rfl rfl ?_
  refine q_aldv (v := (0, 3, 0)) (p2 := 7) rfl (x_sc_246 hS) (by omega) (by omega) rfl rfl ?_
  refine q_icmp_s (p2 := 8) rfl (by decide) (by omega) (by omega) rfl (fun hb => absurd hb (show ¬ (¬ (0 < 3)) by omega)) (fun _ => ?_)
  refine q_load (v := (0, 3, 0)) (p2 := 9) rfl rfl rfl rfl ?_
  refine q_load (v := (0, 0, 0)) (p2 := 10) rfl rfl rfl rfl ?_
  refine q_iop (w := 3 >>> (0 % 32)) (z := 3) (p2 := 11) rfl (xo_shr (show 3 < 2147483648 by decide) 0) (by decide) rfl ?_
  refine q_const (p2 := 12) rfl rfl ?_
  refine q_iop (w := 3 &&& 1) (z := 1) (p2 := 13) rfl (xo_and 3 1) (by decide) rfl ?_
  refine q_const (p2 := 14) rfl rfl ?_
  refine q_icmp_s (p2 := 15) rfl (by decide) (by omega) (by omega) rfl (fun hb => absurd hb (show ¬ (¬ (1 = 1)) by omega)) (fun _ => ?_)
  refine q_load (v := (6, 237, 0)) (p2 := 16) rfl rfl rfl rfl ?_
  refine q_getv (v := (6, 257, 0)) (p2 := 17) rfl hS.1.choose_spec.1 (by decide) hS.1.choose_spec.2.2.2.2.2.2.1 rfl ?_
  refine q_load (v := (0, 0, 0)) (p2 := 18) rfl rfl rfl rfl ?_
  refine q_aldv (v := (6, 258, 0)) (p2 := 19) rfl (x_sc_257 hS) (by omega) (by omega) rfl rfl ?_
  refine q_const (p2 := 20) rfl rfl ?_
  refine q_aldv (v := (0, 0, 0)) (p2 := 21) rfl (x_sc_258 hS) (by omega) (by omega) rfl rfl ?_
  refine q_load (v := (0, 0, 0)) (p2 := 22) rfl rfl rfl rfl ?_
  refine q_iop (w := 0 >>> (0 % 32)) (z := 0) (p2 := 23) rfl (xo_shr (show 0 < 2147483648 by decide) 0) (by decide) rfl ?_
  refine q_const (p2 := 24) rfl rfl ?_
  refine q_iop (w := 0 &&& 1) (z := 0) (p2 := 25) rfl (xo_and 0 1) (by decide) rfl ?_
  refine q_const (p2 := 26) rfl rfl ?_
  refine q_icmp_s (p2 := 27) rfl (by decide) (by omega) (by omega) rfl (fun _ => ?_) (fun hb => absurd (show ¬ (0 = 1) by omega) hb)
  refine q_iinc (z := 1) (loc2 := [(6, 237, 0), (0, 0, 0), (0, 3, 0), (0, 1, 0)]) (p2 := 30) rfl rfl (by decide) rfl rfl ?_
  refine q_goto rfl ?_
  refine q_load (v := (0, 1, 0)) (p2 := 3) rfl rfl rfl rfl ?_
  refine q_load (v := (6, 237, 0)) (p2 := 4) rfl rfl rfl rfl ?_
  refine q_getv (v := (6, 246, 0)) (p2 := 5) rfl hS.1.choose_spec.1 (by decide) hS.1.choose_spec.2.2.2.1 rfl ?_
  refine q_const (p2 := 6) rfl rfl ?_
  refine q_aldv (v := (0, 3, 0)) (p2 := 7) rfl (x_sc_246 hS) (by omega) (by omega) rfl rfl ?_
  refine q_icmp_s (p2 := 8) rfl (by decide) (by omega) (by omega) rfl (fun hb => absurd hb (show ¬ (¬ (1 < 3)) by omega)) (fun _ => ?_)
  refine q_load (v := (0, 3, 0)) (p2 := 9) rfl rfl rfl rfl ?_
  refine q_load (v := (0, 1, 0)) (p2 := 10) rfl rfl rfl rfl ?_
  refine q_iop (w := 3 >>> (1 % 32)) (z := 1) (p2 := 11) rfl (xo_shr (show 3 < 2147483648 by decide) 1) (by decide) rfl ?_
  refine q_const (p2 := 12) rfl rfl ?_
  refine q_iop (w := 1 &&& 1) (z := 1) (p2 := 13) rfl (xo_and 1 1) (by decide) rfl ?_
  refine q_const (p2 := 14) rfl rfl ?_
  refine q_icmp_s (p2 := 15) rfl (by decide) (by omega) (by omega) rfl (fun hb => absurd hb (show ¬ (¬ (1 = 1)) by omega)) (fun _ => ?_)
  refine q_load (v := (6, 237, 0)) (p2 := 16) rfl rfl rfl rfl ?_
  refine q_getv (v := (6, 257, 0)) (p2 := 17) rfl hS.1.choose_spec.1 (by decide) hS.1.choose_spec.2.2.2.2.2.2.1 rfl ?_
  refine q_load (v := (0, 1, 0)) (p2 := 18) rfl rfl rfl rfl ?_
  refine q_aldv (v := (6, 259, 0)) (p2 := 19) rfl (x_sc_257 hS) (by omega) (by omega) rfl rfl ?_
  refine q_const (p2 := 20) rfl rfl ?_
  refine q_aldv (v := (0, 1, 0)) (p2 := 21) rfl (x_sc_259 hS) (by omega) (by omega) rfl rfl ?_
  refine q_load (v := (0, 0, 0)) (p2 := 22) rfl rfl rfl rfl ?_
  refine q_iop (w := 1 >>> (0 % 32)) (z := 1) (p2 := 23) rfl (xo_shr (show 1 < 2147483648 by decide) 0) (by decide) rfl ?_
  refine q_const (p2 := 24) rfl rfl ?_
  refine q_iop (w := 1 &&& 1) (z := 1) (p2 := 25) rfl (xo_and 1 1) (by decide) rfl ?_
  refine q_const (p2 := 26) rfl rfl ?_
  refine q_icmp_s (p2 := 27) rfl (by decide) (by omega) (by omega) rfl (fun hb => absurd hb (show ¬ (¬ (1 = 1)) by omega)) (fun _ => ?_)
  refine q_const (p2 := 28) rfl rfl ?_
  refine q_retv (v := (0, 1, 0)) rfl rfl ⟨rfl, by omega, by omega, ?_⟩
  refine q_if0_s (p2 := 28) rfl (by decide) (by omega) rfl (fun _ => ?_) (fun hb => absurd (show ¬ (1 = 0) by omega) hb)
  refine q_iinc (z := 1) (loc2 := [(6, 237, 0), (0, 3, 0), (0, 1, 0)]) (p2 := 31) rfl rfl (by decide) rfl rfl ?_
  refine q_goto rfl ?_
  refine q_load (v := (0, 1, 0)) (p2 := 3) rfl rfl rfl rfl ?_
  refine q_load (v := (6, 237, 0)) (p2 := 4) rfl rfl rfl rfl ?_
  refine q_getv (v := (6, 246, 0)) (p2 := 5) rfl hS.1.choose_spec.1 (by decide) hS.1.choose_spec.2.2.2.1 rfl ?_
  refine q_const (p2 := 6) rfl rfl ?_
  refine q_aldv (v := (0, 3, 0)) (p2 := 7) rfl (x_sc_246 hS) (by omega) (by omega) rfl rfl ?_
  refine q_icmp_s (p2 := 8) rfl (by decide) (by omega) (by omega) rfl (fun hb => absurd hb (show ¬ (¬ (1 < 3)) by omega)) (fun _ => ?_)
  refine q_load (v := (0, 3, 0)) (p2 := 9) rfl rfl rfl rfl ?_
  refine q_load (v := (0, 1, 0)) (p2 := 10) rfl rfl rfl rfl ?_
  refine q_iop (w := 3 >>> (1 % 32)) (z := 1) (p2 := 11) rfl (xo_shr (show 3 < 2147483648 by decide) 1) (by decide) rfl ?_
  refine q_const (p2 := 12) rfl rfl ?_
  refine q_iop (w := 1 &&& 1) (z := 1) (p2 := 13) rfl (xo_and 1 1) (by decide) rfl ?_
  refine q_const (p2 := 14) rfl rfl ?_
  refine q_icmp_s (p2 := 15) rfl (by decide) (by omega) (by omega) rfl (fun hb => absurd hb (show ¬ (¬ (1 = 1)) by omega)) (fun _ => ?_)
  refine q_load (v := (6, 237, 0)) (p2 := 16) rfl rfl rfl rfl ?_
  refine q_getv (v := (6, 257, 0)) (p2 := 17) rfl hS.1.choose_spec.1 (by decide) hS.1.choose_spec.2.2.2.2.2.2.1 rfl ?_
  refine q_load (v := (0, 1, 0)) (p2 := 18) rfl rfl rfl rfl ?_
  refine q_aldv (v := (6, 259, 0)) (p2 := 19) rfl (x_sc_257 hS) (by omega) (by omega) rfl rfl ?_
  refine q_const (p2 := 20) rfl rfl ?_
  refine q_aldv (v := (0, 0, 0)) (p2 := 21) rfl (x_sc_259 hS) (by omega) (by omega) rfl rfl ?_
  refine q_const (p2 := 22) rfl rfl ?_
  refine q_icmp_s (p2 := 23) rfl (by decide) (by omega) (by omega) rfl (fun _ => ?_) (fun hb => absurd (show ¬ (0 = 1) by omega) hb)
  refine q_iinc (z := 2) (loc2 := [(6, 237, 0), (0, 3, 0), (0, 2, 0)]) (p2 := 31) rfl rfl (by decide) rfl rfl ?_
  refine q_goto rfl ?_
  refine q_load (v := (0, 2, 0)) (p2 := 3) rfl rfl rfl rfl ?_
  refine q_load (v := (6, 237, 0)) (p2 := 4) rfl rfl rfl rfl ?_
  refine q_getv (v := (6, 246, 0)) (p2 := 5) rfl hS.1.choose_spec.1 (by decide) hS.1.choose_spec.2.2.2.1 rfl ?_
  refine q_const (p2 := 6) rfl rfl ?_
  refine q_aldv (v := (0, 3, 0)) (p2 := 7) rfl (x_sc_246 hS) (by omega) (by omega) rfl rfl ?_
  refine q_icmp_s (p2 := 8) rfl (by decide) (by omega) (by omega) rfl (fun hb => absurd hb (show ¬ (¬ (2 < 3)) by omega)) (fun _ => ?_)
  refine q_load (v := (0, 3, 0)) (p2 := 9) rfl rfl rfl rfl ?_
  refine q_load (v := (0, 2, 0)) (p2 := 10) rfl rfl rfl rfl ?_
  refine q_iop (w := 3 >>> (2 % 32)) (z := 0) (p2 := 11) rfl (xo_shr (show 3 < 2147483648 by decide) 2) (by decide) rfl ?_
  refine q_const (p2 := 12) rfl rfl ?_
  refine q_iop (w := 0 &&& 1) (z := 0) (p2 := 13) rfl (xo_and 0 1) (by decide) rfl ?_
  refine q_const (p2 := 14) rfl rfl ?_
  refine q_icmp_s (p2 := 15) rfl (by decide) (by omega) (by omega) rfl (fun _ => ?_) (fun hb => absurd (show ¬ (0 = 1) by omega) hb)
  refine q_iinc (z := 3) (loc2 := [(6, 237, 0), (0, 3, 0), (0, 3, 0)]) (p2 := 31) rfl rfl (by decide) rfl rfl ?_
  refine q_goto rfl ?_
  refine q_load (v := (0, 3, 0)) (p2 := 3) rfl rfl rfl rfl ?_
  refine q_load (v := (6, 237, 0)) (p2 := 4) rfl rfl rfl rfl ?_
  refine q_getv (v := (6, 246, 0)) (p2 := 5) rfl hS.1.choose_spec.1 (by decide) hS.1.choose_spec.2.2.2.1 rfl ?_
  refine q_const (p2 := 6) rfl rfl ?_
  refine q_aldv (v := (0, 3, 0)) (p2 := 7) rfl (x_sc_246 hS) (by omega) (by omega) rfl rfl ?_
  refine q_icmp_s (p2 := 8) rfl (by decide) (by omega) (by omega) rfl (fun _ => ?_) (fun hb => absurd (show ¬ (3 < 3) by omega) hb)
  refine q_const (p2 := 33) rfl rfl ?_
  refine q_store (loc2 := [(6, 237, 0), (0, 3, 0), (0, 0, 0)]) (p2 := 34) rfl rfl rfl rfl rfl ?_
  refine q_load (v := (0, 0, 0)) (p2 := 35) rfl rfl rfl rfl ?_
  refine q_load (v := (6, 237, 0)) (p2 := 36) rfl rfl rfl rfl ?_
  refine q_getv (v := (6, 246, 0)) (p2 := 37) rfl hS.1.choose_spec.1 (by decide) hS.1.choose_spec.2.2.2.1 rfl ?_
  refine q_const (p2 := 38) rfl rfl ?_
  refine q_aldv (v := (0, 3, 0)) (p2 := 39) rfl (x_sc_246 hS) (by omega) (by omega) rfl rfl ?_
  refine q_icmp_s (p2 := 40) rfl (by decide) (by omega) (by omega) rfl (fun hb => absurd hb (show ¬ (¬ (0 < 3)) by omega)) (fun _ => ?_)
  refine q_load (v := (0, 3, 0)) (p2 := 41) rfl rfl rfl rfl ?_
  refine q_load (v := (0, 0, 0)) (p2 := 42) rfl rfl rfl rfl ?_
  refine q_iop (w := 3 >>> (0 % 32)) (z := 3) (p2 := 43) rfl (xo_shr (show 3 < 2147483648 by decide) 0) (by decide) rfl ?_
  refine q_const (p2 := 44) rfl rfl ?_
  refine q_iop (w := 3 &&& 1) (z := 1) (p2 := 45) rfl (xo_and 3 1) (by decide) rfl ?_
  refine q_const (p2 := 46) rfl rfl ?_
  refine q_icmp_s (p2 := 47) rfl (by decide) (by omega) (by omega) rfl (fun hb => absurd hb (show ¬ (¬ (1 = 1)) by omega)) (fun _ => ?_)
  refine q_load (v := (6, 237, 0)) (p2 := 48) rfl rfl rfl rfl ?_
  refine q_getv (v := (6, 257, 0)) (p2 := 49) rfl hS.1.choose_spec.1 (by decide) hS.1.choose_spec.2.2.2.2.2.2.1 rfl ?_
  refine q_load (v := (0, 0, 0)) (p2 := 50) rfl rfl rfl rfl ?_
  refine q_aldv (v := (6, 258, 0)) (p2 := 51) rfl (x_sc_257 hS) (by omega) (by omega) rfl rfl ?_
  refine q_const (p2 := 52) rfl rfl ?_
  refine q_aldv (v := (0, 0, 0)) (p2 := 53) rfl (x_sc_258 hS) (by omega) (by omega) rfl rfl ?_
  refine q_if0_s (p2 := 54) rfl (by decide) (by omega) rfl (fun hb => absurd hb (show ¬ (0 < 0) by omega)) (fun _ => ?_)
  refine q_load (v := (6, 237, 0)) (p2 := 55) rfl rfl rfl rfl ?_
  refine q_load (v := (6, 237, 0)) (p2 := 56) rfl rfl rfl rfl ?_
  refine q_getv (v := (6, 257, 0)) (p2 := 57) rfl hS.1.choose_spec.1 (by decide) hS.1.choose_spec.2.2.2.2.2.2.1 rfl ?_
  refine q_load (v := (0, 0, 0)) (p2 := 58) rfl rfl rfl rfl ?_
  refine q_aldv (v := (6, 258, 0)) (p2 := 59) rfl (x_sc_257 hS) (by omega) (by omega) rfl rfl ?_
  refine q_const (p2 := 60) rfl rfl ?_
  refine q_aldv (v := (0, 0, 0)) (p2 := 61) rfl (x_sc_258 hS) (by omega) (by omega) rfl rfl ?_
  refine q_load (v := (0, 3, 0)) (p2 := 62) rfl rfl rfl rfl ?_
  refine q_callK (xs := [(0, 3, 0), (0, 0, 0), (6, 237, 0)]) (p2 := 63) rfl rfl rfl rfl (x_rcv_s 237 hS.1.choose_spec.1) rfl rfl ?_
  refine x_f_of rfl ?_
  refine q_const (p2 := 1) rfl rfl ?_
  refine q_store (loc2 := [(6, 237, 0), (0, 0, 0), (0, 3, 0), (0, 0, 0), (11, 0, 0)]) (p2 := 2) rfl rfl rfl rfl rfl ?_
  refine q_load (v := (0, 0, 0)) (p2 := 3) rfl rfl rfl rfl ?_
  refine q_store (loc2 := [(6, 237, 0), (0, 0, 0), (0, 3, 0), (0, 0, 0), (0, 0, 0)]) (p2 := 4) rfl rfl rfl rfl rfl ?_
  refine q_load (v := (0, 0, 0)) (p2 := 5) rfl rfl rfl rfl ?_
  refine q_if0_s (p2 := 6) rfl (by decide) (by omega) rfl (fun hb => absurd hb (show ¬ (0 < 0) by omega)) (fun _ => ?_)
  refine q_load (v := (0, 0, 0)) (p2 := 7) rfl rfl rfl rfl ?_
  refine q_const (p2 := 8) rfl rfl ?_
  refine q_iop (w := 0 + 1) (z := 1) (p2 := 9) rfl (xo_add 0 1) (by decide) rfl ?_
  refine q_load (v := (6, 237, 0)) (p2 := 10) rfl rfl rfl rfl ?_
  refine q_getv (v := (6, 450, 0)) (p2 := 11) rfl hS.1.choose_spec.1 (by decide) hS.1.choose_spec.2.2.2.2.2.2.2.2.2.2.2.2.2.1 rfl ?_
  refine q_alen (p2 := 12) rfl hC rfl (by omega) rfl ?_
  refine q_icmp_s (p2 := 13) rfl (by decide) (by omega) (by omega) rfl (fun hb => absurd hb (show ¬ (¬ (1 < 12288)) by omega)) (fun _ => ?_)
  refine q_load (v := (6, 237, 0)) (p2 := 14) rfl rfl rfl rfl ?_
  refine q_getv (v := (6, 450, 0)) (p2 := 15) rfl hS.1.choose_spec.1 (by decide) hS.1.choose_spec.2.2.2.2.2.2.2.2.2.2.2.2.2.1 rfl ?_
  refine q_load (v := (0, 0, 0)) (p2 := 16) rfl rfl rfl rfl ?_
  refine q_aldT (tag := 0) (v := 1) (p2 := 17) rfl hC (by omega) (by omega) hc0 rfl ?_
  refine q_if0_s (p2 := 18) rfl (by decide) (by omega) rfl (fun hb => absurd hb (show ¬ (1 = 0) by omega)) (fun _ => ?_)
  refine q_load (v := (6, 237, 0)) (p2 := 19) rfl rfl rfl rfl ?_
  refine q_getv (v := (6, 450, 0)) (p2 := 20) rfl hS.1.choose_spec.1 (by decide) hS.1.choose_spec.2.2.2.2.2.2.2.2.2.2.2.2.2.1 rfl ?_
  refine q_load (v := (0, 0, 0)) (p2 := 21) rfl rfl rfl rfl ?_
  refine q_aldT (tag := 0) (v := 1) (p2 := 22) rfl hC (by omega) (by omega) hc0 rfl ?_
  refine q_const (p2 := 23) rfl rfl ?_
  refine q_icmp_s (p2 := 24) rfl (by decide) (by omega) (by omega) rfl (fun _ => ?_) (fun hb => absurd (show 1 = 1 by omega) hb)
  refine q_load (v := (0, 0, 0)) (p2 := 35) rfl rfl rfl rfl ?_
  refine q_load (v := (6, 237, 0)) (p2 := 36) rfl rfl rfl rfl ?_
  refine q_getv (v := (6, 452, 0)) (p2 := 37) rfl hS.1.choose_spec.1 (by decide) hS.1.choose_spec.2.2.2.2.2.2.2.2.2.2.2.2.2.2.2.2.2.1 rfl ?_
  refine q_alen (p2 := 38) rfl hOV.1 rfl (by omega) rfl ?_
  refine q_icmp_s (p2 := 39) rfl (by decide) (by omega) (by omega) rfl (fun hb => absurd hb (show ¬ (¬ (0 < 64)) by omega)) (fun _ => ?_)
  refine q_load (v := (6, 237, 0)) (p2 := 40) rfl rfl rfl rfl ?_
  refine q_getv (v := (6, 452, 0)) (p2 := 41) rfl hS.1.choose_spec.1 (by decide) hS.1.choose_spec.2.2.2.2.2.2.2.2.2.2.2.2.2.2.2.2.2.1 rfl ?_
  refine q_load (v := (0, 0, 0)) (p2 := 42) rfl rfl rfl rfl ?_
  refine q_const (p2 := 43) rfl rfl ?_
  refine q_load (v := (6, 237, 0)) (p2 := 44) rfl rfl rfl rfl ?_
  refine q_getv (v := (6, 450, 0)) (p2 := 45) rfl hS.1.choose_spec.1 (by decide) hS.1.choose_spec.2.2.2.2.2.2.2.2.2.2.2.2.2.1 rfl ?_
  refine q_load (v := (0, 0, 0)) (p2 := 46) rfl rfl rfl rfl ?_
  refine q_const (p2 := 47) rfl rfl ?_
  refine q_iop (w := 0 + 1) (z := 1) (p2 := 48) rfl (xo_add 0 1) (by decide) rfl ?_
  refine q_aldT (tag := 0) (v := 1) (p2 := 49) rfl hC (by omega) (by omega) hc1 rfl ?_
  refine q_iop (w := 1 <<< (1 % 32)) (z := 2) (p2 := 50) rfl (xo_shl 1 1) (by decide) rfl ?_
  refine q_astE (v := (0, 2, 0)) (w := (0, 2, 0)) (p2 := 51) rfl hOV.1 (by omega) (by omega) (x_ok_0 rfl) (x_nv_same rfl (by decide)) rfl (fun φ1 f1 hh1 hg1 ho1 fr1 => ?_)
  have hs1 := zq_OV_st_452 hOV hh1 hg1 ho1 fr1
  refine q_load (v := (6, 237, 0)) (p2 := 52) rfl rfl rfl rfl ?_
  have hm2 := (x_sch_at hS (fun j h1 h2 => (fr1 j (by omega))))
  refine q_getv (v := (6, 453, 0)) (p2 := 53) rfl hm2.1.choose_spec.1 (by decide) hm2.1.choose_spec.2.2.2.2.2.2.2.2.2.2.2.2.2.2.2.2.2.2.1 rfl ?_
  refine q_load (v := (0, 0, 0)) (p2 := 54) rfl rfl rfl rfl ?_
  refine q_load (v := (0, 3, 0)) (p2 := 55) rfl rfl rfl rfl ?_
  refine q_load (v := (6, 237, 0)) (p2 := 56) rfl rfl rfl rfl ?_
  refine q_getv (v := (6, 450, 0)) (p2 := 57) rfl hm2.1.choose_spec.1 (by decide) hm2.1.choose_spec.2.2.2.2.2.2.2.2.2.2.2.2.2.1 rfl ?_
  refine q_load (v := (0, 0, 0)) (p2 := 58) rfl rfl rfl rfl ?_
  refine q_const (p2 := 59) rfl rfl ?_
  refine q_iop (w := 0 + 1) (z := 1) (p2 := 60) rfl (xo_add 0 1) (by decide) rfl ?_
  have hm3 := (zq_co_at hC (fr1 450 (by decide)))
  refine q_aldT (tag := 0) (v := 1) (p2 := 61) rfl hm3 (by omega) (by omega) hc1 rfl ?_
  refine q_iop (w := 3 >>> (1 % 32)) (z := 1) (p2 := 62) rfl (xo_shr (show 3 < 2147483648 by decide) 1) (by decide) rfl ?_
  refine q_const (p2 := 63) rfl rfl ?_
  refine q_iop (w := 1 &&& 1) (z := 1) (p2 := 64) rfl (xo_and 1 1) (by decide) rfl ?_
  refine q_const (p2 := 65) rfl rfl ?_
  refine q_icmp_s (p2 := 66) rfl (by decide) (by omega) (by omega) rfl (fun hb => absurd hb (show ¬ (¬ (1 = 1)) by omega)) (fun _ => ?_)
  refine q_const (p2 := 67) rfl rfl ?_
  refine q_goto rfl ?_
  refine q_astE (v := (0, 1, 0)) (w := (0, 1, 0)) (p2 := 70) rfl hs1.2 (by omega) (by omega) (x_ok_0 rfl) (x_nv_3 (by omega)) rfl (fun φ4 f4 hh4 hg4 ho4 fr4 => ?_)
  have hs4 := zq_OV_st_453 hs1 hh4 hg4 ho4 fr4
  refine q_iinc (z := 1) (loc2 := [(6, 237, 0), (0, 0, 0), (0, 3, 0), (0, 1, 0), (0, 0, 0)]) (p2 := 71) rfl rfl (by decide) rfl rfl ?_
  refine q_iinc (z := 2) (loc2 := [(6, 237, 0), (0, 0, 0), (0, 3, 0), (0, 1, 0), (0, 2, 0)]) (p2 := 72) rfl rfl (by decide) rfl rfl ?_
  refine q_goto rfl ?_
  refine q_load (v := (0, 2, 0)) (p2 := 5) rfl rfl rfl rfl ?_
  refine q_if0_s (p2 := 6) rfl (by decide) (by omega) rfl (fun hb => absurd hb (show ¬ (2 < 0) by omega)) (fun _ => ?_)
  refine q_load (v := (0, 2, 0)) (p2 := 7) rfl rfl rfl rfl ?_
  refine q_const (p2 := 8) rfl rfl ?_
  refine q_iop (w := 2 + 1) (z := 3) (p2 := 9) rfl (xo_add 2 1) (by decide) rfl ?_
  refine q_load (v := (6, 237, 0)) (p2 := 10) rfl rfl rfl rfl ?_
  have hm5 := (x_sch_at hm2 (fun j h1 h2 => (fr4 j (by omega))))
  refine q_getv (v := (6, 450, 0)) (p2 := 11) rfl hm5.1.choose_spec.1 (by decide) hm5.1.choose_spec.2.2.2.2.2.2.2.2.2.2.2.2.2.1 rfl ?_
  have hm6 := (zq_co_at hm3 (fr4 450 (by decide)))
  refine q_alen (p2 := 12) rfl hm6 rfl (by omega) rfl ?_
  refine q_icmp_s (p2 := 13) rfl (by decide) (by omega) (by omega) rfl (fun hb => absurd hb (show ¬ (¬ (3 < 12288)) by omega)) (fun _ => ?_)
  refine q_load (v := (6, 237, 0)) (p2 := 14) rfl rfl rfl rfl ?_
  refine q_getv (v := (6, 450, 0)) (p2 := 15) rfl hm5.1.choose_spec.1 (by decide) hm5.1.choose_spec.2.2.2.2.2.2.2.2.2.2.2.2.2.1 rfl ?_
  refine q_load (v := (0, 2, 0)) (p2 := 16) rfl rfl rfl rfl ?_
  refine q_aldT (tag := 0) (v := 1) (p2 := 17) rfl hm6 (by omega) (by omega) hc2 rfl ?_
  refine q_if0_s (p2 := 18) rfl (by decide) (by omega) rfl (fun hb => absurd hb (show ¬ (1 = 0) by omega)) (fun _ => ?_)
  refine q_load (v := (6, 237, 0)) (p2 := 19) rfl rfl rfl rfl ?_
  refine q_getv (v := (6, 450, 0)) (p2 := 20) rfl hm5.1.choose_spec.1 (by decide) hm5.1.choose_spec.2.2.2.2.2.2.2.2.2.2.2.2.2.1 rfl ?_
  refine q_load (v := (0, 2, 0)) (p2 := 21) rfl rfl rfl rfl ?_
  refine q_aldT (tag := 0) (v := 1) (p2 := 22) rfl hm6 (by omega) (by omega) hc2 rfl ?_
  refine q_const (p2 := 23) rfl rfl ?_
  refine q_icmp_s (p2 := 24) rfl (by decide) (by omega) (by omega) rfl (fun _ => ?_) (fun hb => absurd (show 1 = 1 by omega) hb)
  refine q_load (v := (0, 1, 0)) (p2 := 35) rfl rfl rfl rfl ?_
  refine q_load (v := (6, 237, 0)) (p2 := 36) rfl rfl rfl rfl ?_
  refine q_getv (v := (6, 452, 0)) (p2 := 37) rfl hm5.1.choose_spec.1 (by decide) hm5.1.choose_spec.2.2.2.2.2.2.2.2.2.2.2.2.2.2.2.2.2.1 rfl ?_
  refine q_alen (p2 := 38) rfl hs4.1 rfl (by omega) rfl ?_
  refine q_icmp_s (p2 := 39) rfl (by decide) (by omega) (by omega) rfl (fun hb => absurd hb (show ¬ (¬ (1 < 64)) by omega)) (fun _ => ?_)
  refine q_load (v := (6, 237, 0)) (p2 := 40) rfl rfl rfl rfl ?_
  refine q_getv (v := (6, 452, 0)) (p2 := 41) rfl hm5.1.choose_spec.1 (by decide) hm5.1.choose_spec.2.2.2.2.2.2.2.2.2.2.2.2.2.2.2.2.2.1 rfl ?_
  refine q_load (v := (0, 1, 0)) (p2 := 42) rfl rfl rfl rfl ?_
  refine q_const (p2 := 43) rfl rfl ?_
  refine q_load (v := (6, 237, 0)) (p2 := 44) rfl rfl rfl rfl ?_
  refine q_getv (v := (6, 450, 0)) (p2 := 45) rfl hm5.1.choose_spec.1 (by decide) hm5.1.choose_spec.2.2.2.2.2.2.2.2.2.2.2.2.2.1 rfl ?_
  refine q_load (v := (0, 2, 0)) (p2 := 46) rfl rfl rfl rfl ?_
  refine q_const (p2 := 47) rfl rfl ?_
  refine q_iop (w := 2 + 1) (z := 3) (p2 := 48) rfl (xo_add 2 1) (by decide) rfl ?_
  refine q_aldT (tag := 0) (v := 2) (p2 := 49) rfl hm6 (by omega) (by omega) hc3 rfl ?_
  refine q_iop (w := 1 <<< (2 % 32)) (z := 4) (p2 := 50) rfl (xo_shl 1 2) (by decide) rfl ?_
  refine q_astE (v := (0, 4, 0)) (w := (0, 4, 0)) (p2 := 51) rfl hs4.1 (by omega) (by omega) (x_ok_0 rfl) (x_nv_same rfl (by decide)) rfl (fun φ7 f7 hh7 hg7 ho7 fr7 => ?_)
  have hs7 := zq_OV_st_452 hs4 hh7 hg7 ho7 fr7
  refine q_load (v := (6, 237, 0)) (p2 := 52) rfl rfl rfl rfl ?_
  have hm8 := (x_sch_at hm5 (fun j h1 h2 => (fr7 j (by omega))))
  refine q_getv (v := (6, 453, 0)) (p2 := 53) rfl hm8.1.choose_spec.1 (by decide) hm8.1.choose_spec.2.2.2.2.2.2.2.2.2.2.2.2.2.2.2.2.2.2.1 rfl ?_
  refine q_load (v := (0, 1, 0)) (p2 := 54) rfl rfl rfl rfl ?_
  refine q_load (v := (0, 3, 0)) (p2 := 55) rfl rfl rfl rfl ?_
  refine q_load (v := (6, 237, 0)) (p2 := 56) rfl rfl rfl rfl ?_
  refine q_getv (v := (6, 450, 0)) (p2 := 57) rfl hm8.1.choose_spec.1 (by decide) hm8.1.choose_spec.2.2.2.2.2.2.2.2.2.2.2.2.2.1 rfl ?_
  refine q_load (v := (0, 2, 0)) (p2 := 58) rfl rfl rfl rfl ?_
  refine q_const (p2 := 59) rfl rfl ?_
  refine q_iop (w := 2 + 1) (z := 3) (p2 := 60) rfl (xo_add 2 1) (by decide) rfl ?_
  have hm9 := (zq_co_at hm6 (fr7 450 (by decide)))
  refine q_aldT (tag := 0) (v := 2) (p2 := 61) rfl hm9 (by omega) (by omega) hc3 rfl ?_
  refine q_iop (w := 3 >>> (2 % 32)) (z := 0) (p2 := 62) rfl (xo_shr (show 3 < 2147483648 by decide) 2) (by decide) rfl ?_
  refine q_const (p2 := 63) rfl rfl ?_
  refine q_iop (w := 0 &&& 1) (z := 0) (p2 := 64) rfl (xo_and 0 1) (by decide) rfl ?_
  refine q_const (p2 := 65) rfl rfl ?_
  refine q_icmp_s (p2 := 66) rfl (by decide) (by omega) (by omega) rfl (fun _ => ?_) (fun hb => absurd (show ¬ (0 = 1) by omega) hb)
  refine q_const (p2 := 69) rfl rfl ?_
  refine q_astE (v := (0, 0, 0)) (w := (0, 0, 0)) (p2 := 70) rfl hs7.2 (by omega) (by omega) (x_ok_0 rfl) (x_nv_3 (by omega)) rfl (fun φ10 f10 hh10 hg10 ho10 fr10 => ?_)
  have hs10 := zq_OV_st_453 hs7 hh10 hg10 ho10 fr10
  refine q_iinc (z := 2) (loc2 := [(6, 237, 0), (0, 0, 0), (0, 3, 0), (0, 2, 0), (0, 2, 0)]) (p2 := 71) rfl rfl (by decide) rfl rfl ?_
  refine q_iinc (z := 4) (loc2 := [(6, 237, 0), (0, 0, 0), (0, 3, 0), (0, 2, 0), (0, 4, 0)]) (p2 := 72) rfl rfl (by decide) rfl rfl ?_
  refine q_goto rfl ?_
  refine q_load (v := (0, 4, 0)) (p2 := 5) rfl rfl rfl rfl ?_
  refine q_if0_s (p2 := 6) rfl (by decide) (by omega) rfl (fun hb => absurd hb (show ¬ (4 < 0) by omega)) (fun _ => ?_)
  refine q_load (v := (0, 4, 0)) (p2 := 7) rfl rfl rfl rfl ?_
  refine q_const (p2 := 8) rfl rfl ?_
  refine q_iop (w := 4 + 1) (z := 5) (p2 := 9) rfl (xo_add 4 1) (by decide) rfl ?_
  refine q_load (v := (6, 237, 0)) (p2 := 10) rfl rfl rfl rfl ?_
  have hm11 := (x_sch_at hm8 (fun j h1 h2 => (fr10 j (by omega))))
  refine q_getv (v := (6, 450, 0)) (p2 := 11) rfl hm11.1.choose_spec.1 (by decide) hm11.1.choose_spec.2.2.2.2.2.2.2.2.2.2.2.2.2.1 rfl ?_
  have hm12 := (zq_co_at hm9 (fr10 450 (by decide)))
  refine q_alen (p2 := 12) rfl hm12 rfl (by omega) rfl ?_
  refine q_icmp_s (p2 := 13) rfl (by decide) (by omega) (by omega) rfl (fun hb => absurd hb (show ¬ (¬ (5 < 12288)) by omega)) (fun _ => ?_)
  refine q_load (v := (6, 237, 0)) (p2 := 14) rfl rfl rfl rfl ?_
  refine q_getv (v := (6, 450, 0)) (p2 := 15) rfl hm11.1.choose_spec.1 (by decide) hm11.1.choose_spec.2.2.2.2.2.2.2.2.2.2.2.2.2.1 rfl ?_
  refine q_load (v := (0, 4, 0)) (p2 := 16) rfl rfl rfl rfl ?_
  refine q_aldT (tag := 0) (v := 2) (p2 := 17) rfl hm12 (by omega) (by omega) hc4 rfl ?_
  refine q_if0_s (p2 := 18) rfl (by decide) (by omega) rfl (fun hb => absurd hb (show ¬ (2 = 0) by omega)) (fun _ => ?_)
  refine q_load (v := (6, 237, 0)) (p2 := 19) rfl rfl rfl rfl ?_
  refine q_getv (v := (6, 450, 0)) (p2 := 20) rfl hm11.1.choose_spec.1 (by decide) hm11.1.choose_spec.2.2.2.2.2.2.2.2.2.2.2.2.2.1 rfl ?_
  refine q_load (v := (0, 4, 0)) (p2 := 21) rfl rfl rfl rfl ?_
  refine q_aldT (tag := 0) (v := 2) (p2 := 22) rfl hm12 (by omega) (by omega) hc4 rfl ?_
  refine q_const (p2 := 23) rfl rfl ?_
  refine q_icmp_s (p2 := 24) rfl (by decide) (by omega) (by omega) rfl (fun hb => absurd hb (show ¬ (2 = 1) by omega)) (fun _ => ?_)
  refine q_load (v := (6, 237, 0)) (p2 := 25) rfl rfl rfl rfl ?_
  refine q_load (v := (6, 237, 0)) (p2 := 26) rfl rfl rfl rfl ?_
  refine q_getv (v := (6, 450, 0)) (p2 := 27) rfl hm11.1.choose_spec.1 (by decide) hm11.1.choose_spec.2.2.2.2.2.2.2.2.2.2.2.2.2.1 rfl ?_
  refine q_load (v := (0, 4, 0)) (p2 := 28) rfl rfl rfl rfl ?_
  refine q_aldT (tag := 0) (v := 2) (p2 := 29) rfl hm12 (by omega) (by omega) hc4 rfl ?_
  refine q_load (v := (0, 2, 0)) (p2 := 30) rfl rfl rfl rfl ?_
  refine q_load (v := (0, 3, 0)) (p2 := 31) rfl rfl rfl rfl ?_
  refine q_callK (xs := [(0, 3, 0), (0, 2, 0), (0, 2, 0), (6, 237, 0)]) (p2 := 32) rfl rfl rfl rfl (x_rcv_s 237 hm11.1.choose_spec.1) rfl rfl ?_
  refine x_f_of rfl ?_
  refine q_load (v := (0, 2, 0)) (p2 := 1) rfl rfl rfl rfl ?_
  refine q_const (p2 := 2) rfl rfl ?_
  refine q_iop (w := 2 + (4294967296 - 2 % 4294967296)) (z := 0) (p2 := 3) rfl (xo_sub 2 2) (by decide) rfl ?_
  refine q_store (loc2 := [(6, 237, 0), (0, 2, 0), (0, 2, 0), (0, 3, 0), (0, 0, 0), (11, 0, 0), (11, 0, 0), (11, 0, 0)]) (p2 := 4) rfl rfl rfl rfl rfl ?_
  refine q_load (v := (0, 2, 0)) (p2 := 5) rfl rfl rfl rfl ?_
  refine q_const (p2 := 6) rfl rfl ?_
  refine q_iop (w := 2 + (4294967296 - 1 % 4294967296)) (z := 1) (p2 := 7) rfl (xo_sub 2 1) (by decide) rfl ?_
  refine q_store (loc2 := [(6, 237, 0), (0, 2, 0), (0, 2, 0), (0, 3, 0), (0, 0, 0), (0, 1, 0), (11, 0, 0), (11, 0, 0)]) (p2 := 8) rfl rfl rfl rfl rfl ?_
  refine q_load (v := (0, 0, 0)) (p2 := 9) rfl rfl rfl rfl ?_
  refine q_if0_s (p2 := 10) rfl (by decide) (by omega) rfl (fun hb => absurd hb (show ¬ (0 < 0) by omega)) (fun _ => ?_)
  refine q_load (v := (0, 1, 0)) (p2 := 11) rfl rfl rfl rfl ?_
  refine q_load (v := (6, 237, 0)) (p2 := 12) rfl rfl rfl rfl ?_
  refine q_getv (v := (6, 452, 0)) (p2 := 13) rfl hm11.1.choose_spec.1 (by decide) hm11.1.choose_spec.2.2.2.2.2.2.2.2.2.2.2.2.2.2.2.2.2.1 rfl ?_
  refine q_alen (p2 := 14) rfl hs10.1 rfl (by omega) rfl ?_
  refine q_icmp_s (p2 := 15) rfl (by decide) (by omega) (by omega) rfl (fun _ => ?_) (fun hb => absurd (show 1 < 64 by omega) hb)
  refine q_load (v := (6, 237, 0)) (p2 := 18) rfl rfl rfl rfl ?_
  refine q_getv (v := (6, 453, 0)) (p2 := 19) rfl hm11.1.choose_spec.1 (by decide) hm11.1.choose_spec.2.2.2.2.2.2.2.2.2.2.2.2.2.2.2.2.2.2.1 rfl ?_
  refine q_load (v := (0, 0, 0)) (p2 := 20) rfl rfl rfl rfl ?_
  refine q_aldT (tag := 0) (v := 1) (p2 := 21) rfl hs10.2 (by omega) (by omega) ((x_s_ne (by decide)).trans (x_s_eq)) rfl ?_
  refine q_if0_s (p2 := 22) rfl (by decide) (by omega) rfl (fun hb => absurd hb (show ¬ (1 = 0) by omega)) (fun _ => ?_)
  refine q_load (v := (6, 237, 0)) (p2 := 23) rfl rfl rfl rfl ?_
  refine q_getv (v := (6, 453, 0)) (p2 := 24) rfl hm11.1.choose_spec.1 (by decide) hm11.1.choose_spec.2.2.2.2.2.2.2.2.2.2.2.2.2.2.2.2.2.2.1 rfl ?_
  refine q_load (v := (0, 1, 0)) (p2 := 25) rfl rfl rfl rfl ?_
  refine q_aldT (tag := 0) (v := 0) (p2 := 26) rfl hs10.2 (by omega) (by omega) (x_s_eq) rfl ?_
  refine q_if0_s (p2 := 27) rfl (by decide) (by omega) rfl (fun _ => ?_) (fun hb => absurd (show 0 = 0 by omega) hb)
  refine q_const (p2 := 30) rfl rfl ?_
  refine q_store (loc2 := [(6, 237, 0), (0, 2, 0), (0, 2, 0), (0, 3, 0), (0, 0, 0), (0, 1, 0), (0, 0, 0), (11, 0, 0)]) (p2 := 31) rfl rfl rfl rfl rfl ?_
  refine q_load (v := (6, 237, 0)) (p2 := 32) rfl rfl rfl rfl ?_
  refine q_getv (v := (6, 453, 0)) (p2 := 33) rfl hm11.1.choose_spec.1 (by decide) hm11.1.choose_spec.2.2.2.2.2.2.2.2.2.2.2.2.2.2.2.2.2.2.1 rfl ?_
  refine q_load (v := (0, 0, 0)) (p2 := 34) rfl rfl rfl rfl ?_
  refine q_aldT (tag := 0) (v := 1) (p2 := 35) rfl hs10.2 (by omega) (by omega) ((x_s_ne (by decide)).trans (x_s_eq)) rfl ?_
  refine q_if0_s (p2 := 36) rfl (by decide) (by omega) rfl (fun hb => absurd hb (show ¬ (1 = 0) by omega)) (fun _ => ?_)
  refine q_load (v := (0, 3, 0)) (p2 := 37) rfl rfl rfl rfl ?_
  refine q_load (v := (6, 237, 0)) (p2 := 38) rfl rfl rfl rfl ?_
  refine q_getv (v := (6, 452, 0)) (p2 := 39) rfl hm11.1.choose_spec.1 (by decide) hm11.1.choose_spec.2.2.2.2.2.2.2.2.2.2.2.2.2.2.2.2.2.1 rfl ?_
  refine q_load (v := (0, 1, 0)) (p2 := 40) rfl rfl rfl rfl ?_
  refine q_aldT (tag := 0) (v := 4) (p2 := 41) rfl hs10.1 (by omega) (by omega) (x_s_eq) rfl ?_
  refine q_iop (w := 3 &&& 4) (z := 0) (p2 := 42) rfl (xo_and 3 4) (by decide) rfl ?_
  refine q_if0_s (p2 := 43) rfl (by decide) (by omega) rfl (fun _ => ?_) (fun hb => absurd (show 0 = 0 by omega) hb)
  refine q_const (p2 := 56) rfl rfl ?_
  refine q_goto rfl ?_
  refine q_store (loc2 := [(6, 237, 0), (0, 2, 0), (0, 2, 0), (0, 3, 0), (0, 0, 0), (0, 1, 0), (0, 0, 0), (0, 1, 0)]) (p2 := 59) rfl rfl rfl rfl rfl ?_
  refine q_load (v := (6, 237, 0)) (p2 := 60) rfl rfl rfl rfl ?_
  refine q_getv (v := (6, 453, 0)) (p2 := 61) rfl hm11.1.choose_spec.1 (by decide) hm11.1.choose_spec.2.2.2.2.2.2.2.2.2.2.2.2.2.2.2.2.2.2.1 rfl ?_
  refine q_load (v := (0, 0, 0)) (p2 := 62) rfl rfl rfl rfl ?_
  refine q_load (v := (0, 2, 0)) (p2 := 63) rfl rfl rfl rfl ?_
  refine q_const (p2 := 64) rfl rfl ?_
  refine q_icmp_s (p2 := 65) rfl (by decide) (by omega) (by omega) rfl (fun _ => ?_) (fun hb => absurd (show 2 = 2 by omega) hb)
  refine q_load (v := (0, 2, 0)) (p2 := 68) rfl rfl rfl rfl ?_
  refine q_const (p2 := 69) rfl rfl ?_
  refine q_icmp_s (p2 := 70) rfl (by decide) (by omega) (by omega) rfl (fun hb => absurd hb (show ¬ (2 = 3) by omega)) (fun _ => ?_)
  refine q_load (v := (0, 1, 0)) (p2 := 71) rfl rfl rfl rfl ?_
  refine q_if0_s (p2 := 72) rfl (by decide) (by omega) rfl (fun hb => absurd hb (show ¬ (1 = 0) by omega)) (fun _ => ?_)
  refine q_const (p2 := 73) rfl rfl ?_
  refine q_goto rfl ?_
  refine q_astE (v := (0, 1, 0)) (w := (0, 1, 0)) (p2 := 76) rfl hs10.2 (by omega) (by omega) (x_ok_0 rfl) (x_nv_3 (by omega)) rfl (fun φ13 f13 hh13 hg13 ho13 fr13 => ?_)
  have hs13 := zq_OV_st_453 hs10 hh13 hg13 ho13 fr13
  refine q_load (v := (6, 237, 0)) (p2 := 77) rfl rfl rfl rfl ?_
  have hm14 := (x_sch_at hm11 (fun j h1 h2 => (fr13 j (by omega))))
  refine q_getv (v := (6, 452, 0)) (p2 := 78) rfl hm14.1.choose_spec.1 (by decide) hm14.1.choose_spec.2.2.2.2.2.2.2.2.2.2.2.2.2.2.2.2.2.1 rfl ?_
  refine q_load (v := (0, 0, 0)) (p2 := 79) rfl rfl rfl rfl ?_
  refine q_dup2 (p2 := 80) rfl rfl rfl rfl ?_
  refine q_aldT (tag := 0) (v := 2) (p2 := 81) rfl hs13.1 (by omega) (by omega) ((x_s_ne (by decide)).trans (x_s_eq)) rfl ?_
  refine q_load (v := (6, 237, 0)) (p2 := 82) rfl rfl rfl rfl ?_
  refine q_getv (v := (6, 452, 0)) (p2 := 83) rfl hm14.1.choose_spec.1 (by decide) hm14.1.choose_spec.2.2.2.2.2.2.2.2.2.2.2.2.2.2.2.2.2.1 rfl ?_
  refine q_load (v := (0, 1, 0)) (p2 := 84) rfl rfl rfl rfl ?_
  refine q_aldT (tag := 0) (v := 4) (p2 := 85) rfl hs13.1 (by omega) (by omega) (x_s_eq) rfl ?_
  refine q_iop (w := 2 ||| 4) (z := 6) (p2 := 86) rfl (xo_or 2 4) (by decide) rfl ?_
  refine q_astE (v := (0, 6, 0)) (w := (0, 6, 0)) (p2 := 87) rfl hs13.1 (by omega) (by omega) (x_ok_0 rfl) (x_nv_same rfl (by decide)) rfl (fun φ15 f15 hh15 hg15 ho15 fr15 => ?_)
  have hs15 := zq_OV_st_452 hs13 hh15 hg15 ho15 fr15
  refine q_load (v := (0, 1, 0)) (p2 := 88) rfl rfl rfl rfl ?_
  refine q_retv (v := (0, 1, 0)) rfl rfl ⟨rfl, by omega, by omega, ?_⟩
  refine q_store (loc2 := [(6, 237, 0), (0, 0, 0), (0, 3, 0), (0, 1, 0), (0, 4, 0)]) (p2 := 33) rfl rfl rfl rfl rfl ?_
  refine q_goto rfl ?_
  refine q_iinc (z := 6) (loc2 := [(6, 237, 0), (0, 0, 0), (0, 3, 0), (0, 1, 0), (0, 6, 0)]) (p2 := 72) rfl rfl (by decide) rfl rfl ?_
  refine q_goto rfl ?_
  refine q_load (v := (0, 6, 0)) (p2 := 5) rfl rfl rfl rfl ?_
  refine q_if0_s (p2 := 6) rfl (by decide) (by omega) rfl (fun hb => absurd hb (show ¬ (6 < 0) by omega)) (fun _ => ?_)
  refine q_load (v := (0, 6, 0)) (p2 := 7) rfl rfl rfl rfl ?_
  refine q_const (p2 := 8) rfl rfl ?_
  refine q_iop (w := 6 + 1) (z := 7) (p2 := 9) rfl (xo_add 6 1) (by decide) rfl ?_
  refine q_load (v := (6, 237, 0)) (p2 := 10) rfl rfl rfl rfl ?_
  have hm16 := (x_sch_at hm14 (fun j h1 h2 => (fr15 j (by omega))))
  refine q_getv (v := (6, 450, 0)) (p2 := 11) rfl hm16.1.choose_spec.1 (by decide) hm16.1.choose_spec.2.2.2.2.2.2.2.2.2.2.2.2.2.1 rfl ?_
  have hm17 := (zq_co_at hm12 ((fr15 450 (by decide)).trans (fr13 450 (by decide))))
  refine q_alen (p2 := 12) rfl hm17 rfl (by omega) rfl ?_
  refine q_icmp_s (p2 := 13) rfl (by decide) (by omega) (by omega) rfl (fun hb => absurd hb (show ¬ (¬ (7 < 12288)) by omega)) (fun _ => ?_)
  refine q_load (v := (6, 237, 0)) (p2 := 14) rfl rfl rfl rfl ?_
  refine q_getv (v := (6, 450, 0)) (p2 := 15) rfl hm16.1.choose_spec.1 (by decide) hm16.1.choose_spec.2.2.2.2.2.2.2.2.2.2.2.2.2.1 rfl ?_
  refine q_load (v := (0, 6, 0)) (p2 := 16) rfl rfl rfl rfl ?_
  refine q_aldT (tag := 0) (v := 0) (p2 := 17) rfl hm17 (by omega) (by omega) hc6 rfl ?_
  refine q_if0_s (p2 := 18) rfl (by decide) (by omega) rfl (fun _ => ?_) (fun hb => absurd (show 0 = 0 by omega) hb)
  refine q_load (v := (0, 1, 0)) (p2 := 74) rfl rfl rfl rfl ?_
  refine q_if0_s (p2 := 75) rfl (by decide) (by omega) rfl (fun hb => absurd hb (show ¬ (1 = 0) by omega)) (fun _ => ?_)
  refine q_load (v := (0, 3, 0)) (p2 := 76) rfl rfl rfl rfl ?_
  refine q_load (v := (6, 237, 0)) (p2 := 77) rfl rfl rfl rfl ?_
  refine q_getv (v := (6, 452, 0)) (p2 := 78) rfl hm16.1.choose_spec.1 (by decide) hm16.1.choose_spec.2.2.2.2.2.2.2.2.2.2.2.2.2.2.2.2.2.1 rfl ?_
  refine q_const (p2 := 79) rfl rfl ?_
  refine q_aldT (tag := 0) (v := 6) (p2 := 80) rfl hs15.1 (by omega) (by omega) (x_s_eq) rfl ?_
  refine q_iop (w := 3 &&& 6) (z := 2) (p2 := 81) rfl (xo_and 3 6) (by decide) rfl ?_
  refine q_if0_s (p2 := 82) rfl (by decide) (by omega) rfl (fun hb => absurd hb (show ¬ (2 = 0) by omega)) (fun _ => ?_)
  refine q_load (v := (6, 237, 0)) (p2 := 83) rfl rfl rfl rfl ?_
  refine q_getv (v := (6, 453, 0)) (p2 := 84) rfl hm16.1.choose_spec.1 (by decide) hm16.1.choose_spec.2.2.2.2.2.2.2.2.2.2.2.2.2.2.2.2.2.2.1 rfl ?_
  refine q_const (p2 := 85) rfl rfl ?_
  refine q_aldT (tag := 0) (v := 1) (p2 := 86) rfl hs15.2 (by omega) (by omega) (x_s_eq) rfl ?_
  refine q_if0_s (p2 := 87) rfl (by decide) (by omega) rfl (fun hb => absurd hb (show ¬ (1 = 0) by omega)) (fun _ => ?_)
  refine q_const (p2 := 88) rfl rfl ?_
  refine q_goto rfl ?_
  refine q_retv (v := (0, 1, 0)) rfl rfl ⟨rfl, by omega, by omega, ?_⟩
  refine q_if0_s (p2 := 64) rfl (by decide) (by omega) rfl (fun _ => ?_) (fun hb => absurd (show ¬ (1 = 0) by omega) hb)
  refine q_iinc (z := 1) (loc2 := [(6, 237, 0), (0, 3, 0), (0, 1, 0)]) (p2 := 67) rfl rfl (by decide) rfl rfl ?_
  refine q_goto rfl ?_
  refine q_load (v := (0, 1, 0)) (p2 := 35) rfl rfl rfl rfl ?_
  refine q_load (v := (6, 237, 0)) (p2 := 36) rfl rfl rfl rfl ?_
  refine q_getv (v := (6, 246, 0)) (p2 := 37) rfl hm16.1.choose_spec.1 (by decide) hm16.1.choose_spec.2.2.2.1 rfl ?_
  refine q_const (p2 := 38) rfl rfl ?_
  refine q_aldv (v := (0, 3, 0)) (p2 := 39) rfl (x_sc_246 hm16) (by omega) (by omega) rfl rfl ?_
  refine q_icmp_s (p2 := 40) rfl (by decide) (by omega) (by omega) rfl (fun hb => absurd hb (show ¬ (¬ (1 < 3)) by omega)) (fun _ => ?_)
  refine q_load (v := (0, 3, 0)) (p2 := 41) rfl rfl rfl rfl ?_
  refine q_load (v := (0, 1, 0)) (p2 := 42) rfl rfl rfl rfl ?_
  refine q_iop (w := 3 >>> (1 % 32)) (z := 1) (p2 := 43) rfl (xo_shr (show 3 < 2147483648 by decide) 1) (by decide) rfl ?_
  refine q_const (p2 := 44) rfl rfl ?_
  refine q_iop (w := 1 &&& 1) (z := 1) (p2 := 45) rfl (xo_and 1 1) (by decide) rfl ?_
  refine q_const (p2 := 46) rfl rfl ?_
  refine q_icmp_s (p2 := 47) rfl (by decide) (by omega) (by omega) rfl (fun hb => absurd hb (show ¬ (¬ (1 = 1)) by omega)) (fun _ => ?_)
  refine q_load (v := (6, 237, 0)) (p2 := 48) rfl rfl rfl rfl ?_
  refine q_getv (v := (6, 257, 0)) (p2 := 49) rfl hm16.1.choose_spec.1 (by decide) hm16.1.choose_spec.2.2.2.2.2.2.1 rfl ?_
  refine q_load (v := (0, 1, 0)) (p2 := 50) rfl rfl rfl rfl ?_
  refine q_aldv (v := (6, 259, 0)) (p2 := 51) rfl (x_sc_257 hm16) (by omega) (by omega) rfl rfl ?_
  refine q_const (p2 := 52) rfl rfl ?_
  refine q_aldv (v := (0, 4294967293, 0)) (p2 := 53) rfl (x_sc_259 hm16) (by omega) (by omega) rfl rfl ?_
  refine q_if0 (p2 := 54) rfl (by decide) rfl (fun _ => ?_) (fun hb => absurd (show 2147483645 < 2147483648 by decide) hb)
  refine q_iinc (z := 2) (loc2 := [(6, 237, 0), (0, 3, 0), (0, 2, 0)]) (p2 := 67) rfl rfl (by decide) rfl rfl ?_
  refine q_goto rfl ?_
  refine q_load (v := (0, 2, 0)) (p2 := 35) rfl rfl rfl rfl ?_
  refine q_load (v := (6, 237, 0)) (p2 := 36) rfl rfl rfl rfl ?_
  refine q_getv (v := (6, 246, 0)) (p2 := 37) rfl hm16.1.choose_spec.1 (by decide) hm16.1.choose_spec.2.2.2.1 rfl ?_
  refine q_const (p2 := 38) rfl rfl ?_
  refine q_aldv (v := (0, 3, 0)) (p2 := 39) rfl (x_sc_246 hm16) (by omega) (by omega) rfl rfl ?_
  refine q_icmp_s (p2 := 40) rfl (by decide) (by omega) (by omega) rfl (fun hb => absurd hb (show ¬ (¬ (2 < 3)) by omega)) (fun _ => ?_)
  refine q_load (v := (0, 3, 0)) (p2 := 41) rfl rfl rfl rfl ?_
  refine q_load (v := (0, 2, 0)) (p2 := 42) rfl rfl rfl rfl ?_
  refine q_iop (w := 3 >>> (2 % 32)) (z := 0) (p2 := 43) rfl (xo_shr (show 3 < 2147483648 by decide) 2) (by decide) rfl ?_
  refine q_const (p2 := 44) rfl rfl ?_
  refine q_iop (w := 0 &&& 1) (z := 0) (p2 := 45) rfl (xo_and 0 1) (by decide) rfl ?_
  refine q_const (p2 := 46) rfl rfl ?_
  refine q_icmp_s (p2 := 47) rfl (by decide) (by omega) (by omega) rfl (fun _ => ?_) (fun hb => absurd (show ¬ (0 = 1) by omega) hb)
  refine q_iinc (z := 3) (loc2 := [(6, 237, 0), (0, 3, 0), (0, 3, 0)]) (p2 := 67) rfl rfl (by decide) rfl rfl ?_
  refine q_goto rfl ?_
  refine q_load (v := (0, 3, 0)) (p2 := 35) rfl rfl rfl rfl ?_
  refine q_load (v := (6, 237, 0)) (p2 := 36) rfl rfl rfl rfl ?_
  refine q_getv (v := (6, 246, 0)) (p2 := 37) rfl hm16.1.choose_spec.1 (by decide) hm16.1.choose_spec.2.2.2.1 rfl ?_
  refine q_const (p2 := 38) rfl rfl ?_
  refine q_aldv (v := (0, 3, 0)) (p2 := 39) rfl (x_sc_246 hm16) (by omega) (by omega) rfl rfl ?_
  refine q_icmp_s (p2 := 40) rfl (by decide) (by omega) (by omega) rfl (fun _ => ?_) (fun hb => absurd (show ¬ (3 < 3) by omega) hb)
  refine q_const (p2 := 69) rfl rfl ?_
  refine q_retv (v := (0, 0, 0)) rfl rfl ⟨rfl, by omega, by omega, ?_⟩
  exact q_retv (v := (0, 0, 0)) rfl rfl (⟨rfl, rfl, rfl, rfl, hs15, fun j hj0 hj1 => ((fr15 j (by omega)).trans ((fr13 j (by omega)).trans ((fr10 j (by omega)).trans ((fr7 j (by omega)).trans ((fr4 j (by omega)).trans (fr1 j (by omega)))))))⟩)
theorem zc_s_reason_5 {d n sl : Nat} {φ : FH} {co : Nat → Nat} {ovn : Nat → Nat} {ovh : Nat → Nat} (hS : x_sch φ) (hC : zq_co φ co) (hOV : zq_OV φ ovn ovh) (hc0 : co 0 = 1) (hc1 : co 1 = 1) (hc2 : co 2 = 1) (hc3 : co 3 = 2) (hc4 : co 4 = 2) (hc5 : co 5 = 0) (hc6 : co 6 = 0) (hc7 : co 7 = 0) : x_f x_P (d + 4) 51 [(6, 237, 0), (0, 5, 0), (11, 0, 0)] φ n sl (x_rR (0, 0, 0) n sl (fun φ2 => zq_OV φ2 (x_s (x_s (x_s ovn 0 2) 1 4) 0 6) (x_s (x_s (x_s ovh 0 0) 1 1) 0 1) ∧ ∀ j, j ≠ 452 → j ≠ 453 → φ2 j = φ j)) := by
  refine x_f_of rfl ?_
  refine q_load (v := (0, 5, 0)) (p2 := 1) rfl rfl rfl rfl ?_
  refine q_if0_s (p2 := 2) rfl (by decide) (by omega) rfl (fun _ => ?_) (fun hb => absurd (show ¬ (5 = 0) by omega) hb)
  refine q_const (p2 := 5) rfl rfl ?_
  refine q_store (loc2 := [(6, 237, 0), (0, 5, 0), (0, 0, 0)]) (p2 := 6) rfl rfl rfl rfl rfl ?_
  refine q_load (v := (0, 0, 0)) (p2 := 7) rfl rfl rfl rfl ?_
  refine q_load (v := (6, 237, 0)) (p2 := 8) rfl rfl rfl rfl ?_
  refine q_getv (v := (6, 246, 0)) (p2 := 9) rfl hS.1.choose_spec.1 (by decide) hS.1.choose_spec.2.2.2.1 rfl ?_
  refine q_const (p2 := 10) rfl rfl ?_
  refine q_aldv (v := (0, 3, 0)) (p2 := 11) rfl (x_sc_246 hS) (by omega) (by omega) rfl rfl ?_
  refine q_icmp_s (p2 := 12) rfl (by decide) (by omega) (by omega) rfl (fun hb => absurd hb (show ¬ (¬ (0 < 3)) by omega)) (fun _ => ?_)
  refine q_load (v := (0, 5, 0)) (p2 := 13) rfl rfl rfl rfl ?_
  refine q_load (v := (0, 0, 0)) (p2 := 14) rfl rfl rfl rfl ?_
  refine q_iop (w := 5 >>> (0 % 32)) (z := 5) (p2 := 15) rfl (xo_shr (show 5 < 2147483648 by decide) 0) (by decide) rfl ?_
  refine q_const (p2 := 16) rfl rfl ?_
  refine q_iop (w := 5 &&& 1) (z := 1) (p2 := 17) rfl (xo_and 5 1) (by decide) rfl ?_
  refine q_const (p2 := 18) rfl rfl ?_
  refine q_icmp_s (p2 := 19) rfl (by decide) (by omega) (by omega) rfl (fun hb => absurd hb (show ¬ (¬ (1 = 1)) by omega)) (fun _ => ?_)
  refine q_load (v := (6, 237, 0)) (p2 := 20) rfl rfl rfl rfl ?_
  refine q_getv (v := (6, 257, 0)) (p2 := 21) rfl hS.1.choose_spec.1 (by decide) hS.1.choose_spec.2.2.2.2.2.2.1 rfl ?_
  refine q_load (v := (0, 0, 0)) (p2 := 22) rfl rfl rfl rfl ?_
  refine q_aldv (v := (6, 258, 0)) (p2 := 23) rfl (x_sc_257 hS) (by omega) (by omega) rfl rfl ?_
  refine q_const (p2 := 24) rfl rfl ?_
  refine q_aldv (v := (0, 0, 0)) (p2 := 25) rfl (x_sc_258 hS) (by omega) (by omega) rfl rfl ?_
  refine q_load (v := (0, 5, 0)) (p2 := 26) rfl rfl rfl rfl ?_
  refine q_const (p2 := 27) rfl rfl ?_
  refine q_iop (w := 5 ^^^ 4294967295) (z := 4294967290) (p2 := 28) rfl (xo_xor 5 4294967295) (by decide) rfl ?_
  refine q_iop (w := 0 &&& 4294967290) (z := 0) (p2 := 29) rfl (xo_and 0 4294967290) (by decide) rfl ?_
  refine q_if0_s (p2 := 30) rfl (by decide) (by omega) rfl (fun _ => ?_) (fun hb => absurd (show 0 = 0 by omega) hb)
  refine q_iinc (z := 1) (loc2 := [(6, 237, 0), (0, 5, 0), (0, 1, 0)]) (p2 := 33) rfl rfl (by decide) rfl rfl ?_
  refine q_goto rfl ?_
  refine q_load (v := (0, 1, 0)) (p2 := 7) rfl rfl rfl rfl ?_
  refine q_load (v := (6, 237, 0)) (p2 := 8) rfl rfl rfl rfl ?_
  refine q_getv (v := (6, 246, 0)) (p2 := 9) rfl hS.1.choose_spec.1 (by decide) hS.1.choose_spec.2.2.2.1 rfl ?_
  refine q_const (p2 := 10) rfl rfl ?_
  refine q_aldv (v := (0, 3, 0)) (p2 := 11) rfl (x_sc_246 hS) (by omega) (by omega) rfl rfl ?_
  refine q_icmp_s (p2 := 12) rfl (by decide) (by omega) (by omega) rfl (fun hb => absurd hb (show ¬ (¬ (1 < 3)) by omega)) (fun _ => ?_)
  refine q_load (v := (0, 5, 0)) (p2 := 13) rfl rfl rfl rfl ?_
  refine q_load (v := (0, 1, 0)) (p2 := 14) rfl rfl rfl rfl ?_
  refine q_iop (w := 5 >>> (1 % 32)) (z := 2) (p2 := 15) rfl (xo_shr (show 5 < 2147483648 by decide) 1) (by decide) rfl ?_
  refine q_const (p2 := 16) rfl rfl ?_
  refine q_iop (w := 2 &&& 1) (z := 0) (p2 := 17) rfl (xo_and 2 1) (by decide) rfl ?_
  refine q_const (p2 := 18) rfl rfl ?_
  refine q_icmp_s (p2 := 19) rfl (by decide) (by omega) (by omega) rfl (fun _ => ?_) (fun hb => absurd (show ¬ (0 = 1) by omega) hb)
  refine q_iinc (z := 2) (loc2 := [(6, 237, 0), (0, 5, 0), (0, 2, 0)]) (p2 := 33) rfl rfl (by decide) rfl rfl ?_
  refine q_goto rfl ?_
  refine q_load (v := (0, 2, 0)) (p2 := 7) rfl rfl rfl rfl ?_
  refine q_load (v := (6, 237, 0)) (p2 := 8) rfl rfl rfl rfl ?_
  refine q_getv (v := (6, 246, 0)) (p2 := 9) rfl hS.1.choose_spec.1 (by decide) hS.1.choose_spec.2.2.2.1 rfl ?_
  refine q_const (p2 := 10) rfl rfl ?_
  refine q_aldv (v := (0, 3, 0)) (p2 := 11) rfl (x_sc_246 hS) (by omega) (by omega) rfl rfl ?_
  refine q_icmp_s (p2 := 12) rfl (by decide) (by omega) (by omega) rfl (fun hb => absurd hb (show ¬ (¬ (2 < 3)) by omega)) (fun _ => ?_)
  refine q_load (v := (0, 5, 0)) (p2 := 13) rfl rfl rfl rfl ?_
  refine q_load (v := (0, 2, 0)) (p2 := 14) rfl rfl rfl rfl ?_
  refine q_iop (w := 5 >>> (2 % 32)) (z := 1) (p2 := 15) rfl (xo_shr (show 5 < 2147483648 by decide) 2) (by decide) rfl ?_
  refine q_const (p2 := 16) rfl rfl ?_
  refine q_iop (w := 1 &&& 1) (z := 1) (p2 := 17) rfl (xo_and 1 1) (by decide) rfl ?_
  refine q_const (p2 := 18) rfl rfl ?_
  refine q_icmp_s (p2 := 19) rfl (by decide) (by omega) (by omega) rfl (fun hb => absurd hb (show ¬ (¬ (1 = 1)) by omega)) (fun _ => ?_)
  refine q_load (v := (6, 237, 0)) (p2 := 20) rfl rfl rfl rfl ?_
  refine q_getv (v := (6, 257, 0)) (p2 := 21) rfl hS.1.choose_spec.1 (by decide) hS.1.choose_spec.2.2.2.2.2.2.1 rfl ?_
  refine q_load (v := (0, 2, 0)) (p2 := 22) rfl rfl rfl rfl ?_
  refine q_aldv (v := (6, 260, 0)) (p2 := 23) rfl (x_sc_257 hS) (by omega) (by omega) rfl rfl ?_
  refine q_const (p2 := 24) rfl rfl ?_
  refine q_aldv (v := (0, 1, 0)) (p2 := 25) rfl (x_sc_260 hS) (by omega) (by omega) rfl rfl ?_
  refine q_load (v := (0, 5, 0)) (p2 := 26) rfl rfl rfl rfl ?_
  refine q_const (p2 := 27) rfl rfl ?_
  refine q_iop (w := 5 ^^^ 4294967295) (z := 4294967290) (p2 := 28) rfl (xo_xor 5 4294967295) (by decide) rfl ?_
  refine q_iop (w := 1 &&& 4294967290) (z := 0) (p2 := 29) rfl (xo_and 1 4294967290) (by decide) rfl ?_
  refine q_if0_s (p2 := 30) rfl (by decide) (by omega) rfl (fun _ => ?_) (fun hb => absurd (show 0 = 0 by omega) hb)
  refine q_iinc (z := 3) (loc2 := [(6, 237, 0), (0, 5, 0), (0, 3, 0)]) (p2 := 33) rfl rfl (by decide) rfl rfl ?_
  refine q_goto rfl ?_
  refine q_load (v := (0, 3, 0)) (p2 := 7) rfl rfl rfl rfl ?_
  refine q_load (v := (6, 237, 0)) (p2 := 8) rfl rfl rfl rfl ?_
  refine q_getv (v := (6, 246, 0)) (p2 := 9) rfl hS.1.choose_spec.1 (by decide) hS.1.choose_spec.2.2.2.1 rfl ?_
  refine q_const (p2 := 10) rfl rfl ?_
  refine q_aldv (v := (0, 3, 0)) (p2 := 11) rfl (x_sc_246 hS) (by omega) (by omega) rfl rfl ?_
  refine q_icmp_s (p2 := 12) rfl (by decide) (by omega) (by omega) rfl (fun _ => ?_) (fun hb => absurd (show ¬ (3 < 3) by omega) hb)
  refine q_load (v := (6, 237, 0)) (p2 := 35) rfl rfl rfl rfl ?_
  refine q_load (v := (0, 5, 0)) (p2 := 36) rfl rfl rfl rfl ?_
  refine q_callK (xs := [(0, 5, 0), (6, 237, 0)]) (p2 := 37) rfl rfl rfl rfl (x_rcv_s 237 hS.1.choose_spec.1) rfl rfl ?_
  refine x_f_of rfl ?_
  refine q_load (v := (0, 5, 0)) (p2 := 1) rfl rfl rfl rfl ?_
  refine q_load (v := (0, 5, 0)) (p2 := 2) rfl rfl rfl rfl ?_
  refine q_inegz (z := 4294967291) (p2 := 3) rfl (by decide) rfl ?_
  refine q_iop (w := 5 &&& 4294967291) (z := 1) (p2 := 4) rfl (xo_and 5 4294967291) (by decide) rfl ?_
  refine q_store (loc2 := [(6, 237, 0), (0, 5, 0), (0, 1, 0), (11, 0, 0), (11, 0, 0), (11, 0, 0)]) (p2 := 5) rfl rfl rfl rfl rfl ?_
  refine q_const (p2 := 6) rfl rfl ?_
  refine q_store (loc2 := [(6, 237, 0), (0, 5, 0), (0, 1, 0), (0, 0, 0), (11, 0, 0), (11, 0, 0)]) (p2 := 7) rfl rfl rfl rfl rfl ?_
  refine q_load (v := (0, 0, 0)) (p2 := 8) rfl rfl rfl rfl ?_
  refine q_load (v := (6, 237, 0)) (p2 := 9) rfl rfl rfl rfl ?_
  refine q_getv (v := (6, 257, 0)) (p2 := 10) rfl hS.1.choose_spec.1 (by decide) hS.1.choose_spec.2.2.2.2.2.2.1 rfl ?_
  refine q_alen (p2 := 11) rfl (x_sc_257 hS) rfl (by omega) rfl ?_
  refine q_icmp_s (p2 := 12) rfl (by decide) (by omega) (by omega) rfl (fun hb => absurd hb (show ¬ (¬ (0 < 12)) by omega)) (fun _ => ?_)
  refine q_load (v := (0, 1, 0)) (p2 := 13) rfl rfl rfl rfl ?_
  refine q_load (v := (0, 5, 0)) (p2 := 14) rfl rfl rfl rfl ?_
  refine q_icmp_s (p2 := 15) rfl (by decide) (by omega) (by omega) rfl (fun hb => absurd hb (show ¬ (1 = 5) by omega)) (fun _ => ?_)
  refine q_const (p2 := 16) rfl rfl ?_
  refine q_store (loc2 := [(6, 237, 0), (0, 5, 0), (0, 1, 0), (0, 0, 0), (0, 0, 0), (11, 0, 0)]) (p2 := 17) rfl rfl rfl rfl rfl ?_
  refine q_load (v := (0, 0, 0)) (p2 := 18) rfl rfl rfl rfl ?_
  refine q_load (v := (6, 237, 0)) (p2 := 19) rfl rfl rfl rfl ?_
  refine q_getv (v := (6, 246, 0)) (p2 := 20) rfl hS.1.choose_spec.1 (by decide) hS.1.choose_spec.2.2.2.1 rfl ?_
  refine q_const (p2 := 21) rfl rfl ?_
  refine q_aldv (v := (0, 3, 0)) (p2 := 22) rfl (x_sc_246 hS) (by omega) (by omega) rfl rfl ?_
  refine q_icmp_s (p2 := 23) rfl (by decide) (by omega) (by omega) rfl (fun hb => absurd hb (show ¬ (¬ (0 < 3)) by omega)) (fun _ => ?_)
  refine q_load (v := (0, 5, 0)) (p2 := 24) rfl rfl rfl rfl ?_
  refine q_load (v := (0, 0, 0)) (p2 := 25) rfl rfl rfl rfl ?_
  refine q_iop (w := 5 >>> (0 % 32)) (z := 5) (p2 := 26) rfl (xo_shr (show 5 < 2147483648 by decide) 0) (by decide) rfl ?_
  refine q_const (p2 := 27) rfl rfl ?_
  refine q_iop (w := 5 &&& 1) (z := 1) (p2 := 28) rfl (xo_and 5 1) (by decide) rfl ?_
  refine q_const (p2 := 29) rfl rfl ?_
  refine q_icmp_s (p2 := 30) rfl (by decide) (by omega) (by omega) rfl (fun hb => absurd hb (show ¬ (¬ (1 = 1)) by omega)) (fun _ => ?_)
  refine q_load (v := (6, 237, 0)) (p2 := 31) rfl rfl rfl rfl ?_
  refine q_getv (v := (6, 257, 0)) (p2 := 32) rfl hS.1.choose_spec.1 (by decide) hS.1.choose_spec.2.2.2.2.2.2.1 rfl ?_
  refine q_load (v := (0, 0, 0)) (p2 := 33) rfl rfl rfl rfl ?_
  refine q_aldv (v := (6, 258, 0)) (p2 := 34) rfl (x_sc_257 hS) (by omega) (by omega) rfl rfl ?_
  refine q_const (p2 := 35) rfl rfl ?_
  refine q_aldv (v := (0, 0, 0)) (p2 := 36) rfl (x_sc_258 hS) (by omega) (by omega) rfl rfl ?_
  refine q_load (v := (0, 5, 0)) (p2 := 37) rfl rfl rfl rfl ?_
  refine q_iop (w := 0 &&& 5) (z := 0) (p2 := 38) rfl (xo_and 0 5) (by decide) rfl ?_
  refine q_goto rfl ?_
  refine q_store (loc2 := [(6, 237, 0), (0, 5, 0), (0, 1, 0), (0, 0, 0), (0, 0, 0), (0, 0, 0)]) (p2 := 41) rfl rfl rfl rfl rfl ?_
  refine q_load (v := (0, 1, 0)) (p2 := 42) rfl rfl rfl rfl ?_
  refine q_load (v := (0, 0, 0)) (p2 := 43) rfl rfl rfl rfl ?_
  refine q_iop (w := 1 >>> (0 % 32)) (z := 1) (p2 := 44) rfl (xo_shr (show 1 < 2147483648 by decide) 0) (by decide) rfl ?_
  refine q_const (p2 := 45) rfl rfl ?_
  refine q_iop (w := 1 &&& 1) (z := 1) (p2 := 46) rfl (xo_and 1 1) (by decide) rfl ?_
  refine q_const (p2 := 47) rfl rfl ?_
  refine q_icmp_s (p2 := 48) rfl (by decide) (by omega) (by omega) rfl (fun _ => ?_) (fun hb => absurd (show 1 = 1 by omega) hb)
  refine q_load (v := (0, 1, 0)) (p2 := 53) rfl rfl rfl rfl ?_
  refine q_load (v := (0, 0, 0)) (p2 := 54) rfl rfl rfl rfl ?_
  refine q_load (v := (0, 5, 0)) (p2 := 55) rfl rfl rfl rfl ?_
  refine q_const (p2 := 56) rfl rfl ?_
  refine q_load (v := (0, 0, 0)) (p2 := 57) rfl rfl rfl rfl ?_
  refine q_iop (w := 1 <<< (0 % 32)) (z := 1) (p2 := 58) rfl (xo_shl 1 0) (by decide) rfl ?_
  refine q_iop (w := 5 &&& 1) (z := 1) (p2 := 59) rfl (xo_and 5 1) (by decide) rfl ?_
  refine q_iop (w := 0 ||| 1) (z := 1) (p2 := 60) rfl (xo_or 0 1) (by decide) rfl ?_
  refine q_iop (w := 1 ||| 1) (z := 1) (p2 := 61) rfl (xo_or 1 1) (by decide) rfl ?_
  refine q_store (loc2 := [(6, 237, 0), (0, 5, 0), (0, 1, 0), (0, 0, 0), (0, 0, 0), (0, 0, 0)]) (p2 := 62) rfl rfl rfl rfl rfl ?_
  refine q_iinc (z := 1) (loc2 := [(6, 237, 0), (0, 5, 0), (0, 1, 0), (0, 0, 0), (0, 1, 0), (0, 0, 0)]) (p2 := 63) rfl rfl (by decide) rfl rfl ?_
  refine q_goto rfl ?_
  refine q_load (v := (0, 1, 0)) (p2 := 18) rfl rfl rfl rfl ?_
  refine q_load (v := (6, 237, 0)) (p2 := 19) rfl rfl rfl rfl ?_
  refine q_getv (v := (6, 246, 0)) (p2 := 20) rfl hS.1.choose_spec.1 (by decide) hS.1.choose_spec.2.2.2.1 rfl ?_
  refine q_const (p2 := 21) rfl rfl ?_
  refine q_aldv (v := (0, 3, 0)) (p2 := 22) rfl (x_sc_246 hS) (by omega) (by omega) rfl rfl ?_
  refine q_icmp_s (p2 := 23) rfl (by decide) (by omega) (by omega) rfl (fun hb => absurd hb (show ¬ (¬ (1 < 3)) by omega)) (fun _ => ?_)
  refine q_load (v := (0, 5, 0)) (p2 := 24) rfl rfl rfl rfl ?_
  refine q_load (v := (0, 1, 0)) (p2 := 25) rfl rfl rfl rfl ?_
  refine q_iop (w := 5 >>> (1 % 32)) (z := 2) (p2 := 26) rfl (xo_shr (show 5 < 2147483648 by decide) 1) (by decide) rfl ?_
  refine q_const (p2 := 27) rfl rfl ?_
  refine q_iop (w := 2 &&& 1) (z := 0) (p2 := 28) rfl (xo_and 2 1) (by decide) rfl ?_
  refine q_const (p2 := 29) rfl rfl ?_
  refine q_icmp_s (p2 := 30) rfl (by decide) (by omega) (by omega) rfl (fun _ => ?_) (fun hb => absurd (show ¬ (0 = 1) by omega) hb)
  refine q_const (p2 := 40) rfl rfl ?_
  refine q_store (loc2 := [(6, 237, 0), (0, 5, 0), (0, 1, 0), (0, 0, 0), (0, 1, 0), (0, 0, 0)]) (p2 := 41) rfl rfl rfl rfl rfl ?_
  refine q_load (v := (0, 1, 0)) (p2 := 42) rfl rfl rfl rfl ?_
  refine q_load (v := (0, 1, 0)) (p2 := 43) rfl rfl rfl rfl ?_
  refine q_iop (w := 1 >>> (1 % 32)) (z := 0) (p2 := 44) rfl (xo_shr (show 1 < 2147483648 by decide) 1) (by decide) rfl ?_
  refine q_const (p2 := 45) rfl rfl ?_
  refine q_iop (w := 0 &&& 1) (z := 0) (p2 := 46) rfl (xo_and 0 1) (by decide) rfl ?_
  refine q_const (p2 := 47) rfl rfl ?_
  refine q_icmp_s (p2 := 48) rfl (by decide) (by omega) (by omega) rfl (fun hb => absurd hb (show ¬ (0 = 1) by omega)) (fun _ => ?_)
  refine q_load (v := (0, 0, 0)) (p2 := 49) rfl rfl rfl rfl ?_
  refine q_load (v := (0, 1, 0)) (p2 := 50) rfl rfl rfl rfl ?_
  refine q_iop (w := 0 &&& 1) (z := 0) (p2 := 51) rfl (xo_and 0 1) (by decide) rfl ?_
  refine q_if0_s (p2 := 52) rfl (by decide) (by omega) rfl (fun _ => ?_) (fun hb => absurd (show 0 = 0 by omega) hb)
  refine q_iinc (z := 2) (loc2 := [(6, 237, 0), (0, 5, 0), (0, 1, 0), (0, 0, 0), (0, 2, 0), (0, 0, 0)]) (p2 := 63) rfl rfl (by decide) rfl rfl ?_
  refine q_goto rfl ?_
  refine q_load (v := (0, 2, 0)) (p2 := 18) rfl rfl rfl rfl ?_
  refine q_load (v := (6, 237, 0)) (p2 := 19) rfl rfl rfl rfl ?_
  refine q_getv (v := (6, 246, 0)) (p2 := 20) rfl hS.1.choose_spec.1 (by decide) hS.1.choose_spec.2.2.2.1 rfl ?_
  refine q_const (p2 := 21) rfl rfl ?_
  refine q_aldv (v := (0, 3, 0)) (p2 := 22) rfl (x_sc_246 hS) (by omega) (by omega) rfl rfl ?_
  refine q_icmp_s (p2 := 23) rfl (by decide) (by omega) (by omega) rfl (fun hb => absurd hb (show ¬ (¬ (2 < 3)) by omega)) (fun _ => ?_)
  refine q_load (v := (0, 5, 0)) (p2 := 24) rfl rfl rfl rfl ?_
  refine q_load (v := (0, 2, 0)) (p2 := 25) rfl rfl rfl rfl ?_
  refine q_iop (w := 5 >>> (2 % 32)) (z := 1) (p2 := 26) rfl (xo_shr (show 5 < 2147483648 by decide) 2) (by decide) rfl ?_
  refine q_const (p2 := 27) rfl rfl ?_
  refine q_iop (w := 1 &&& 1) (z := 1) (p2 := 28) rfl (xo_and 1 1) (by decide) rfl ?_
  refine q_const (p2 := 29) rfl rfl ?_
  refine q_icmp_s (p2 := 30) rfl (by decide) (by omega) (by omega) rfl (fun hb => absurd hb (show ¬ (¬ (1 = 1)) by omega)) (fun _ => ?_)
  refine q_load (v := (6, 237, 0)) (p2 := 31) rfl rfl rfl rfl ?_
  refine q_getv (v := (6, 257, 0)) (p2 := 32) rfl hS.1.choose_spec.1 (by decide) hS.1.choose_spec.2.2.2.2.2.2.1 rfl ?_
  refine q_load (v := (0, 2, 0)) (p2 := 33) rfl rfl rfl rfl ?_
  refine q_aldv (v := (6, 260, 0)) (p2 := 34) rfl (x_sc_257 hS) (by omega) (by omega) rfl rfl ?_
  refine q_const (p2 := 35) rfl rfl ?_
  refine q_aldv (v := (0, 1, 0)) (p2 := 36) rfl (x_sc_260 hS) (by omega) (by omega) rfl rfl ?_
  refine q_load (v := (0, 5, 0)) (p2 := 37) rfl rfl rfl rfl ?_
  refine q_iop (w := 1 &&& 5) (z := 1) (p2 := 38) rfl (xo_and 1 5) (by decide) rfl ?_
  refine q_goto rfl ?_
  refine q_store (loc2 := [(6, 237, 0), (0, 5, 0), (0, 1, 0), (0, 0, 0), (0, 2, 0), (0, 1, 0)]) (p2 := 41) rfl rfl rfl rfl rfl ?_
  refine q_load (v := (0, 1, 0)) (p2 := 42) rfl rfl rfl rfl ?_
  refine q_load (v := (0, 2, 0)) (p2 := 43) rfl rfl rfl rfl ?_
  refine q_iop (w := 1 >>> (2 % 32)) (z := 0) (p2 := 44) rfl (xo_shr (show 1 < 2147483648 by decide) 2) (by decide) rfl ?_
  refine q_const (p2 := 45) rfl rfl ?_
  refine q_iop (w := 0 &&& 1) (z := 0) (p2 := 46) rfl (xo_and 0 1) (by decide) rfl ?_
  refine q_const (p2 := 47) rfl rfl ?_
  refine q_icmp_s (p2 := 48) rfl (by decide) (by omega) (by omega) rfl (fun hb => absurd hb (show ¬ (0 = 1) by omega)) (fun _ => ?_)
  refine q_load (v := (0, 1, 0)) (p2 := 49) rfl rfl rfl rfl ?_
  refine q_load (v := (0, 1, 0)) (p2 := 50) rfl rfl rfl rfl ?_
  refine q_iop (w := 1 &&& 1) (z := 1) (p2 := 51) rfl (xo_and 1 1) (by decide) rfl ?_
  refine q_if0_s (p2 := 52) rfl (by decide) (by omega) rfl (fun hb => absurd hb (show ¬ (1 = 0) by omega)) (fun _ => ?_)
  refine q_load (v := (0, 1, 0)) (p2 := 53) rfl rfl rfl rfl ?_
  refine q_load (v := (0, 1, 0)) (p2 := 54) rfl rfl rfl rfl ?_
  refine q_load (v := (0, 5, 0)) (p2 := 55) rfl rfl rfl rfl ?_
  refine q_const (p2 := 56) rfl rfl ?_
  refine q_load (v := (0, 2, 0)) (p2 := 57) rfl rfl rfl rfl ?_
  refine q_iop (w := 1 <<< (2 % 32)) (z := 4) (p2 := 58) rfl (xo_shl 1 2) (by decide) rfl ?_
  refine q_iop (w := 5 &&& 4) (z := 4) (p2 := 59) rfl (xo_and 5 4) (by decide) rfl ?_
  refine q_iop (w := 1 ||| 4) (z := 5) (p2 := 60) rfl (xo_or 1 4) (by decide) rfl ?_
  refine q_iop (w := 1 ||| 5) (z := 5) (p2 := 61) rfl (xo_or 1 5) (by decide) rfl ?_
  refine q_store (loc2 := [(6, 237, 0), (0, 5, 0), (0, 5, 0), (0, 0, 0), (0, 2, 0), (0, 1, 0)]) (p2 := 62) rfl rfl rfl rfl rfl ?_
  refine q_iinc (z := 3) (loc2 := [(6, 237, 0), (0, 5, 0), (0, 5, 0), (0, 0, 0), (0, 3, 0), (0, 1, 0)]) (p2 := 63) rfl rfl (by decide) rfl rfl ?_
  refine q_goto rfl ?_
  refine q_load (v := (0, 3, 0)) (p2 := 18) rfl rfl rfl rfl ?_
  refine q_load (v := (6, 237, 0)) (p2 := 19) rfl rfl rfl rfl ?_
  refine q_getv (v := (6, 246, 0)) (p2 := 20) rfl hS.1.choose_spec.1 (by decide) hS.1.choose_spec.2.2.2.1 rfl ?_
  refine q_const (p2 := 21) rfl rfl ?_
  refine q_aldv (v := (0, 3, 0)) (p2 := 22) rfl (x_sc_246 hS) (by omega) (by omega) rfl rfl ?_
  refine q_icmp_s (p2 := 23) rfl (by decide) (by omega) (by omega) rfl (fun _ => ?_) (fun hb => absurd (show ¬ (3 < 3) by omega) hb)
  refine q_iinc (z := 1) (loc2 := [(6, 237, 0), (0, 5, 0), (0, 5, 0), (0, 1, 0), (0, 3, 0), (0, 1, 0)]) (p2 := 65) rfl rfl (by decide) rfl rfl ?_
  refine q_goto rfl ?_
  refine q_load (v := (0, 1, 0)) (p2 := 8) rfl rfl rfl rfl ?_
  refine q_load (v := (6, 237, 0)) (p2 := 9) rfl rfl rfl rfl ?_
  refine q_getv (v := (6, 257, 0)) (p2 := 10) rfl hS.1.choose_spec.1 (by decide) hS.1.choose_spec.2.2.2.2.2.2.1 rfl ?_
  refine q_alen (p2 := 11) rfl (x_sc_257 hS) rfl (by omega) rfl ?_
  refine q_icmp_s (p2 := 12) rfl (by decide) (by omega) (by omega) rfl (fun hb => absurd hb (show ¬ (¬ (1 < 12)) by omega)) (fun _ => ?_)
  refine q_load (v := (0, 5, 0)) (p2 := 13) rfl rfl rfl rfl ?_
  refine q_load (v := (0, 5, 0)) (p2 := 14) rfl rfl rfl rfl ?_
  refine q_icmp_s (p2 := 15) rfl (by decide) (by omega) (by omega) rfl (fun _ => ?_) (fun hb => absurd (show 5 = 5 by omega) hb)
  refine q_load (v := (0, 5, 0)) (p2 := 67) rfl rfl rfl rfl ?_
  refine q_load (v := (0, 5, 0)) (p2 := 68) rfl rfl rfl rfl ?_
  refine q_icmp_s (p2 := 69) rfl (by decide) (by omega) (by omega) rfl (fun hb => absurd hb (show ¬ (¬ (5 = 5)) by omega)) (fun _ => ?_)
  refine q_const (p2 := 70) rfl rfl ?_
  refine q_goto rfl ?_
  refine q_retv (v := (0, 1, 0)) rfl rfl ⟨rfl, by omega, by omega, ?_⟩
  refine q_if0_s (p2 := 38) rfl (by decide) (by omega) rfl (fun _ => ?_) (fun hb => absurd (show ¬ (1 = 0) by omega) hb)
  refine q_load (v := (6, 237, 0)) (p2 := 41) rfl rfl rfl rfl ?_
  refine q_load (v := (0, 5, 0)) (p2 := 42) rfl rfl rfl rfl ?_
  refine q_callK (xs := [(0, 5, 0), (6, 237, 0)]) (p2 := 43) rfl rfl rfl rfl (x_rcv_s 237 hS.1.choose_spec.1) rfl rfl ?_
  refine x_f_of rfl ?_
  refine q_const (p2 := 1) rfl rfl ?_
  refine q_store (loc2 := [(6, 237, 0), (0, 5, 0), (0, 0, 0)]) (p2 := 2) rfl rfl rfl rfl rfl ?_
  refine q_load (v := (0, 0, 0)) (p2 := 3) rfl rfl rfl rfl ?_
  refine q_load (v := (6, 237, 0)) (p2 := 4) rfl rfl rfl rfl ?_
  refine q_getv (v := (6, 246, 0)) (p2 := 5) rfl hS.1.choose_spec.1 (by decide) hS.1.choose_spec.2.2.2.1 rfl ?_
  refine q_const (p2 := 6) rfl rfl ?_
  refine q_aldv (v := (0, 3, 0)) (p2 := 7) rfl (x_sc_246 hS) (by omega) (by omega) rfl rfl ?_
  refine q_icmp_s (p2 := 8) rfl (by decide) (by omega) (by omega) rfl (fun hb => absurd hb (show ¬ (¬ (0 < 3)) by omega)) (fun _ => ?_)
  refine q_load (v := (0, 5, 0)) (p2 := 9) rfl rfl rfl rfl ?_
  refine q_load (v := (0, 0, 0)) (p2 := 10) rfl rfl rfl rfl ?_
  refine q_iop (w := 5 >>> (0 % 32)) (z := 5) (p2 := 11) rfl (xo_shr (show 5 < 2147483648 by decide) 0) (by decide) rfl ?_
  refine q_const (p2 := 12) rfl rfl ?_
  refine q_iop (w := 5 &&& 1) (z := 1) (p2 := 13) rfl (xo_and 5 1) (by decide) rfl ?_
  refine q_const (p2 := 14) rfl rfl ?_
  refine q_icmp_s (p2 := 15) rfl (by decide) (by omega) (by omega) rfl (fun hb => absurd hb (show ¬ (¬ (1 = 1)) by omega)) (fun _ => ?_)
  refine q_load (v := (6, 237, 0)) (p2 := 16) rfl rfl rfl rfl ?_
  refine q_getv (v := (6, 257, 0)) (p2 := 17) rfl hS.1.choose_spec.1 (by decide) hS.1.choose_spec.2.2.2.2.2.2.1 rfl ?_
  refine q_load (v := (0, 0, 0)) (p2 := 18) rfl rfl rfl rfl ?_
  refine q_aldv (v := (6, 258, 0)) (p2 := 19) rfl (x_sc_257 hS) (by omega) (by omega) rfl rfl ?_
  refine q_const (p2 := 20) rfl rfl ?_
  refine q_aldv (v := (0, 1, 0)) (p2 := 21) rfl (x_sc_258 hS) (by omega) (by omega) rfl rfl ?_
  refine q_const (p2 := 22) rfl rfl ?_
  refine q_icmp_s (p2 := 23) rfl (by decide) (by omega) (by omega) rfl (fun hb => absurd hb (show ¬ (¬ (1 = 1)) by omega)) (fun _ => ?_)
  refine q_load (v := (6, 237, 0)) (p2 := 24) rfl rfl rfl rfl ?_
  refine q_load (v := (0, 0, 0)) (p2 := 25) rfl rfl rfl rfl ?_
  refine q_load (v := (0, 5, 0)) (p2 := 26) rfl rfl rfl rfl ?_
  refine q_callK (xs := [(0, 5, 0), (0, 0, 0), (6, 237, 0)]) (p2 := 27) rfl rfl rfl rfl (x_rcv_s 237 hS.1.choose_spec.1) rfl rfl ?_
  refine x_f_of rfl ?_
  refine q_const (p2 := 1) rfl rfl ?_
  refine q_store (loc2 := [(6, 237, 0), (0, 0, 0), (0, 5, 0), (0, 0, 0)]) (p2 := 2) rfl rfl rfl rfl rfl ?_
  refine q_load (v := (0, 0, 0)) (p2 := 3) rfl rfl rfl rfl ?_
  refine q_load (v := (6, 237, 0)) (p2 := 4) rfl rfl rfl rfl ?_
  refine q_getv (v := (6, 246, 0)) (p2 := 5) rfl hS.1.choose_spec.1 (by decide) hS.1.choose_spec.2.2.2.1 rfl ?_
  refine q_const (p2 := 6) rfl rfl ?_
  refine q_aldv (v := (0, 3, 0)) (p2 := 7) rfl (x_sc_246 hS) (by omega) (by omega) rfl rfl ?_
  refine q_icmp_s (p2 := 8) rfl (by decide) (by omega) (by omega) rfl (fun hb => absurd hb (show ¬ (¬ (0 < 3)) by omega)) (fun _ => ?_)
  refine q_load (v := (0, 5, 0)) (p2 := 9) rfl rfl rfl rfl ?_
  refine q_load (v := (0, 0, 0)) (p2 := 10) rfl rfl rfl rfl ?_
  refine q_iop (w := 5 >>> (0 % 32)) (z := 5) (p2 := 11) rfl (xo_shr (show 5 < 2147483648 by decide) 0) (by decide) rfl ?_
  refine q_const (p2 := 12) rfl rfl ?_
  refine q_iop (w := 5 &&& 1) (z := 1) (p2 := 13) rfl (xo_and 5 1) (by decide) rfl ?_
  refine q_const (p2 := 14) rfl rfl ?_
  refine q_icmp_s (p2 := 15) rfl (by decide) (by omega) (by omega) rfl (fun hb => absurd hb (show ¬ (¬ (1 = 1)) by omega)) (fun _ => ?_)
  refine q_load (v := (6, 237, 0)) (p2 := 16) rfl rfl rfl rfl ?_
  refine q_getv (v := (6, 257, 0)) (p2 := 17) rfl hS.1.choose_spec.1 (by decide) hS.1.choose_spec.2.2.2.2.2.2.1 rfl ?_
  refine q_load (v := (0, 0, 0)) (p2 := 18) rfl rfl rfl rfl ?_
  refine q_aldv (v := (6, 258, 0)) (p2 := 19) rfl (x_sc_257 hS) (by omega) (by omega) rfl rfl ?_
  refine q_const (p2 := 20) rfl rfl ?_
  refine q_aldv (v := (0, 0, 0)) (p2 := 21) rfl (x_sc_258 hS) (by omega) (by omega) rfl rfl ?_
  refine q_load (v := (0, 0, 0)) (p2 := 22) rfl rfl rfl rfl ?_
  refine q_iop (w := 0 >>> (0 % 32)) (z := 0) (p2 := 23) rfl (xo_shr (show 0 < 2147483648 by decide) 0) (by decide) rfl ?_
  refine q_const (p2 := 24) rfl rfl ?_
  refine q_iop (w := 0 &&& 1) (z := 0) (p2 := 25) rfl (xo_and 0 1) (by decide) rfl ?_
  refine q_const (p2 := 26) rfl rfl ?_
  refine q_icmp_s (p2 := 27) rfl (by decide) (by omega) (by omega) rfl (fun _ => ?_) (fun hb => absurd (show ¬ (0 = 1) by omega) hb)
  refine q_iinc (z := 1) (loc2 := [(6, 237, 0), (0, 0, 0), (0, 5, 0), (0, 1, 0)]) (p2 := 30) rfl rfl (by decide) rfl rfl ?_
  refine q_goto rfl ?_
  refine q_load (v := (0, 1, 0)) (p2 := 3) rfl rfl rfl rfl ?_
  refine q_load (v := (6, 237, 0)) (p2 := 4) rfl rfl rfl rfl ?_
  refine q_getv (v := (6, 246, 0)) (p2 := 5) rfl hS.1.choose_spec.1 (by decide) hS.1.choose_spec.2.2.2.1 rfl ?_
  refine q_const (p2 := 6) rfl rfl ?_
  refine q_aldv (v := (0, 3, 0)) (p2 := 7) rfl (x_sc_246 hS) (by omega) (by omega) rfl rfl ?_
  refine q_icmp_s (p2 := 8) rfl (by decide) (by omega) (by omega) rfl (fun hb => absurd hb (show ¬ (¬ (1 < 3)) by omega)) (fun _ => ?_)
  refine q_load (v := (0, 5, 0)) (p2 := 9) rfl rfl rfl rfl ?_
  refine q_load (v := (0, 1, 0)) (p2 := 10) rfl rfl rfl rfl ?_
  refine q_iop (w := 5 >>> (1 % 32)) (z := 2) (p2 := 11) rfl (xo_shr (show 5 < 2147483648 by decide) 1) (by decide) rfl ?_
  refine q_const (p2 := 12) rfl rfl ?_
  refine q_iop (w := 2 &&& 1) (z := 0) (p2 := 13) rfl (xo_and 2 1) (by decide) rfl ?_
  refine q_const (p2 := 14) rfl rfl ?_
  refine q_icmp_s (p2 := 15) rfl (by decide) (by omega) (by omega) rfl (fun _ => ?_) (fun hb => absurd (show ¬ (0 = 1) by omega) hb)
  refine q_iinc (z := 2) (loc2 := [(6, 237, 0), (0, 0, 0), (0, 5, 0), (0, 2, 0)]) (p2 := 30) rfl rfl (by decide) rfl rfl ?_
  refine q_goto rfl ?_
  refine q_load (v := (0, 2, 0)) (p2 := 3) rfl rfl rfl rfl ?_
  refine q_load (v := (6, 237, 0)) (p2 := 4) rfl rfl rfl rfl ?_
  refine q_getv (v := (6, 246, 0)) (p2 := 5) rfl hS.1.choose_spec.1 (by decide) hS.1.choose_spec.2.2.2.1 rfl ?_
  refine q_const (p2 := 6) rfl rfl ?_
  refine q_aldv (v := (0, 3, 0)) (p2 := 7) rfl (x_sc_246 hS) (by omega) (by omega) rfl rfl ?_
  refine q_icmp_s (p2 := 8) rfl (by decide) (by omega) (by omega) rfl (fun hb => absurd hb (show ¬ (¬ (2 < 3)) by omega)) (fun _ => ?_)
  refine q_load (v := (0, 5, 0)) (p2 := 9) rfl rfl rfl rfl ?_
  refine q_load (v := (0, 2, 0)) (p2 := 10) rfl rfl rfl rfl ?_
  refine q_iop (w := 5 >>> (2 % 32)) (z := 1) (p2 := 11) rfl (xo_shr (show 5 < 2147483648 by decide) 2) (by decide) rfl ?_
  refine q_const (p2 := 12) rfl rfl ?_
  refine q_iop (w := 1 &&& 1) (z := 1) (p2 := 13) rfl (xo_and 1 1) (by decide) rfl ?_
  refine q_const (p2 := 14) rfl rfl ?_
  refine q_icmp_s (p2 := 15) rfl (by decide) (by omega) (by omega) rfl (fun hb => absurd hb (show ¬ (¬ (1 = 1)) by omega)) (fun _ => ?_)
  refine q_load (v := (6, 237, 0)) (p2 := 16) rfl rfl rfl rfl ?_
  refine q_getv (v := (6, 257, 0)) (p2 := 17) rfl hS.1.choose_spec.1 (by decide) hS.1.choose_spec.2.2.2.2.2.2.1 rfl ?_
  refine q_load (v := (0, 2, 0)) (p2 := 18) rfl rfl rfl rfl ?_
  refine q_aldv (v := (6, 260, 0)) (p2 := 19) rfl (x_sc_257 hS) (by omega) (by omega) rfl rfl ?_
  refine q_const (p2 := 20) rfl rfl ?_
  refine q_aldv (v := (0, 1, 0)) (p2 := 21) rfl (x_sc_260 hS) (by omega) (by omega) rfl rfl ?_
  refine q_load (v := (0, 0, 0)) (p2 := 22) rfl rfl rfl rfl ?_
  refine q_iop (w := 1 >>> (0 % 32)) (z := 1) (p2 := 23) rfl (xo_shr (show 1 < 2147483648 by decide) 0) (by decide) rfl ?_
  refine q_const (p2 := 24) rfl rfl ?_
  refine q_iop (w := 1 &&& 1) (z := 1) (p2 := 25) rfl (xo_and 1 1) (by decide) rfl ?_
  refine q_const (p2 := 26) rfl rfl ?_
  refine q_icmp_s (p2 := 27) rfl (by decide) (by omega) (by omega) rfl (fun hb => absurd hb (show ¬ (¬ (1 = 1)) by omega)) (fun _ => ?_)
  refine q_const (p2 := 28) rfl rfl ?_
  refine q_retv (v := (0, 1, 0)) rfl rfl ⟨rfl, by omega, by omega, ?_⟩
  refine q_if0_s (p2 := 28) rfl (by decide) (by omega) rfl (fun _ => ?_) (fun hb => absurd (show ¬ (1 = 0) by omega) hb)
  refine q_iinc (z := 1) (loc2 := [(6, 237, 0), (0, 5, 0), (0, 1, 0)]) (p2 := 31) rfl rfl (by decide) rfl rfl ?_
  refine q_goto rfl ?_
  refine q_load (v := (0, 1, 0)) (p2 := 3) rfl rfl rfl rfl ?_
  refine q_load (v := (6, 237, 0)) (p2 := 4) rfl rfl rfl rfl ?_
  refine q_getv (v := (6, 246, 0)) (p2 := 5) rfl hS.1.choose_spec.1 (by decide) hS.1.choose_spec.2.2.2.1 rfl ?_
  refine q_const (p2 := 6) rfl rfl ?_
  refine q_aldv (v := (0, 3, 0)) (p2 := 7) rfl (x_sc_246 hS) (by omega) (by omega) rfl rfl ?_
  refine q_icmp_s (p2 := 8) rfl (by decide) (by omega) (by omega) rfl (fun hb => absurd hb (show ¬ (¬ (1 < 3)) by omega)) (fun _ => ?_)
  refine q_load (v := (0, 5, 0)) (p2 := 9) rfl rfl rfl rfl ?_
  refine q_load (v := (0, 1, 0)) (p2 := 10) rfl rfl rfl rfl ?_
  refine q_iop (w := 5 >>> (1 % 32)) (z := 2) (p2 := 11) rfl (xo_shr (show 5 < 2147483648 by decide) 1) (by decide) rfl ?_
  refine q_const (p2 := 12) rfl rfl ?_
  refine q_iop (w := 2 &&& 1) (z := 0) (p2 := 13) rfl (xo_and 2 1) (by decide) rfl ?_
  refine q_const (p2 := 14) rfl rfl ?_
  refine q_icmp_s (p2 := 15) rfl (by decide) (by omega) (by omega) rfl (fun _ => ?_) (fun hb => absurd (show ¬ (0 = 1) by omega) hb)
  refine q_iinc (z := 2) (loc2 := [(6, 237, 0), (0, 5, 0), (0, 2, 0)]) (p2 := 31) rfl rfl (by decide) rfl rfl ?_
  refine q_goto rfl ?_
  refine q_load (v := (0, 2, 0)) (p2 := 3) rfl rfl rfl rfl ?_
  refine q_load (v := (6, 237, 0)) (p2 := 4) rfl rfl rfl rfl ?_
  refine q_getv (v := (6, 246, 0)) (p2 := 5) rfl hS.1.choose_spec.1 (by decide) hS.1.choose_spec.2.2.2.1 rfl ?_
  refine q_const (p2 := 6) rfl rfl ?_
  refine q_aldv (v := (0, 3, 0)) (p2 := 7) rfl (x_sc_246 hS) (by omega) (by omega) rfl rfl ?_
  refine q_icmp_s (p2 := 8) rfl (by decide) (by omega) (by omega) rfl (fun hb => absurd hb (show ¬ (¬ (2 < 3)) by omega)) (fun _ => ?_)
  refine q_load (v := (0, 5, 0)) (p2 := 9) rfl rfl rfl rfl ?_
  refine q_load (v := (0, 2, 0)) (p2 := 10) rfl rfl rfl rfl ?_
  refine q_iop (w := 5 >>> (2 % 32)) (z := 1) (p2 := 11) rfl (xo_shr (show 5 < 2147483648 by decide) 2) (by decide) rfl ?_
  refine q_const (p2 := 12) rfl rfl ?_
  refine q_iop (w := 1 &&& 1) (z := 1) (p2 := 13) rfl (xo_and 1 1) (by decide) rfl ?_
  refine q_const (p2 := 14) rfl rfl ?_
  refine q_icmp_s (p2 := 15) rfl (by decide) (by omega) (by omega) rfl (fun hb => absurd hb (show ¬ (¬ (1 = 1)) by omega)) (fun _ => ?_)
  refine q_load (v := (6, 237, 0)) (p2 := 16) rfl rfl rfl rfl ?_
  refine q_getv (v := (6, 257, 0)) (p2 := 17) rfl hS.1.choose_spec.1 (by decide) hS.1.choose_spec.2.2.2.2.2.2.1 rfl ?_
  refine q_load (v := (0, 2, 0)) (p2 := 18) rfl rfl rfl rfl ?_
  refine q_aldv (v := (6, 260, 0)) (p2 := 19) rfl (x_sc_257 hS) (by omega) (by omega) rfl rfl ?_
  refine q_const (p2 := 20) rfl rfl ?_
  refine q_aldv (v := (0, 0, 0)) (p2 := 21) rfl (x_sc_260 hS) (by omega) (by omega) rfl rfl ?_
  refine q_const (p2 := 22) rfl rfl ?_
  refine q_icmp_s (p2 := 23) rfl (by decide) (by omega) (by omega) rfl (fun _ => ?_) (fun hb => absurd (show ¬ (0 = 1) by omega) hb)
  refine q_iinc (z := 3) (loc2 := [(6, 237, 0), (0, 5, 0), (0, 3, 0)]) (p2 := 31) rfl rfl (by decide) rfl rfl ?_
  refine q_goto rfl ?_
  refine q_load (v := (0, 3, 0)) (p2 := 3) rfl rfl rfl rfl ?_
  refine q_load (v := (6, 237, 0)) (p2 := 4) rfl rfl rfl rfl ?_
  refine q_getv (v := (6, 246, 0)) (p2 := 5) rfl hS.1.choose_spec.1 (by decide) hS.1.choose_spec.2.2.2.1 rfl ?_
  refine q_const (p2 := 6) rfl rfl ?_
  refine q_aldv (v := (0, 3, 0)) (p2 := 7) rfl (x_sc_246 hS) (by omega) (by omega) rfl rfl ?_
  refine q_icmp_s (p2 := 8) rfl (by decide) (by omega) (by omega) rfl (fun _ => ?_) (fun hb => absurd (show ¬ (3 < 3) by omega) hb)
  refine q_const (p2 := 33) rfl rfl ?_
  refine q_store (loc2 := [(6, 237, 0), (0, 5, 0), (0, 0, 0)]) (p2 := 34) rfl rfl rfl rfl rfl ?_
  refine q_load (v := (0, 0, 0)) (p2 := 35) rfl rfl rfl rfl ?_
  refine q_load (v := (6, 237, 0)) (p2 := 36) rfl rfl rfl rfl ?_
  refine q_getv (v := (6, 246, 0)) (p2 := 37) rfl hS.1.choose_spec.1 (by decide) hS.1.choose_spec.2.2.2.1 rfl ?_
  refine q_const (p2 := 38) rfl rfl ?_
  refine q_aldv (v := (0, 3, 0)) (p2 := 39) rfl (x_sc_246 hS) (by omega) (by omega) rfl rfl ?_
  refine q_icmp_s (p2 := 40) rfl (by decide) (by omega) (by omega) rfl (fun hb => absurd hb (show ¬ (¬ (0 < 3)) by omega)) (fun _ => ?_)
  refine q_load (v := (0, 5, 0)) (p2 := 41) rfl rfl rfl rfl ?_
  refine q_load (v := (0, 0, 0)) (p2 := 42) rfl rfl rfl rfl ?_
  refine q_iop (w := 5 >>> (0 % 32)) (z := 5) (p2 := 43) rfl (xo_shr (show 5 < 2147483648 by decide) 0) (by decide) rfl ?_
  refine q_const (p2 := 44) rfl rfl ?_
  refine q_iop (w := 5 &&& 1) (z := 1) (p2 := 45) rfl (xo_and 5 1) (by decide) rfl ?_
  refine q_const (p2 := 46) rfl rfl ?_
  refine q_icmp_s (p2 := 47) rfl (by decide) (by omega) (by omega) rfl (fun hb => absurd hb (show ¬ (¬ (1 = 1)) by omega)) (fun _ => ?_)
  refine q_load (v := (6, 237, 0)) (p2 := 48) rfl rfl rfl rfl ?_
  refine q_getv (v := (6, 257, 0)) (p2 := 49) rfl hS.1.choose_spec.1 (by decide) hS.1.choose_spec.2.2.2.2.2.2.1 rfl ?_
  refine q_load (v := (0, 0, 0)) (p2 := 50) rfl rfl rfl rfl ?_
  refine q_aldv (v := (6, 258, 0)) (p2 := 51) rfl (x_sc_257 hS) (by omega) (by omega) rfl rfl ?_
  refine q_const (p2 := 52) rfl rfl ?_
  refine q_aldv (v := (0, 0, 0)) (p2 := 53) rfl (x_sc_258 hS) (by omega) (by omega) rfl rfl ?_
  refine q_if0_s (p2 := 54) rfl (by decide) (by omega) rfl (fun hb => absurd hb (show ¬ (0 < 0) by omega)) (fun _ => ?_)
  refine q_load (v := (6, 237, 0)) (p2 := 55) rfl rfl rfl rfl ?_
  refine q_load (v := (6, 237, 0)) (p2 := 56) rfl rfl rfl rfl ?_
  refine q_getv (v := (6, 257, 0)) (p2 := 57) rfl hS.1.choose_spec.1 (by decide) hS.1.choose_spec.2.2.2.2.2.2.1 rfl ?_
  refine q_load (v := (0, 0, 0)) (p2 := 58) rfl rfl rfl rfl ?_
  refine q_aldv (v := (6, 258, 0)) (p2 := 59) rfl (x_sc_257 hS) (by omega) (by omega) rfl rfl ?_
  refine q_const (p2 := 60) rfl rfl ?_
  refine q_aldv (v := (0, 0, 0)) (p2 := 61) rfl (x_sc_258 hS) (by omega) (by omega) rfl rfl ?_
  refine q_load (v := (0, 5, 0)) (p2 := 62) rfl rfl rfl rfl ?_
  refine q_callK (xs := [(0, 5, 0), (0, 0, 0), (6, 237, 0)]) (p2 := 63) rfl rfl rfl rfl (x_rcv_s 237 hS.1.choose_spec.1) rfl rfl ?_
  refine x_f_of rfl ?_
  refine q_const (p2 := 1) rfl rfl ?_
  refine q_store (loc2 := [(6, 237, 0), (0, 0, 0), (0, 5, 0), (0, 0, 0), (11, 0, 0)]) (p2 := 2) rfl rfl rfl rfl rfl ?_
  refine q_load (v := (0, 0, 0)) (p2 := 3) rfl rfl rfl rfl ?_
  refine q_store (loc2 := [(6, 237, 0), (0, 0, 0), (0, 5, 0), (0, 0, 0), (0, 0, 0)]) (p2 := 4) rfl rfl rfl rfl rfl ?_
  refine q_load (v := (0, 0, 0)) (p2 := 5) rfl rfl rfl rfl ?_
  refine q_if0_s (p2 := 6) rfl (by decide) (by omega) rfl (fun hb => absurd hb (show ¬ (0 < 0) by omega)) (fun _ => ?_)
  refine q_load (v := (0, 0, 0)) (p2 := 7) rfl rfl rfl rfl ?_
  refine q_const (p2 := 8) rfl rfl ?_
  refine q_iop (w := 0 + 1) (z := 1) (p2 := 9) rfl (xo_add 0 1) (by decide) rfl ?_
  refine q_load (v := (6, 237, 0)) (p2 := 10) rfl rfl rfl rfl ?_
  refine q_getv (v := (6, 450, 0)) (p2 := 11) rfl hS.1.choose_spec.1 (by decide) hS.1.choose_spec.2.2.2.2.2.2.2.2.2.2.2.2.2.1 rfl ?_
  refine q_alen (p2 := 12) rfl hC rfl (by omega) rfl ?_
  refine q_icmp_s (p2 := 13) rfl (by decide) (by omega) (by omega) rfl (fun hb => absurd hb (show ¬ (¬ (1 < 12288)) by omega)) (fun _ => ?_)
  refine q_load (v := (6, 237, 0)) (p2 := 14) rfl rfl rfl rfl ?_
  refine q_getv (v := (6, 450, 0)) (p2 := 15) rfl hS.1.choose_spec.1 (by decide) hS.1.choose_spec.2.2.2.2.2.2.2.2.2.2.2.2.2.1 rfl ?_
  refine q_load (v := (0, 0, 0)) (p2 := 16) rfl rfl rfl rfl ?_
  refine q_aldT (tag := 0) (v := 1) (p2 := 17) rfl hC (by omega) (by omega) hc0 rfl ?_
  refine q_if0_s (p2 := 18) rfl (by decide) (by omega) rfl (fun hb => absurd hb (show ¬ (1 = 0) by omega)) (fun _ => ?_)
  refine q_load (v := (6, 237, 0)) (p2 := 19) rfl rfl rfl rfl ?_
  refine q_getv (v := (6, 450, 0)) (p2 := 20) rfl hS.1.choose_spec.1 (by decide) hS.1.choose_spec.2.2.2.2.2.2.2.2.2.2.2.2.2.1 rfl ?_
  refine q_load (v := (0, 0, 0)) (p2 := 21) rfl rfl rfl rfl ?_
  refine q_aldT (tag := 0) (v := 1) (p2 := 22) rfl hC (by omega) (by omega) hc0 rfl ?_
  refine q_const (p2 := 23) rfl rfl ?_
  refine q_icmp_s (p2 := 24) rfl (by decide) (by omega) (by omega) rfl (fun _ => ?_) (fun hb => absurd (show 1 = 1 by omega) hb)
  refine q_load (v := (0, 0, 0)) (p2 := 35) rfl rfl rfl rfl ?_
  refine q_load (v := (6, 237, 0)) (p2 := 36) rfl rfl rfl rfl ?_
  refine q_getv (v := (6, 452, 0)) (p2 := 37) rfl hS.1.choose_spec.1 (by decide) hS.1.choose_spec.2.2.2.2.2.2.2.2.2.2.2.2.2.2.2.2.2.1 rfl ?_
  refine q_alen (p2 := 38) rfl hOV.1 rfl (by omega) rfl ?_
  refine q_icmp_s (p2 := 39) rfl (by decide) (by omega) (by omega) rfl (fun hb => absurd hb (show ¬ (¬ (0 < 64)) by omega)) (fun _ => ?_)
  refine q_load (v := (6, 237, 0)) (p2 := 40) rfl rfl rfl rfl ?_
  refine q_getv (v := (6, 452, 0)) (p2 := 41) rfl hS.1.choose_spec.1 (by decide) hS.1.choose_spec.2.2.2.2.2.2.2.2.2.2.2.2.2.2.2.2.2.1 rfl ?_
  refine q_load (v := (0, 0, 0)) (p2 := 42) rfl rfl rfl rfl ?_
  refine q_const (p2 := 43) rfl rfl ?_
  refine q_load (v := (6, 237, 0)) (p2 := 44) rfl rfl rfl rfl ?_
  refine q_getv (v := (6, 450, 0)) (p2 := 45) rfl hS.1.choose_spec.1 (by decide) hS.1.choose_spec.2.2.2.2.2.2.2.2.2.2.2.2.2.1 rfl ?_
  refine q_load (v := (0, 0, 0)) (p2 := 46) rfl rfl rfl rfl ?_
  refine q_const (p2 := 47) rfl rfl ?_
  refine q_iop (w := 0 + 1) (z := 1) (p2 := 48) rfl (xo_add 0 1) (by decide) rfl ?_
  refine q_aldT (tag := 0) (v := 1) (p2 := 49) rfl hC (by omega) (by omega) hc1 rfl ?_
  refine q_iop (w := 1 <<< (1 % 32)) (z := 2) (p2 := 50) rfl (xo_shl 1 1) (by decide) rfl ?_
  refine q_astE (v := (0, 2, 0)) (w := (0, 2, 0)) (p2 := 51) rfl hOV.1 (by omega) (by omega) (x_ok_0 rfl) (x_nv_same rfl (by decide)) rfl (fun φ1 f1 hh1 hg1 ho1 fr1 => ?_)
  have hs1 := zq_OV_st_452 hOV hh1 hg1 ho1 fr1
  refine q_load (v := (6, 237, 0)) (p2 := 52) rfl rfl rfl rfl ?_
  have hm2 := (x_sch_at hS (fun j h1 h2 => (fr1 j (by omega))))
  refine q_getv (v := (6, 453, 0)) (p2 := 53) rfl hm2.1.choose_spec.1 (by decide) hm2.1.choose_spec.2.2.2.2.2.2.2.2.2.2.2.2.2.2.2.2.2.2.1 rfl ?_
  refine q_load (v := (0, 0, 0)) (p2 := 54) rfl rfl rfl rfl ?_
  refine q_load (v := (0, 5, 0)) (p2 := 55) rfl rfl rfl rfl ?_
  refine q_load (v := (6, 237, 0)) (p2 := 56) rfl rfl rfl rfl ?_
  refine q_getv (v := (6, 450, 0)) (p2 := 57) rfl hm2.1.choose_spec.1 (by decide) hm2.1.choose_spec.2.2.2.2.2.2.2.2.2.2.2.2.2.1 rfl ?_
  refine q_load (v := (0, 0, 0)) (p2 := 58) rfl rfl rfl rfl ?_
  refine q_const (p2 := 59) rfl rfl ?_
  refine q_iop (w := 0 + 1) (z := 1) (p2 := 60) rfl (xo_add 0 1) (by decide) rfl ?_
  have hm3 := (zq_co_at hC (fr1 450 (by decide)))
  refine q_aldT (tag := 0) (v := 1) (p2 := 61) rfl hm3 (by omega) (by omega) hc1 rfl ?_
  refine q_iop (w := 5 >>> (1 % 32)) (z := 2) (p2 := 62) rfl (xo_shr (show 5 < 2147483648 by decide) 1) (by decide) rfl ?_
  refine q_const (p2 := 63) rfl rfl ?_
  refine q_iop (w := 2 &&& 1) (z := 0) (p2 := 64) rfl (xo_and 2 1) (by decide) rfl ?_
  refine q_const (p2 := 65) rfl rfl ?_
  refine q_icmp_s (p2 := 66) rfl (by decide) (by omega) (by omega) rfl (fun _ => ?_) (fun hb => absurd (show ¬ (0 = 1) by omega) hb)
  refine q_const (p2 := 69) rfl rfl ?_
  refine q_astE (v := (0, 0, 0)) (w := (0, 0, 0)) (p2 := 70) rfl hs1.2 (by omega) (by omega) (x_ok_0 rfl) (x_nv_3 (by omega)) rfl (fun φ4 f4 hh4 hg4 ho4 fr4 => ?_)
  have hs4 := zq_OV_st_453 hs1 hh4 hg4 ho4 fr4
  refine q_iinc (z := 1) (loc2 := [(6, 237, 0), (0, 0, 0), (0, 5, 0), (0, 1, 0), (0, 0, 0)]) (p2 := 71) rfl rfl (by decide) rfl rfl ?_
  refine q_iinc (z := 2) (loc2 := [(6, 237, 0), (0, 0, 0), (0, 5, 0), (0, 1, 0), (0, 2, 0)]) (p2 := 72) rfl rfl (by decide) rfl rfl ?_
  refine q_goto rfl ?_
  refine q_load (v := (0, 2, 0)) (p2 := 5) rfl rfl rfl rfl ?_
  refine q_if0_s (p2 := 6) rfl (by decide) (by omega) rfl (fun hb => absurd hb (show ¬ (2 < 0) by omega)) (fun _ => ?_)
  refine q_load (v := (0, 2, 0)) (p2 := 7) rfl rfl rfl rfl ?_
  refine q_const (p2 := 8) rfl rfl ?_
  refine q_iop (w := 2 + 1) (z := 3) (p2 := 9) rfl (xo_add 2 1) (by decide) rfl ?_
  refine q_load (v := (6, 237, 0)) (p2 := 10) rfl rfl rfl rfl ?_
  have hm5 := (x_sch_at hm2 (fun j h1 h2 => (fr4 j (by omega))))
  refine q_getv (v := (6, 450, 0)) (p2 := 11) rfl hm5.1.choose_spec.1 (by decide) hm5.1.choose_spec.2.2.2.2.2.2.2.2.2.2.2.2.2.1 rfl ?_
  have hm6 := (zq_co_at hm3 (fr4 450 (by decide)))
  refine q_alen (p2 := 12) rfl hm6 rfl (by omega) rfl ?_
  refine q_icmp_s (p2 := 13) rfl (by decide) (by omega) (by omega) rfl (fun hb => absurd hb (show ¬ (¬ (3 < 12288)) by omega)) (fun _ => ?_)
  refine q_load (v := (6, 237, 0)) (p2 := 14) rfl rfl rfl rfl ?_
  refine q_getv (v := (6, 450, 0)) (p2 := 15) rfl hm5.1.choose_spec.1 (by decide) hm5.1.choose_spec.2.2.2.2.2.2.2.2.2.2.2.2.2.1 rfl ?_
  refine q_load (v := (0, 2, 0)) (p2 := 16) rfl rfl rfl rfl ?_
  refine q_aldT (tag := 0) (v := 1) (p2 := 17) rfl hm6 (by omega) (by omega) hc2 rfl ?_
  refine q_if0_s (p2 := 18) rfl (by decide) (by omega) rfl (fun hb => absurd hb (show ¬ (1 = 0) by omega)) (fun _ => ?_)
  refine q_load (v := (6, 237, 0)) (p2 := 19) rfl rfl rfl rfl ?_
  refine q_getv (v := (6, 450, 0)) (p2 := 20) rfl hm5.1.choose_spec.1 (by decide) hm5.1.choose_spec.2.2.2.2.2.2.2.2.2.2.2.2.2.1 rfl ?_
  refine q_load (v := (0, 2, 0)) (p2 := 21) rfl rfl rfl rfl ?_
  refine q_aldT (tag := 0) (v := 1) (p2 := 22) rfl hm6 (by omega) (by omega) hc2 rfl ?_
  refine q_const (p2 := 23) rfl rfl ?_
  refine q_icmp_s (p2 := 24) rfl (by decide) (by omega) (by omega) rfl (fun _ => ?_) (fun hb => absurd (show 1 = 1 by omega) hb)
  refine q_load (v := (0, 1, 0)) (p2 := 35) rfl rfl rfl rfl ?_
  refine q_load (v := (6, 237, 0)) (p2 := 36) rfl rfl rfl rfl ?_
  refine q_getv (v := (6, 452, 0)) (p2 := 37) rfl hm5.1.choose_spec.1 (by decide) hm5.1.choose_spec.2.2.2.2.2.2.2.2.2.2.2.2.2.2.2.2.2.1 rfl ?_
  refine q_alen (p2 := 38) rfl hs4.1 rfl (by omega) rfl ?_
  refine q_icmp_s (p2 := 39) rfl (by decide) (by omega) (by omega) rfl (fun hb => absurd hb (show ¬ (¬ (1 < 64)) by omega)) (fun _ => ?_)
  refine q_load (v := (6, 237, 0)) (p2 := 40) rfl rfl rfl rfl ?_
  refine q_getv (v := (6, 452, 0)) (p2 := 41) rfl hm5.1.choose_spec.1 (by decide) hm5.1.choose_spec.2.2.2.2.2.2.2.2.2.2.2.2.2.2.2.2.2.1 rfl ?_
  refine q_load (v := (0, 1, 0)) (p2 := 42) rfl rfl rfl rfl ?_
  refine q_const (p2 := 43) rfl rfl ?_
  refine q_load (v := (6, 237, 0)) (p2 := 44) rfl rfl rfl rfl ?_
  refine q_getv (v := (6, 450, 0)) (p2 := 45) rfl hm5.1.choose_spec.1 (by decide) hm5.1.choose_spec.2.2.2.2.2.2.2.2.2.2.2.2.2.1 rfl ?_
  refine q_load (v := (0, 2, 0)) (p2 := 46) rfl rfl rfl rfl ?_
  refine q_const (p2 := 47) rfl rfl ?_
  refine q_iop (w := 2 + 1) (z := 3) (p2 := 48) rfl (xo_add 2 1) (by decide) rfl ?_
  refine q_aldT (tag := 0) (v := 2) (p2 := 49) rfl hm6 (by omega) (by omega) hc3 rfl ?_
  refine q_iop (w := 1 <<< (2 % 32)) (z := 4) (p2 := 50) rfl (xo_shl 1 2) (by decide) rfl ?_
  refine q_astE (v := (0, 4, 0)) (w := (0, 4, 0)) (p2 := 51) rfl hs4.1 (by omega) (by omega) (x_ok_0 rfl) (x_nv_same rfl (by decide)) rfl (fun φ7 f7 hh7 hg7 ho7 fr7 => ?_)
  have hs7 := zq_OV_st_452 hs4 hh7 hg7 ho7 fr7
  refine q_load (v := (6, 237, 0)) (p2 := 52) rfl rfl rfl rfl ?_
  have hm8 := (x_sch_at hm5 (fun j h1 h2 => (fr7 j (by omega))))
  refine q_getv (v := (6, 453, 0)) (p2 := 53) rfl hm8.1.choose_spec.1 (by decide) hm8.1.choose_spec.2.2.2.2.2.2.2.2.2.2.2.2.2.2.2.2.2.2.1 rfl ?_
  refine q_load (v := (0, 1, 0)) (p2 := 54) rfl rfl rfl rfl ?_
  refine q_load (v := (0, 5, 0)) (p2 := 55) rfl rfl rfl rfl ?_
  refine q_load (v := (6, 237, 0)) (p2 := 56) rfl rfl rfl rfl ?_
  refine q_getv (v := (6, 450, 0)) (p2 := 57) rfl hm8.1.choose_spec.1 (by decide) hm8.1.choose_spec.2.2.2.2.2.2.2.2.2.2.2.2.2.1 rfl ?_
  refine q_load (v := (0, 2, 0)) (p2 := 58) rfl rfl rfl rfl ?_
  refine q_const (p2 := 59) rfl rfl ?_
  refine q_iop (w := 2 + 1) (z := 3) (p2 := 60) rfl (xo_add 2 1) (by decide) rfl ?_
  have hm9 := (zq_co_at hm6 (fr7 450 (by decide)))
  refine q_aldT (tag := 0) (v := 2) (p2 := 61) rfl hm9 (by omega) (by omega) hc3 rfl ?_
  refine q_iop (w := 5 >>> (2 % 32)) (z := 1) (p2 := 62) rfl (xo_shr (show 5 < 2147483648 by decide) 2) (by decide) rfl ?_
  refine q_const (p2 := 63) rfl rfl ?_
  refine q_iop (w := 1 &&& 1) (z := 1) (p2 := 64) rfl (xo_and 1 1) (by decide) rfl ?_
  refine q_const (p2 := 65) rfl rfl ?_
  refine q_icmp_s (p2 := 66) rfl (by decide) (by omega) (by omega) rfl (fun hb => absurd hb (show ¬ (¬ (1 = 1)) by omega)) (fun _ => ?_)
  refine q_const (p2 := 67) rfl rfl ?_
  refine q_goto rfl ?_
  refine q_astE (v := (0, 1, 0)) (w := (0, 1, 0)) (p2 := 70) rfl hs7.2 (by omega) (by omega) (x_ok_0 rfl) (x_nv_3 (by omega)) rfl (fun φ10 f10 hh10 hg10 ho10 fr10 => ?_)
  have hs10 := zq_OV_st_453 hs7 hh10 hg10 ho10 fr10
  refine q_iinc (z := 2) (loc2 := [(6, 237, 0), (0, 0, 0), (0, 5, 0), (0, 2, 0), (0, 2, 0)]) (p2 := 71) rfl rfl (by decide) rfl rfl ?_
  refine q_iinc (z := 4) (loc2 := [(6, 237, 0), (0, 0, 0), (0, 5, 0), (0, 2, 0), (0, 4, 0)]) (p2 := 72) rfl rfl (by decide) rfl rfl ?_
  refine q_goto rfl ?_
  refine q_load (v := (0, 4, 0)) (p2 := 5) rfl rfl rfl rfl ?_
  refine q_if0_s (p2 := 6) rfl (by decide) (by omega) rfl (fun hb => absurd hb (show ¬ (4 < 0) by omega)) (fun _ => ?_)
  refine q_load (v := (0, 4, 0)) (p2 := 7) rfl rfl rfl rfl ?_
  refine q_const (p2 := 8) rfl rfl ?_
  refine q_iop (w := 4 + 1) (z := 5) (p2 := 9) rfl (xo_add 4 1) (by decide) rfl ?_
  refine q_load (v := (6, 237, 0)) (p2 := 10) rfl rfl rfl rfl ?_
  have hm11 := (x_sch_at hm8 (fun j h1 h2 => (fr10 j (by omega))))
  refine q_getv (v := (6, 450, 0)) (p2 := 11) rfl hm11.1.choose_spec.1 (by decide) hm11.1.choose_spec.2.2.2.2.2.2.2.2.2.2.2.2.2.1 rfl ?_
  have hm12 := (zq_co_at hm9 (fr10 450 (by decide)))
  refine q_alen (p2 := 12) rfl hm12 rfl (by omega) rfl ?_
  refine q_icmp_s (p2 := 13) rfl (by decide) (by omega) (by omega) rfl (fun hb => absurd hb (show ¬ (¬ (5 < 12288)) by omega)) (fun _ => ?_)
  refine q_load (v := (6, 237, 0)) (p2 := 14) rfl rfl rfl rfl ?_
  refine q_getv (v := (6, 450, 0)) (p2 := 15) rfl hm11.1.choose_spec.1 (by decide) hm11.1.choose_spec.2.2.2.2.2.2.2.2.2.2.2.2.2.1 rfl ?_
  refine q_load (v := (0, 4, 0)) (p2 := 16) rfl rfl rfl rfl ?_
  refine q_aldT (tag := 0) (v := 2) (p2 := 17) rfl hm12 (by omega) (by omega) hc4 rfl ?_
  refine q_if0_s (p2 := 18) rfl (by decide) (by omega) rfl (fun hb => absurd hb (show ¬ (2 = 0) by omega)) (fun _ => ?_)
  refine q_load (v := (6, 237, 0)) (p2 := 19) rfl rfl rfl rfl ?_
  refine q_getv (v := (6, 450, 0)) (p2 := 20) rfl hm11.1.choose_spec.1 (by decide) hm11.1.choose_spec.2.2.2.2.2.2.2.2.2.2.2.2.2.1 rfl ?_
  refine q_load (v := (0, 4, 0)) (p2 := 21) rfl rfl rfl rfl ?_
  refine q_aldT (tag := 0) (v := 2) (p2 := 22) rfl hm12 (by omega) (by omega) hc4 rfl ?_
  refine q_const (p2 := 23) rfl rfl ?_
  refine q_icmp_s (p2 := 24) rfl (by decide) (by omega) (by omega) rfl (fun hb => absurd hb (show ¬ (2 = 1) by omega)) (fun _ => ?_)
  refine q_load (v := (6, 237, 0)) (p2 := 25) rfl rfl rfl rfl ?_
  refine q_load (v := (6, 237, 0)) (p2 := 26) rfl rfl rfl rfl ?_
  refine q_getv (v := (6, 450, 0)) (p2 := 27) rfl hm11.1.choose_spec.1 (by decide) hm11.1.choose_spec.2.2.2.2.2.2.2.2.2.2.2.2.2.1 rfl ?_
  refine q_load (v := (0, 4, 0)) (p2 := 28) rfl rfl rfl rfl ?_
  refine q_aldT (tag := 0) (v := 2) (p2 := 29) rfl hm12 (by omega) (by omega) hc4 rfl ?_
  refine q_load (v := (0, 2, 0)) (p2 := 30) rfl rfl rfl rfl ?_
  refine q_load (v := (0, 5, 0)) (p2 := 31) rfl rfl rfl rfl ?_
  refine q_callK (xs := [(0, 5, 0), (0, 2, 0), (0, 2, 0), (6, 237, 0)]) (p2 := 32) rfl rfl rfl rfl (x_rcv_s 237 hm11.1.choose_spec.1) rfl rfl ?_
  refine x_f_of rfl ?_
  refine q_load (v := (0, 2, 0)) (p2 := 1) rfl rfl rfl rfl ?_
  refine q_const (p2 := 2) rfl rfl ?_
  refine q_iop (w := 2 + (4294967296 - 2 % 4294967296)) (z := 0) (p2 := 3) rfl (xo_sub 2 2) (by decide) rfl ?_
  refine q_store (loc2 := [(6, 237, 0), (0, 2, 0), (0, 2, 0), (0, 5, 0), (0, 0, 0), (11, 0, 0), (11, 0, 0), (11, 0, 0)]) (p2 := 4) rfl rfl rfl rfl rfl ?_
  refine q_load (v := (0, 2, 0)) (p2 := 5) rfl rfl rfl rfl ?_
  refine q_const (p2 := 6) rfl rfl ?_
  refine q_iop (w := 2 + (4294967296 - 1 % 4294967296)) (z := 1) (p2 := 7) rfl (xo_sub 2 1) (by decide) rfl ?_
  refine q_store (loc2 := [(6, 237, 0), (0, 2, 0), (0, 2, 0), (0, 5, 0), (0, 0, 0), (0, 1, 0), (11, 0, 0), (11, 0, 0)]) (p2 := 8) rfl rfl rfl rfl rfl ?_
  refine q_load (v := (0, 0, 0)) (p2 := 9) rfl rfl rfl rfl ?_
  refine q_if0_s (p2 := 10) rfl (by decide) (by omega) rfl (fun hb => absurd hb (show ¬ (0 < 0) by omega)) (fun _ => ?_)
  refine q_load (v := (0, 1, 0)) (p2 := 11) rfl rfl rfl rfl ?_
  refine q_load (v := (6, 237, 0)) (p2 := 12) rfl rfl rfl rfl ?_
  refine q_getv (v := (6, 452, 0)) (p2 := 13) rfl hm11.1.choose_spec.1 (by decide) hm11.1.choose_spec.2.2.2.2.2.2.2.2.2.2.2.2.2.2.2.2.2.1 rfl ?_
  refine q_alen (p2 := 14) rfl hs10.1 rfl (by omega) rfl ?_
  refine q_icmp_s (p2 := 15) rfl (by decide) (by omega) (by omega) rfl (fun _ => ?_) (fun hb => absurd (show 1 < 64 by omega) hb)
  refine q_load (v := (6, 237, 0)) (p2 := 18) rfl rfl rfl rfl ?_
  refine q_getv (v := (6, 453, 0)) (p2 := 19) rfl hm11.1.choose_spec.1 (by decide) hm11.1.choose_spec.2.2.2.2.2.2.2.2.2.2.2.2.2.2.2.2.2.2.1 rfl ?_
  refine q_load (v := (0, 0, 0)) (p2 := 20) rfl rfl rfl rfl ?_
  refine q_aldT (tag := 0) (v := 0) (p2 := 21) rfl hs10.2 (by omega) (by omega) ((x_s_ne (by decide)).trans (x_s_eq)) rfl ?_
  refine q_if0_s (p2 := 22) rfl (by decide) (by omega) rfl (fun _ => ?_) (fun hb => absurd (show 0 = 0 by omega) hb)
  refine q_const (p2 := 30) rfl rfl ?_
  refine q_store (loc2 := [(6, 237, 0), (0, 2, 0), (0, 2, 0), (0, 5, 0), (0, 0, 0), (0, 1, 0), (0, 0, 0), (11, 0, 0)]) (p2 := 31) rfl rfl rfl rfl rfl ?_
  refine q_load (v := (6, 237, 0)) (p2 := 32) rfl rfl rfl rfl ?_
  refine q_getv (v := (6, 453, 0)) (p2 := 33) rfl hm11.1.choose_spec.1 (by decide) hm11.1.choose_spec.2.2.2.2.2.2.2.2.2.2.2.2.2.2.2.2.2.2.1 rfl ?_
  refine q_load (v := (0, 0, 0)) (p2 := 34) rfl rfl rfl rfl ?_
  refine q_aldT (tag := 0) (v := 0) (p2 := 35) rfl hs10.2 (by omega) (by omega) ((x_s_ne (by decide)).trans (x_s_eq)) rfl ?_
  refine q_if0_s (p2 := 36) rfl (by decide) (by omega) rfl (fun _ => ?_) (fun hb => absurd (show 0 = 0 by omega) hb)
  refine q_load (v := (6, 237, 0)) (p2 := 44) rfl rfl rfl rfl ?_
  refine q_getv (v := (6, 453, 0)) (p2 := 45) rfl hm11.1.choose_spec.1 (by decide) hm11.1.choose_spec.2.2.2.2.2.2.2.2.2.2.2.2.2.2.2.2.2.2.1 rfl ?_
  refine q_load (v := (0, 1, 0)) (p2 := 46) rfl rfl rfl rfl ?_
  refine q_aldT (tag := 0) (v := 1) (p2 := 47) rfl hs10.2 (by omega) (by omega) (x_s_eq) rfl ?_
  refine q_if0_s (p2 := 48) rfl (by decide) (by omega) rfl (fun hb => absurd hb (show ¬ (1 = 0) by omega)) (fun _ => ?_)
  refine q_load (v := (0, 5, 0)) (p2 := 49) rfl rfl rfl rfl ?_
  refine q_load (v := (6, 237, 0)) (p2 := 50) rfl rfl rfl rfl ?_
  refine q_getv (v := (6, 452, 0)) (p2 := 51) rfl hm11.1.choose_spec.1 (by decide) hm11.1.choose_spec.2.2.2.2.2.2.2.2.2.2.2.2.2.2.2.2.2.1 rfl ?_
  refine q_load (v := (0, 0, 0)) (p2 := 52) rfl rfl rfl rfl ?_
  refine q_aldT (tag := 0) (v := 2) (p2 := 53) rfl hs10.1 (by omega) (by omega) ((x_s_ne (by decide)).trans (x_s_eq)) rfl ?_
  refine q_iop (w := 5 &&& 2) (z := 0) (p2 := 54) rfl (xo_and 5 2) (by decide) rfl ?_
  refine q_if0_s (p2 := 55) rfl (by decide) (by omega) rfl (fun hb => absurd hb (show ¬ (¬ (0 = 0)) by omega)) (fun _ => ?_)
  refine q_const (p2 := 56) rfl rfl ?_
  refine q_goto rfl ?_
  refine q_store (loc2 := [(6, 237, 0), (0, 2, 0), (0, 2, 0), (0, 5, 0), (0, 0, 0), (0, 1, 0), (0, 0, 0), (0, 1, 0)]) (p2 := 59) rfl rfl rfl rfl rfl ?_
  refine q_load (v := (6, 237, 0)) (p2 := 60) rfl rfl rfl rfl ?_
  refine q_getv (v := (6, 453, 0)) (p2 := 61) rfl hm11.1.choose_spec.1 (by decide) hm11.1.choose_spec.2.2.2.2.2.2.2.2.2.2.2.2.2.2.2.2.2.2.1 rfl ?_
  refine q_load (v := (0, 0, 0)) (p2 := 62) rfl rfl rfl rfl ?_
  refine q_load (v := (0, 2, 0)) (p2 := 63) rfl rfl rfl rfl ?_
  refine q_const (p2 := 64) rfl rfl ?_
  refine q_icmp_s (p2 := 65) rfl (by decide) (by omega) (by omega) rfl (fun _ => ?_) (fun hb => absurd (show 2 = 2 by omega) hb)
  refine q_load (v := (0, 2, 0)) (p2 := 68) rfl rfl rfl rfl ?_
  refine q_const (p2 := 69) rfl rfl ?_
  refine q_icmp_s (p2 := 70) rfl (by decide) (by omega) (by omega) rfl (fun hb => absurd hb (show ¬ (2 = 3) by omega)) (fun _ => ?_)
  refine q_load (v := (0, 1, 0)) (p2 := 71) rfl rfl rfl rfl ?_
  refine q_if0_s (p2 := 72) rfl (by decide) (by omega) rfl (fun hb => absurd hb (show ¬ (1 = 0) by omega)) (fun _ => ?_)
  refine q_const (p2 := 73) rfl rfl ?_
  refine q_goto rfl ?_
  refine q_astE (v := (0, 1, 0)) (w := (0, 1, 0)) (p2 := 76) rfl hs10.2 (by omega) (by omega) (x_ok_0 rfl) (x_nv_3 (by omega)) rfl (fun φ13 f13 hh13 hg13 ho13 fr13 => ?_)
  have hs13 := zq_OV_st_453 hs10 hh13 hg13 ho13 fr13
  refine q_load (v := (6, 237, 0)) (p2 := 77) rfl rfl rfl rfl ?_
  have hm14 := (x_sch_at hm11 (fun j h1 h2 => (fr13 j (by omega))))
  refine q_getv (v := (6, 452, 0)) (p2 := 78) rfl hm14.1.choose_spec.1 (by decide) hm14.1.choose_spec.2.2.2.2.2.2.2.2.2.2.2.2.2.2.2.2.2.1 rfl ?_
  refine q_load (v := (0, 0, 0)) (p2 := 79) rfl rfl rfl rfl ?_
  refine q_dup2 (p2 := 80) rfl rfl rfl rfl ?_
  refine q_aldT (tag := 0) (v := 2) (p2 := 81) rfl hs13.1 (by omega) (by omega) ((x_s_ne (by decide)).trans (x_s_eq)) rfl ?_
  refine q_load (v := (6, 237, 0)) (p2 := 82) rfl rfl rfl rfl ?_
  refine q_getv (v := (6, 452, 0)) (p2 := 83) rfl hm14.1.choose_spec.1 (by decide) hm14.1.choose_spec.2.2.2.2.2.2.2.2.2.2.2.2.2.2.2.2.2.1 rfl ?_
  refine q_load (v := (0, 1, 0)) (p2 := 84) rfl rfl rfl rfl ?_
  refine q_aldT (tag := 0) (v := 4) (p2 := 85) rfl hs13.1 (by omega) (by omega) (x_s_eq) rfl ?_
  refine q_iop (w := 2 ||| 4) (z := 6) (p2 := 86) rfl (xo_or 2 4) (by decide) rfl ?_
  refine q_astE (v := (0, 6, 0)) (w := (0, 6, 0)) (p2 := 87) rfl hs13.1 (by omega) (by omega) (x_ok_0 rfl) (x_nv_same rfl (by decide)) rfl (fun φ15 f15 hh15 hg15 ho15 fr15 => ?_)
  have hs15 := zq_OV_st_452 hs13 hh15 hg15 ho15 fr15
  refine q_load (v := (0, 1, 0)) (p2 := 88) rfl rfl rfl rfl ?_
  refine q_retv (v := (0, 1, 0)) rfl rfl ⟨rfl, by omega, by omega, ?_⟩
  refine q_store (loc2 := [(6, 237, 0), (0, 0, 0), (0, 5, 0), (0, 1, 0), (0, 4, 0)]) (p2 := 33) rfl rfl rfl rfl rfl ?_
  refine q_goto rfl ?_
  refine q_iinc (z := 6) (loc2 := [(6, 237, 0), (0, 0, 0), (0, 5, 0), (0, 1, 0), (0, 6, 0)]) (p2 := 72) rfl rfl (by decide) rfl rfl ?_
  refine q_goto rfl ?_
  refine q_load (v := (0, 6, 0)) (p2 := 5) rfl rfl rfl rfl ?_
  refine q_if0_s (p2 := 6) rfl (by decide) (by omega) rfl (fun hb => absurd hb (show ¬ (6 < 0) by omega)) (fun _ => ?_)
  refine q_load (v := (0, 6, 0)) (p2 := 7) rfl rfl rfl rfl ?_
  refine q_const (p2 := 8) rfl rfl ?_
  refine q_iop (w := 6 + 1) (z := 7) (p2 := 9) rfl (xo_add 6 1) (by decide) rfl ?_
  refine q_load (v := (6, 237, 0)) (p2 := 10) rfl rfl rfl rfl ?_
  have hm16 := (x_sch_at hm14 (fun j h1 h2 => (fr15 j (by omega))))
  refine q_getv (v := (6, 450, 0)) (p2 := 11) rfl hm16.1.choose_spec.1 (by decide) hm16.1.choose_spec.2.2.2.2.2.2.2.2.2.2.2.2.2.1 rfl ?_
  have hm17 := (zq_co_at hm12 ((fr15 450 (by decide)).trans (fr13 450 (by decide))))
  refine q_alen (p2 := 12) rfl hm17 rfl (by omega) rfl ?_
  refine q_icmp_s (p2 := 13) rfl (by decide) (by omega) (by omega) rfl (fun hb => absurd hb (show ¬ (¬ (7 < 12288)) by omega)) (fun _ => ?_)
  refine q_load (v := (6, 237, 0)) (p2 := 14) rfl rfl rfl rfl ?_
  refine q_getv (v := (6, 450, 0)) (p2 := 15) rfl hm16.1.choose_spec.1 (by decide) hm16.1.choose_spec.2.2.2.2.2.2.2.2.2.2.2.2.2.1 rfl ?_
  refine q_load (v := (0, 6, 0)) (p2 := 16) rfl rfl rfl rfl ?_
  refine q_aldT (tag := 0) (v := 0) (p2 := 17) rfl hm17 (by omega) (by omega) hc6 rfl ?_
  refine q_if0_s (p2 := 18) rfl (by decide) (by omega) rfl (fun _ => ?_) (fun hb => absurd (show 0 = 0 by omega) hb)
  refine q_load (v := (0, 1, 0)) (p2 := 74) rfl rfl rfl rfl ?_
  refine q_if0_s (p2 := 75) rfl (by decide) (by omega) rfl (fun hb => absurd hb (show ¬ (1 = 0) by omega)) (fun _ => ?_)
  refine q_load (v := (0, 5, 0)) (p2 := 76) rfl rfl rfl rfl ?_
  refine q_load (v := (6, 237, 0)) (p2 := 77) rfl rfl rfl rfl ?_
  refine q_getv (v := (6, 452, 0)) (p2 := 78) rfl hm16.1.choose_spec.1 (by decide) hm16.1.choose_spec.2.2.2.2.2.2.2.2.2.2.2.2.2.2.2.2.2.1 rfl ?_
  refine q_const (p2 := 79) rfl rfl ?_
  refine q_aldT (tag := 0) (v := 6) (p2 := 80) rfl hs15.1 (by omega) (by omega) (x_s_eq) rfl ?_
  refine q_iop (w := 5 &&& 6) (z := 4) (p2 := 81) rfl (xo_and 5 6) (by decide) rfl ?_
  refine q_if0_s (p2 := 82) rfl (by decide) (by omega) rfl (fun hb => absurd hb (show ¬ (4 = 0) by omega)) (fun _ => ?_)
  refine q_load (v := (6, 237, 0)) (p2 := 83) rfl rfl rfl rfl ?_
  refine q_getv (v := (6, 453, 0)) (p2 := 84) rfl hm16.1.choose_spec.1 (by decide) hm16.1.choose_spec.2.2.2.2.2.2.2.2.2.2.2.2.2.2.2.2.2.2.1 rfl ?_
  refine q_const (p2 := 85) rfl rfl ?_
  refine q_aldT (tag := 0) (v := 1) (p2 := 86) rfl hs15.2 (by omega) (by omega) (x_s_eq) rfl ?_
  refine q_if0_s (p2 := 87) rfl (by decide) (by omega) rfl (fun hb => absurd hb (show ¬ (1 = 0) by omega)) (fun _ => ?_)
  refine q_const (p2 := 88) rfl rfl ?_
  refine q_goto rfl ?_
  refine q_retv (v := (0, 1, 0)) rfl rfl ⟨rfl, by omega, by omega, ?_⟩
  refine q_if0_s (p2 := 64) rfl (by decide) (by omega) rfl (fun _ => ?_) (fun hb => absurd (show ¬ (1 = 0) by omega) hb)
  refine q_iinc (z := 1) (loc2 := [(6, 237, 0), (0, 5, 0), (0, 1, 0)]) (p2 := 67) rfl rfl (by decide) rfl rfl ?_
  refine q_goto rfl ?_
  refine q_load (v := (0, 1, 0)) (p2 := 35) rfl rfl rfl rfl ?_
  refine q_load (v := (6, 237, 0)) (p2 := 36) rfl rfl rfl rfl ?_
  refine q_getv (v := (6, 246, 0)) (p2 := 37) rfl hm16.1.choose_spec.1 (by decide) hm16.1.choose_spec.2.2.2.1 rfl ?_
  refine q_const (p2 := 38) rfl rfl ?_
  refine q_aldv (v := (0, 3, 0)) (p2 := 39) rfl (x_sc_246 hm16) (by omega) (by omega) rfl rfl ?_
  refine q_icmp_s (p2 := 40) rfl (by decide) (by omega) (by omega) rfl (fun hb => absurd hb (show ¬ (¬ (1 < 3)) by omega)) (fun _ => ?_)
  refine q_load (v := (0, 5, 0)) (p2 := 41) rfl rfl rfl rfl ?_
  refine q_load (v := (0, 1, 0)) (p2 := 42) rfl rfl rfl rfl ?_
  refine q_iop (w := 5 >>> (1 % 32)) (z := 2) (p2 := 43) rfl (xo_shr (show 5 < 2147483648 by decide) 1) (by decide) rfl ?_
  refine q_const (p2 := 44) rfl rfl ?_
  refine q_iop (w := 2 &&& 1) (z := 0) (p2 := 45) rfl (xo_and 2 1) (by decide) rfl ?_
  refine q_const (p2 := 46) rfl rfl ?_
  refine q_icmp_s (p2 := 47) rfl (by decide) (by omega) (by omega) rfl (fun _ => ?_) (fun hb => absurd (show ¬ (0 = 1) by omega) hb)
  refine q_iinc (z := 2) (loc2 := [(6, 237, 0), (0, 5, 0), (0, 2, 0)]) (p2 := 67) rfl rfl (by decide) rfl rfl ?_
  refine q_goto rfl ?_
  refine q_load (v := (0, 2, 0)) (p2 := 35) rfl rfl rfl rfl ?_
  refine q_load (v := (6, 237, 0)) (p2 := 36) rfl rfl rfl rfl ?_
  refine q_getv (v := (6, 246, 0)) (p2 := 37) rfl hm16.1.choose_spec.1 (by decide) hm16.1.choose_spec.2.2.2.1 rfl ?_
  refine q_const (p2 := 38) rfl rfl ?_
  refine q_aldv (v := (0, 3, 0)) (p2 := 39) rfl (x_sc_246 hm16) (by omega) (by omega) rfl rfl ?_
  refine q_icmp_s (p2 := 40) rfl (by decide) (by omega) (by omega) rfl (fun hb => absurd hb (show ¬ (¬ (2 < 3)) by omega)) (fun _ => ?_)
  refine q_load (v := (0, 5, 0)) (p2 := 41) rfl rfl rfl rfl ?_
  refine q_load (v := (0, 2, 0)) (p2 := 42) rfl rfl rfl rfl ?_
  refine q_iop (w := 5 >>> (2 % 32)) (z := 1) (p2 := 43) rfl (xo_shr (show 5 < 2147483648 by decide) 2) (by decide) rfl ?_
  refine q_const (p2 := 44) rfl rfl ?_
  refine q_iop (w := 1 &&& 1) (z := 1) (p2 := 45) rfl (xo_and 1 1) (by decide) rfl ?_
  refine q_const (p2 := 46) rfl rfl ?_
  refine q_icmp_s (p2 := 47) rfl (by decide) (by omega) (by omega) rfl (fun hb => absurd hb (show ¬ (¬ (1 = 1)) by omega)) (fun _ => ?_)
  refine q_load (v := (6, 237, 0)) (p2 := 48) rfl rfl rfl rfl ?_
  refine q_getv (v := (6, 257, 0)) (p2 := 49) rfl hm16.1.choose_spec.1 (by decide) hm16.1.choose_spec.2.2.2.2.2.2.1 rfl ?_
  refine q_load (v := (0, 2, 0)) (p2 := 50) rfl rfl rfl rfl ?_
  refine q_aldv (v := (6, 260, 0)) (p2 := 51) rfl (x_sc_257 hm16) (by omega) (by omega) rfl rfl ?_
  refine q_const (p2 := 52) rfl rfl ?_
  refine q_aldv (v := (0, 4294967293, 0)) (p2 := 53) rfl (x_sc_260 hm16) (by omega) (by omega) rfl rfl ?_
  refine q_if0 (p2 := 54) rfl (by decide) rfl (fun _ => ?_) (fun hb => absurd (show 2147483645 < 2147483648 by decide) hb)
  refine q_iinc (z := 3) (loc2 := [(6, 237, 0), (0, 5, 0), (0, 3, 0)]) (p2 := 67) rfl rfl (by decide) rfl rfl ?_
  refine q_goto rfl ?_
  refine q_load (v := (0, 3, 0)) (p2 := 35) rfl rfl rfl rfl ?_
  refine q_load (v := (6, 237, 0)) (p2 := 36) rfl rfl rfl rfl ?_
  refine q_getv (v := (6, 246, 0)) (p2 := 37) rfl hm16.1.choose_spec.1 (by decide) hm16.1.choose_spec.2.2.2.1 rfl ?_
  refine q_const (p2 := 38) rfl rfl ?_
  refine q_aldv (v := (0, 3, 0)) (p2 := 39) rfl (x_sc_246 hm16) (by omega) (by omega) rfl rfl ?_
  refine q_icmp_s (p2 := 40) rfl (by decide) (by omega) (by omega) rfl (fun _ => ?_) (fun hb => absurd (show ¬ (3 < 3) by omega) hb)
  refine q_const (p2 := 69) rfl rfl ?_
  refine q_retv (v := (0, 0, 0)) rfl rfl ⟨rfl, by omega, by omega, ?_⟩
  exact q_retv (v := (0, 0, 0)) rfl rfl (⟨rfl, rfl, rfl, rfl, hs15, fun j hj0 hj1 => ((fr15 j (by omega)).trans ((fr13 j (by omega)).trans ((fr10 j (by omega)).trans ((fr7 j (by omega)).trans ((fr4 j (by omega)).trans (fr1 j (by omega)))))))⟩)
theorem zc_s_reason_6 {d n sl : Nat} {φ : FH} {co : Nat → Nat} {ovn : Nat → Nat} {ovh : Nat → Nat} (hS : x_sch φ) (hC : zq_co φ co) (hOV : zq_OV φ ovn ovh) (hc0 : co 0 = 1) (hc1 : co 1 = 1) (hc2 : co 2 = 1) (hc3 : co 3 = 2) (hc4 : co 4 = 2) (hc5 : co 5 = 0) (hc6 : co 6 = 0) (hc7 : co 7 = 0) : x_f x_P (d + 1) 51 [(6, 237, 0), (0, 6, 0), (11, 0, 0)] φ n sl (x_r φ n sl (0, 2, 0)) := by
  refine x_f_of rfl ?_
  refine q_load (v := (0, 6, 0)) (p2 := 1) rfl rfl rfl rfl ?_
  refine q_if0_s (p2 := 2) rfl (by decide) (by omega) rfl (fun _ => ?_) (fun hb => absurd (show ¬ (6 = 0) by omega) hb)
  refine q_const (p2 := 5) rfl rfl ?_
  refine q_store (loc2 := [(6, 237, 0), (0, 6, 0), (0, 0, 0)]) (p2 := 6) rfl rfl rfl rfl rfl ?_
  refine q_load (v := (0, 0, 0)) (p2 := 7) rfl rfl rfl rfl ?_
  refine q_load (v := (6, 237, 0)) (p2 := 8) rfl rfl rfl rfl ?_
  refine q_getv (v := (6, 246, 0)) (p2 := 9) rfl hS.1.choose_spec.1 (by decide) hS.1.choose_spec.2.2.2.1 rfl ?_
  refine q_const (p2 := 10) rfl rfl ?_
  refine q_aldv (v := (0, 3, 0)) (p2 := 11) rfl (x_sc_246 hS) (by omega) (by omega) rfl rfl ?_
  refine q_icmp_s (p2 := 12) rfl (by decide) (by omega) (by omega) rfl (fun hb => absurd hb (show ¬ (¬ (0 < 3)) by omega)) (fun _ => ?_)
  refine q_load (v := (0, 6, 0)) (p2 := 13) rfl rfl rfl rfl ?_
  refine q_load (v := (0, 0, 0)) (p2 := 14) rfl rfl rfl rfl ?_
  refine q_iop (w := 6 >>> (0 % 32)) (z := 6) (p2 := 15) rfl (xo_shr (show 6 < 2147483648 by decide) 0) (by decide) rfl ?_
  refine q_const (p2 := 16) rfl rfl ?_
  refine q_iop (w := 6 &&& 1) (z := 0) (p2 := 17) rfl (xo_and 6 1) (by decide) rfl ?_
  refine q_const (p2 := 18) rfl rfl ?_
  refine q_icmp_s (p2 := 19) rfl (by decide) (by omega) (by omega) rfl (fun _ => ?_) (fun hb => absurd (show ¬ (0 = 1) by omega) hb)
  refine q_iinc (z := 1) (loc2 := [(6, 237, 0), (0, 6, 0), (0, 1, 0)]) (p2 := 33) rfl rfl (by decide) rfl rfl ?_
  refine q_goto rfl ?_
  refine q_load (v := (0, 1, 0)) (p2 := 7) rfl rfl rfl rfl ?_
  refine q_load (v := (6, 237, 0)) (p2 := 8) rfl rfl rfl rfl ?_
  refine q_getv (v := (6, 246, 0)) (p2 := 9) rfl hS.1.choose_spec.1 (by decide) hS.1.choose_spec.2.2.2.1 rfl ?_
  refine q_const (p2 := 10) rfl rfl ?_
  refine q_aldv (v := (0, 3, 0)) (p2 := 11) rfl (x_sc_246 hS) (by omega) (by omega) rfl rfl ?_
  refine q_icmp_s (p2 := 12) rfl (by decide) (by omega) (by omega) rfl (fun hb => absurd hb (show ¬ (¬ (1 < 3)) by omega)) (fun _ => ?_)
  refine q_load (v := (0, 6, 0)) (p2 := 13) rfl rfl rfl rfl ?_
  refine q_load (v := (0, 1, 0)) (p2 := 14) rfl rfl rfl rfl ?_
  refine q_iop (w := 6 >>> (1 % 32)) (z := 3) (p2 := 15) rfl (xo_shr (show 6 < 2147483648 by decide) 1) (by decide) rfl ?_
  refine q_const (p2 := 16) rfl rfl ?_
  refine q_iop (w := 3 &&& 1) (z := 1) (p2 := 17) rfl (xo_and 3 1) (by decide) rfl ?_
  refine q_const (p2 := 18) rfl rfl ?_
  refine q_icmp_s (p2 := 19) rfl (by decide) (by omega) (by omega) rfl (fun hb => absurd hb (show ¬ (¬ (1 = 1)) by omega)) (fun _ => ?_)
  refine q_load (v := (6, 237, 0)) (p2 := 20) rfl rfl rfl rfl ?_
  refine q_getv (v := (6, 257, 0)) (p2 := 21) rfl hS.1.choose_spec.1 (by decide) hS.1.choose_spec.2.2.2.2.2.2.1 rfl ?_
  refine q_load (v := (0, 1, 0)) (p2 := 22) rfl rfl rfl rfl ?_
  refine q_aldv (v := (6, 259, 0)) (p2 := 23) rfl (x_sc_257 hS) (by omega) (by omega) rfl rfl ?_
  refine q_const (p2 := 24) rfl rfl ?_
  refine q_aldv (v := (0, 1, 0)) (p2 := 25) rfl (x_sc_259 hS) (by omega) (by omega) rfl rfl ?_
  refine q_load (v := (0, 6, 0)) (p2 := 26) rfl rfl rfl rfl ?_
  refine q_const (p2 := 27) rfl rfl ?_
  refine q_iop (w := 6 ^^^ 4294967295) (z := 4294967289) (p2 := 28) rfl (xo_xor 6 4294967295) (by decide) rfl ?_
  refine q_iop (w := 1 &&& 4294967289) (z := 1) (p2 := 29) rfl (xo_and 1 4294967289) (by decide) rfl ?_
  refine q_if0_s (p2 := 30) rfl (by decide) (by omega) rfl (fun hb => absurd hb (show ¬ (1 = 0) by omega)) (fun _ => ?_)
  refine q_const (p2 := 31) rfl rfl ?_
  exact q_retv (v := (0, 2, 0)) rfl rfl (⟨rfl, rfl, rfl, rfl, rfl⟩)
theorem zc_s_reason_7 {d n sl : Nat} {φ : FH} {co : Nat → Nat} {ovn : Nat → Nat} {ovh : Nat → Nat} (hS : x_sch φ) (hC : zq_co φ co) (hOV : zq_OV φ ovn ovh) (hc0 : co 0 = 1) (hc1 : co 1 = 1) (hc2 : co 2 = 1) (hc3 : co 3 = 2) (hc4 : co 4 = 2) (hc5 : co 5 = 0) (hc6 : co 6 = 0) (hc7 : co 7 = 0) : x_f x_P (d + 4) 51 [(6, 237, 0), (0, 7, 0), (11, 0, 0)] φ n sl (x_rR (0, 5, 0) n sl (fun φ2 => zq_OV φ2 (x_s (x_s (x_s ovn 0 2) 1 4) 0 6) (x_s (x_s (x_s ovh 0 1) 1 1) 0 0) ∧ ∀ j, j ≠ 452 → j ≠ 453 → φ2 j = φ j)) := by
  refine x_f_of rfl ?_
  refine q_load (v := (0, 7, 0)) (p2 := 1) rfl rfl rfl rfl ?_
  refine q_if0_s (p2 := 2) rfl (by decide) (by omega) rfl (fun _ => ?_) (fun hb => absurd (show ¬ (7 = 0) by omega) hb)
  refine q_const (p2 := 5) rfl rfl ?_
  refine q_store (loc2 := [(6, 237, 0), (0, 7, 0), (0, 0, 0)]) (p2 := 6) rfl rfl rfl rfl rfl ?_
  refine q_load (v := (0, 0, 0)) (p2 := 7) rfl rfl rfl rfl ?_
  refine q_load (v := (6, 237, 0)) (p2 := 8) rfl rfl rfl rfl ?_
  refine q_getv (v := (6, 246, 0)) (p2 := 9) rfl hS.1.choose_spec.1 (by decide) hS.1.choose_spec.2.2.2.1 rfl ?_
  refine q_const (p2 := 10) rfl rfl ?_
  refine q_aldv (v := (0, 3, 0)) (p2 := 11) rfl (x_sc_246 hS) (by omega) (by omega) rfl rfl ?_
  refine q_icmp_s (p2 := 12) rfl (by decide) (by omega) (by omega) rfl (fun hb => absurd hb (show ¬ (¬ (0 < 3)) by omega)) (fun _ => ?_)
  refine q_load (v := (0, 7, 0)) (p2 := 13) rfl rfl rfl rfl ?_
  refine q_load (v := (0, 0, 0)) (p2 := 14) rfl rfl rfl rfl ?_
  refine q_iop (w := 7 >>> (0 % 32)) (z := 7) (p2 := 15) rfl (xo_shr (show 7 < 2147483648 by decide) 0) (by decide) rfl ?_
  refine q_const (p2 := 16) rfl rfl ?_
  refine q_iop (w := 7 &&& 1) (z := 1) (p2 := 17) rfl (xo_and 7 1) (by decide) rfl ?_
  refine q_const (p2 := 18) rfl rfl ?_
  refine q_icmp_s (p2 := 19) rfl (by decide) (by omega) (by omega) rfl (fun hb => absurd hb (show ¬ (¬ (1 = 1)) by omega)) (fun _ => ?_)
  refine q_load (v := (6, 237, 0)) (p2 := 20) rfl rfl rfl rfl ?_
  refine q_getv (v := (6, 257, 0)) (p2 := 21) rfl hS.1.choose_spec.1 (by decide) hS.1.choose_spec.2.2.2.2.2.2.1 rfl ?_
  refine q_load (v := (0, 0, 0)) (p2 := 22) rfl rfl rfl rfl ?_
  refine q_aldv (v := (6, 258, 0)) (p2 := 23) rfl (x_sc_257 hS) (by omega) (by omega) rfl rfl ?_
  refine q_const (p2 := 24) rfl rfl ?_
  refine q_aldv (v := (0, 0, 0)) (p2 := 25) rfl (x_sc_258 hS) (by omega) (by omega) rfl rfl ?_
  refine q_load (v := (0, 7, 0)) (p2 := 26) rfl rfl rfl rfl ?_
  refine q_const (p2 := 27) rfl rfl ?_
  refine q_iop (w := 7 ^^^ 4294967295) (z := 4294967288) (p2 := 28) rfl (xo_xor 7 4294967295) (by decide) rfl ?_
  refine q_iop (w := 0 &&& 4294967288) (z := 0) (p2 := 29) rfl (xo_and 0 4294967288) (by decide) rfl ?_
  refine q_if0_s (p2 := 30) rfl (by decide) (by omega) rfl (fun _ => ?_) (fun hb => absurd (show 0 = 0 by omega) hb)
  refine q_iinc (z := 1) (loc2 := [(6, 237, 0), (0, 7, 0), (0, 1, 0)]) (p2 := 33) rfl rfl (by decide) rfl rfl ?_
  refine q_goto rfl ?_
  refine q_load (v := (0, 1, 0)) (p2 := 7) rfl rfl rfl rfl ?_
  refine q_load (v := (6, 237, 0)) (p2 := 8) rfl rfl rfl rfl ?_
  refine q_getv (v := (6, 246, 0)) (p2 := 9) rfl hS.1.choose_spec.1 (by decide) hS.1.choose_spec.2.2.2.1 rfl ?_
  refine q_const (p2 := 10) rfl rfl ?_
  refine q_aldv (v := (0, 3, 0)) (p2 := 11) rfl (x_sc_246 hS) (by omega) (by omega) rfl rfl ?_
  refine q_icmp_s (p2 := 12) rfl (by decide) (by omega) (by omega) rfl (fun hb => absurd hb (show ¬ (¬ (1 < 3)) by omega)) (fun _ => ?_)
  refine q_load (v := (0, 7, 0)) (p2 := 13) rfl rfl rfl rfl ?_
  refine q_load (v := (0, 1, 0)) (p2 := 14) rfl rfl rfl rfl ?_
  refine q_iop (w := 7 >>> (1 % 32)) (z := 3) (p2 := 15) rfl (xo_shr (show 7 < 2147483648 by decide) 1) (by decide) rfl ?_
  refine q_const (p2 := 16) rfl rfl ?_
  refine q_iop (w := 3 &&& 1) (z := 1) (p2 := 17) rfl (xo_and 3 1) (by decide) rfl ?_
  refine q_const (p2 := 18) rfl rfl ?_
  refine q_icmp_s (p2 := 19) rfl (by decide) (by omega) (by omega) rfl (fun hb => absurd hb (show ¬ (¬ (1 = 1)) by omega)) (fun _ => ?_)
  refine q_load (v := (6, 237, 0)) (p2 := 20) rfl rfl rfl rfl ?_
  refine q_getv (v := (6, 257, 0)) (p2 := 21) rfl hS.1.choose_spec.1 (by decide) hS.1.choose_spec.2.2.2.2.2.2.1 rfl ?_
  refine q_load (v := (0, 1, 0)) (p2 := 22) rfl rfl rfl rfl ?_
  refine q_aldv (v := (6, 259, 0)) (p2 := 23) rfl (x_sc_257 hS) (by omega) (by omega) rfl rfl ?_
  refine q_const (p2 := 24) rfl rfl ?_
  refine q_aldv (v := (0, 1, 0)) (p2 := 25) rfl (x_sc_259 hS) (by omega) (by omega) rfl rfl ?_
  refine q_load (v := (0, 7, 0)) (p2 := 26) rfl rfl rfl rfl ?_
  refine q_const (p2 := 27) rfl rfl ?_
  refine q_iop (w := 7 ^^^ 4294967295) (z := 4294967288) (p2 := 28) rfl (xo_xor 7 4294967295) (by decide) rfl ?_
  refine q_iop (w := 1 &&& 4294967288) (z := 0) (p2 := 29) rfl (xo_and 1 4294967288) (by decide) rfl ?_
  refine q_if0_s (p2 := 30) rfl (by decide) (by omega) rfl (fun _ => ?_) (fun hb => absurd (show 0 = 0 by omega) hb)
  refine q_iinc (z := 2) (loc2 := [(6, 237, 0), (0, 7, 0), (0, 2, 0)]) (p2 := 33) rfl rfl (by decide) rfl rfl ?_
  refine q_goto rfl ?_
  refine q_load (v := (0, 2, 0)) (p2 := 7) rfl rfl rfl rfl ?_
  refine q_load (v := (6, 237, 0)) (p2 := 8) rfl rfl rfl rfl ?_
  refine q_getv (v := (6, 246, 0)) (p2 := 9) rfl hS.1.choose_spec.1 (by decide) hS.1.choose_spec.2.2.2.1 rfl ?_
  refine q_const (p2 := 10) rfl rfl ?_
  refine q_aldv (v := (0, 3, 0)) (p2 := 11) rfl (x_sc_246 hS) (by omega) (by omega) rfl rfl ?_
  refine q_icmp_s (p2 := 12) rfl (by decide) (by omega) (by omega) rfl (fun hb => absurd hb (show ¬ (¬ (2 < 3)) by omega)) (fun _ => ?_)
  refine q_load (v := (0, 7, 0)) (p2 := 13) rfl rfl rfl rfl ?_
  refine q_load (v := (0, 2, 0)) (p2 := 14) rfl rfl rfl rfl ?_
  refine q_iop (w := 7 >>> (2 % 32)) (z := 1) (p2 := 15) rfl (xo_shr (show 7 < 2147483648 by decide) 2) (by decide) rfl ?_
  refine q_const (p2 := 16) rfl rfl ?_
  refine q_iop (w := 1 &&& 1) (z := 1) (p2 := 17) rfl (xo_and 1 1) (by decide) rfl ?_
  refine q_const (p2 := 18) rfl rfl ?_
  refine q_icmp_s (p2 := 19) rfl (by decide) (by omega) (by omega) rfl (fun hb => absurd hb (show ¬ (¬ (1 = 1)) by omega)) (fun _ => ?_)
  refine q_load (v := (6, 237, 0)) (p2 := 20) rfl rfl rfl rfl ?_
  refine q_getv (v := (6, 257, 0)) (p2 := 21) rfl hS.1.choose_spec.1 (by decide) hS.1.choose_spec.2.2.2.2.2.2.1 rfl ?_
  refine q_load (v := (0, 2, 0)) (p2 := 22) rfl rfl rfl rfl ?_
  refine q_aldv (v := (6, 260, 0)) (p2 := 23) rfl (x_sc_257 hS) (by omega) (by omega) rfl rfl ?_
  refine q_const (p2 := 24) rfl rfl ?_
  refine q_aldv (v := (0, 1, 0)) (p2 := 25) rfl (x_sc_260 hS) (by omega) (by omega) rfl rfl ?_
  refine q_load (v := (0, 7, 0)) (p2 := 26) rfl rfl rfl rfl ?_
  refine q_const (p2 := 27) rfl rfl ?_
  refine q_iop (w := 7 ^^^ 4294967295) (z := 4294967288) (p2 := 28) rfl (xo_xor 7 4294967295) (by decide) rfl ?_
  refine q_iop (w := 1 &&& 4294967288) (z := 0) (p2 := 29) rfl (xo_and 1 4294967288) (by decide) rfl ?_
  refine q_if0_s (p2 := 30) rfl (by decide) (by omega) rfl (fun _ => ?_) (fun hb => absurd (show 0 = 0 by omega) hb)
  refine q_iinc (z := 3) (loc2 := [(6, 237, 0), (0, 7, 0), (0, 3, 0)]) (p2 := 33) rfl rfl (by decide) rfl rfl ?_
  refine q_goto rfl ?_
  refine q_load (v := (0, 3, 0)) (p2 := 7) rfl rfl rfl rfl ?_
  refine q_load (v := (6, 237, 0)) (p2 := 8) rfl rfl rfl rfl ?_
  refine q_getv (v := (6, 246, 0)) (p2 := 9) rfl hS.1.choose_spec.1 (by decide) hS.1.choose_spec.2.2.2.1 rfl ?_
  refine q_const (p2 := 10) rfl rfl ?_
  refine q_aldv (v := (0, 3, 0)) (p2 := 11) rfl (x_sc_246 hS) (by omega) (by omega) rfl rfl ?_
  refine q_icmp_s (p2 := 12) rfl (by decide) (by omega) (by omega) rfl (fun _ => ?_) (fun hb => absurd (show ¬ (3 < 3) by omega) hb)
  refine q_load (v := (6, 237, 0)) (p2 := 35) rfl rfl rfl rfl ?_
  refine q_load (v := (0, 7, 0)) (p2 := 36) rfl rfl rfl rfl ?_
  refine q_callK (xs := [(0, 7, 0), (6, 237, 0)]) (p2 := 37) rfl rfl rfl rfl (x_rcv_s 237 hS.1.choose_spec.1) rfl rfl ?_
  refine x_f_of rfl ?_
  refine q_load (v := (0, 7, 0)) (p2 := 1) rfl rfl rfl rfl ?_
  refine q_load (v := (0, 7, 0)) (p2 := 2) rfl rfl rfl rfl ?_
  refine q_inegz (z := 4294967289) (p2 := 3) rfl (by decide) rfl ?_
  refine q_iop (w := 7 &&& 4294967289) (z := 1) (p2 := 4) rfl (xo_and 7 4294967289) (by decide) rfl ?_
  refine q_store (loc2 := [(6, 237, 0), (0, 7, 0), (0, 1, 0), (11, 0, 0), (11, 0, 0), (11, 0, 0)]) (p2 := 5) rfl rfl rfl rfl rfl ?_
  refine q_const (p2 := 6) rfl rfl ?_
  refine q_store (loc2 := [(6, 237, 0), (0, 7, 0), (0, 1, 0), (0, 0, 0), (11, 0, 0), (11, 0, 0)]) (p2 := 7) rfl rfl rfl rfl rfl ?_
  refine q_load (v := (0, 0, 0)) (p2 := 8) rfl rfl rfl rfl ?_
  refine q_load (v := (6, 237, 0)) (p2 := 9) rfl rfl rfl rfl ?_
  refine q_getv (v := (6, 257, 0)) (p2 := 10) rfl hS.1.choose_spec.1 (by decide) hS.1.choose_spec.2.2.2.2.2.2.1 rfl ?_
  refine q_alen (p2 := 11) rfl (x_sc_257 hS) rfl (by omega) rfl ?_
  refine q_icmp_s (p2 := 12) rfl (by decide) (by omega) (by omega) rfl (fun hb => absurd hb (show ¬ (¬ (0 < 12)) by omega)) (fun _ => ?_)
  refine q_load (v := (0, 1, 0)) (p2 := 13) rfl rfl rfl rfl ?_
  refine q_load (v := (0, 7, 0)) (p2 := 14) rfl rfl rfl rfl ?_
  refine q_icmp_s (p2 := 15) rfl (by decide) (by omega) (by omega) rfl (fun hb => absurd hb (show ¬ (1 = 7) by omega)) (fun _ => ?_)
  refine q_const (p2 := 16) rfl rfl ?_
  refine q_store (loc2 := [(6, 237, 0), (0, 7, 0), (0, 1, 0), (0, 0, 0), (0, 0, 0), (11, 0, 0)]) (p2 := 17) rfl rfl rfl rfl rfl ?_
  refine q_load (v := (0, 0, 0)) (p2 := 18) rfl rfl rfl rfl ?_
  refine q_load (v := (6, 237, 0)) (p2 := 19) rfl rfl rfl rfl ?_
  refine q_getv (v := (6, 246, 0)) (p2 := 20) rfl hS.1.choose_spec.1 (by decide) hS.1.choose_spec.2.2.2.1 rfl ?_
  refine q_const (p2 := 21) rfl rfl ?_
  refine q_aldv (v := (0, 3, 0)) (p2 := 22) rfl (x_sc_246 hS) (by omega) (by omega) rfl rfl ?_
  refine q_icmp_s (p2 := 23) rfl (by decide) (by omega) (by omega) rfl (fun hb => absurd hb (show ¬ (¬ (0 < 3)) by omega)) (fun _ => ?_)
  refine q_load (v := (0, 7, 0)) (p2 := 24) rfl rfl rfl rfl ?_
  refine q_load (v := (0, 0, 0)) (p2 := 25) rfl rfl rfl rfl ?_
  refine q_iop (w := 7 >>> (0 % 32)) (z := 7) (p2 := 26) rfl (xo_shr (show 7 < 2147483648 by decide) 0) (by decide) rfl ?_
  refine q_const (p2 := 27) rfl rfl ?_
  refine q_iop (w := 7 &&& 1) (z := 1) (p2 := 28) rfl (xo_and 7 1) (by decide) rfl ?_
  refine q_const (p2 := 29) rfl rfl ?_
  refine q_icmp_s (p2 := 30) rfl (by decide) (by omega) (by omega) rfl (fun hb => absurd hb (show ¬ (¬ (1 = 1)) by omega)) (fun _ => ?_)
  refine q_load (v := (6, 237, 0)) (p2 := 31) rfl rfl rfl rfl ?_
  refine q_getv (v := (6, 257, 0)) (p2 := 32) rfl hS.1.choose_spec.1 (by decide) hS.1.choose_spec.2.2.2.2.2.2.1 rfl ?_
  refine q_load (v := (0, 0, 0)) (p2 := 33) rfl rfl rfl rfl ?_
  refine q_aldv (v := (6, 258, 0)) (p2 := 34) rfl (x_sc_257 hS) (by omega) (by omega) rfl rfl ?_
  refine q_const (p2 := 35) rfl rfl ?_
  refine q_aldv (v := (0, 0, 0)) (p2 := 36) rfl (x_sc_258 hS) (by omega) (by omega) rfl rfl ?_
  refine q_load (v := (0, 7, 0)) (p2 := 37) rfl rfl rfl rfl ?_
  refine q_iop (w := 0 &&& 7) (z := 0) (p2 := 38) rfl (xo_and 0 7) (by decide) rfl ?_
  refine q_goto rfl ?_
  refine q_store (loc2 := [(6, 237, 0), (0, 7, 0), (0, 1, 0), (0, 0, 0), (0, 0, 0), (0, 0, 0)]) (p2 := 41) rfl rfl rfl rfl rfl ?_
  refine q_load (v := (0, 1, 0)) (p2 := 42) rfl rfl rfl rfl ?_
  refine q_load (v := (0, 0, 0)) (p2 := 43) rfl rfl rfl rfl ?_
  refine q_iop (w := 1 >>> (0 % 32)) (z := 1) (p2 := 44) rfl (xo_shr (show 1 < 2147483648 by decide) 0) (by decide) rfl ?_
  refine q_const (p2 := 45) rfl rfl ?_
  refine q_iop (w := 1 &&& 1) (z := 1) (p2 := 46) rfl (xo_and 1 1) (by decide) rfl ?_
  refine q_const (p2 := 47) rfl rfl ?_
  refine q_icmp_s (p2 := 48) rfl (by decide) (by omega) (by omega) rfl (fun _ => ?_) (fun hb => absurd (show 1 = 1 by omega) hb)
  refine q_load (v := (0, 1, 0)) (p2 := 53) rfl rfl rfl rfl ?_
  refine q_load (v := (0, 0, 0)) (p2 := 54) rfl rfl rfl rfl ?_
  refine q_load (v := (0, 7, 0)) (p2 := 55) rfl rfl rfl rfl ?_
  refine q_const (p2 := 56) rfl rfl ?_
  refine q_load (v := (0, 0, 0)) (p2 := 57) rfl rfl rfl rfl ?_
  refine q_iop (w := 1 <<< (0 % 32)) (z := 1) (p2 := 58) rfl (xo_shl 1 0) (by decide) rfl ?_
  refine q_iop (w := 7 &&& 1) (z := 1) (p2 := 59) rfl (xo_and 7 1) (by decide) rfl ?_
  refine q_iop (w := 0 ||| 1) (z := 1) (p2 := 60) rfl (xo_or 0 1) (by decide) rfl ?_
  refine q_iop (w := 1 ||| 1) (z := 1) (p2 := 61) rfl (xo_or 1 1) (by decide) rfl ?_
  refine q_store (loc2 := [(6, 237, 0), (0, 7, 0), (0, 1, 0), (0, 0, 0), (0, 0, 0), (0, 0, 0)]) (p2 := 62) rfl rfl rfl rfl rfl ?_
  refine q_iinc (z := 1) (loc2 := [(6, 237, 0), (0, 7, 0), (0, 1, 0), (0, 0, 0), (0, 1, 0), (0, 0, 0)]) (p2 := 63) rfl rfl (by decide) rfl rfl ?_
  refine q_goto rfl ?_
  refine q_load (v := (0, 1, 0)) (p2 := 18) rfl rfl rfl rfl ?_
  refine q_load (v := (6, 237, 0)) (p2 := 19) rfl rfl rfl rfl ?_
  refine q_getv (v := (6, 246, 0)) (p2 := 20) rfl hS.1.choose_spec.1 (by decide) hS.1.choose_spec.2.2.2.1 rfl ?_
  refine q_const (p2 := 21) rfl rfl ?_
  refine q_aldv (v := (0, 3, 0)) (p2 := 22) rfl (x_sc_246 hS) (by omega) (by omega) rfl rfl ?_
  refine q_icmp_s (p2 := 23) rfl (by decide) (by omega) (by omega) rfl (fun hb => absurd hb (show ¬ (¬ (1 < 3)) by omega)) (fun _ => ?_)
  refine q_load (v := (0, 7, 0)) (p2 := 24) rfl rfl rfl rfl ?_
  refine q_load (v := (0, 1, 0)) (p2 := 25) rfl rfl rfl rfl ?_
  refine q_iop (w := 7 >>> (1 % 32)) (z := 3) (p2 := 26) rfl (xo_shr (show 7 < 2147483648 by decide) 1) (by decide) rfl ?_
  refine q_const (p2 := 27) rfl rfl ?_
  refine q_iop (w := 3 &&& 1) (z := 1) (p2 := 28) rfl (xo_and 3 1) (by decide) rfl ?_
  refine q_const (p2 := 29) rfl rfl ?_
  refine q_icmp_s (p2 := 30) rfl (by decide) (by omega) (by omega) rfl (fun hb => absurd hb (show ¬ (¬ (1 = 1)) by omega)) (fun _ => ?_)
  refine q_load (v := (6, 237, 0)) (p2 := 31) rfl rfl rfl rfl ?_
  refine q_getv (v := (6, 257, 0)) (p2 := 32) rfl hS.1.choose_spec.1 (by decide) hS.1.choose_spec.2.2.2.2.2.2.1 rfl ?_
  refine q_load (v := (0, 1, 0)) (p2 := 33) rfl rfl rfl rfl ?_
  refine q_aldv (v := (6, 259, 0)) (p2 := 34) rfl (x_sc_257 hS) (by omega) (by omega) rfl rfl ?_
  refine q_const (p2 := 35) rfl rfl ?_
  refine q_aldv (v := (0, 1, 0)) (p2 := 36) rfl (x_sc_259 hS) (by omega) (by omega) rfl rfl ?_
  refine q_load (v := (0, 7, 0)) (p2 := 37) rfl rfl rfl rfl ?_
  refine q_iop (w := 1 &&& 7) (z := 1) (p2 := 38) rfl (xo_and 1 7) (by decide) rfl ?_
  refine q_goto rfl ?_
  refine q_store (loc2 := [(6, 237, 0), (0, 7, 0), (0, 1, 0), (0, 0, 0), (0, 1, 0), (0, 1, 0)]) (p2 := 41) rfl rfl rfl rfl rfl ?_
  refine q_load (v := (0, 1, 0)) (p2 := 42) rfl rfl rfl rfl ?_
  refine q_load (v := (0, 1, 0)) (p2 := 43) rfl rfl rfl rfl ?_
  refine q_iop (w := 1 >>> (1 % 32)) (z := 0) (p2 := 44) rfl (xo_shr (show 1 < 2147483648 by decide) 1) (by decide) rfl ?_
  refine q_const (p2 := 45) rfl rfl ?_
  refine q_iop (w := 0 &&& 1) (z := 0) (p2 := 46) rfl (xo_and 0 1) (by decide) rfl ?_
  refine q_const (p2 := 47) rfl rfl ?_
  refine q_icmp_s (p2 := 48) rfl (by decide) (by omega) (by omega) rfl (fun hb => absurd hb (show ¬ (0 = 1) by omega)) (fun _ => ?_)
  refine q_load (v := (0, 1, 0)) (p2 := 49) rfl rfl rfl rfl ?_
  refine q_load (v := (0, 1, 0)) (p2 := 50) rfl rfl rfl rfl ?_
  refine q_iop (w := 1 &&& 1) (z := 1) (p2 := 51) rfl (xo_and 1 1) (by decide) rfl ?_
  refine q_if0_s (p2 := 52) rfl (by decide) (by omega) rfl (fun hb => absurd hb (show ¬ (1 = 0) by omega)) (fun _ => ?_)
  refine q_load (v := (0, 1, 0)) (p2 := 53) rfl rfl rfl rfl ?_
  refine q_load (v := (0, 1, 0)) (p2 := 54) rfl rfl rfl rfl ?_
  refine q_load (v := (0, 7, 0)) (p2 := 55) rfl rfl rfl rfl ?_
  refine q_const (p2 := 56) rfl rfl ?_
  refine q_load (v := (0, 1, 0)) (p2 := 57) rfl rfl rfl rfl ?_
  refine q_iop (w := 1 <<< (1 % 32)) (z := 2) (p2 := 58) rfl (xo_shl 1 1) (by decide) rfl ?_
  refine q_iop (w := 7 &&& 2) (z := 2) (p2 := 59) rfl (xo_and 7 2) (by decide) rfl ?_
  refine q_iop (w := 1 ||| 2) (z := 3) (p2 := 60) rfl (xo_or 1 2) (by decide) rfl ?_
  refine q_iop (w := 1 ||| 3) (z := 3) (p2 := 61) rfl (xo_or 1 3) (by decide) rfl ?_
  refine q_store (loc2 := [(6, 237, 0), (0, 7, 0), (0, 3, 0), (0, 0, 0), (0, 1, 0), (0, 1, 0)]) (p2 := 62) rfl rfl rfl rfl rfl ?_
  refine q_iinc (z := 2) (loc2 := [(6, 237, 0), (0, 7, 0), (0, 3, 0), (0, 0, 0), (0, 2, 0), (0, 1, 0)]) (p2 := 63) rfl rfl (by decide) rfl rfl ?_
  refine q_goto rfl ?_
  refine q_load (v := (0, 2, 0)) (p2 := 18) rfl rfl rfl rfl ?_
  refine q_load (v := (6, 237, 0)) (p2 := 19) rfl rfl rfl rfl ?_
  refine q_getv (v := (6, 246, 0)) (p2 := 20) rfl hS.1.choose_spec.1 (by decide) hS.1.choose_spec.2.2.2.1 rfl ?_
  refine q_const (p2 := 21) rfl rfl ?_
  refine q_aldv (v := (0, 3, 0)) (p2 := 22) rfl (x_sc_246 hS) (by omega) (by omega) rfl rfl ?_
  refine q_icmp_s (p2 := 23) rfl (by decide) (by omega) (by omega) rfl (fun hb => absurd hb (show ¬ (¬ (2 < 3)) by omega)) (fun _ => ?_)
  refine q_load (v := (0, 7, 0)) (p2 := 24) rfl rfl rfl rfl ?_
  refine q_load (v := (0, 2, 0)) (p2 := 25) rfl rfl rfl rfl ?_
  refine q_iop (w := 7 >>> (2 % 32)) (z := 1) (p2 := 26) rfl (xo_shr (show 7 < 2147483648 by decide) 2) (by decide) rfl ?_
  refine q_const (p2 := 27) rfl rfl ?_
  refine q_iop (w := 1 &&& 1) (z := 1) (p2 := 28) rfl (xo_and 1 1) (by decide) rfl ?_
  refine q_const (p2 := 29) rfl rfl ?_
  refine q_icmp_s (p2 := 30) rfl (by decide) (by omega) (by omega) rfl (fun hb => absurd hb (show ¬ (¬ (1 = 1)) by omega)) (fun _ => ?_)
  refine q_load (v := (6, 237, 0)) (p2 := 31) rfl rfl rfl rfl ?_
  refine q_getv (v := (6, 257, 0)) (p2 := 32) rfl hS.1.choose_spec.1 (by decide) hS.1.choose_spec.2.2.2.2.2.2.1 rfl ?_
  refine q_load (v := (0, 2, 0)) (p2 := 33) rfl rfl rfl rfl ?_
  refine q_aldv (v := (6, 260, 0)) (p2 := 34) rfl (x_sc_257 hS) (by omega) (by omega) rfl rfl ?_
  refine q_const (p2 := 35) rfl rfl ?_
  refine q_aldv (v := (0, 1, 0)) (p2 := 36) rfl (x_sc_260 hS) (by omega) (by omega) rfl rfl ?_
  refine q_load (v := (0, 7, 0)) (p2 := 37) rfl rfl rfl rfl ?_
  refine q_iop (w := 1 &&& 7) (z := 1) (p2 := 38) rfl (xo_and 1 7) (by decide) rfl ?_
  refine q_goto rfl ?_
  refine q_store (loc2 := [(6, 237, 0), (0, 7, 0), (0, 3, 0), (0, 0, 0), (0, 2, 0), (0, 1, 0)]) (p2 := 41) rfl rfl rfl rfl rfl ?_
  refine q_load (v := (0, 3, 0)) (p2 := 42) rfl rfl rfl rfl ?_
  refine q_load (v := (0, 2, 0)) (p2 := 43) rfl rfl rfl rfl ?_
  refine q_iop (w := 3 >>> (2 % 32)) (z := 0) (p2 := 44) rfl (xo_shr (show 3 < 2147483648 by decide) 2) (by decide) rfl ?_
  refine q_const (p2 := 45) rfl rfl ?_
  refine q_iop (w := 0 &&& 1) (z := 0) (p2 := 46) rfl (xo_and 0 1) (by decide) rfl ?_
  refine q_const (p2 := 47) rfl rfl ?_
  refine q_icmp_s (p2 := 48) rfl (by decide) (by omega) (by omega) rfl (fun hb => absurd hb (show ¬ (0 = 1) by omega)) (fun _ => ?_)
  refine q_load (v := (0, 1, 0)) (p2 := 49) rfl rfl rfl rfl ?_
  refine q_load (v := (0, 3, 0)) (p2 := 50) rfl rfl rfl rfl ?_
  refine q_iop (w := 1 &&& 3) (z := 1) (p2 := 51) rfl (xo_and 1 3) (by decide) rfl ?_
  refine q_if0_s (p2 := 52) rfl (by decide) (by omega) rfl (fun hb => absurd hb (show ¬ (1 = 0) by omega)) (fun _ => ?_)
  refine q_load (v := (0, 3, 0)) (p2 := 53) rfl rfl rfl rfl ?_
  refine q_load (v := (0, 1, 0)) (p2 := 54) rfl rfl rfl rfl ?_
  refine q_load (v := (0, 7, 0)) (p2 := 55) rfl rfl rfl rfl ?_
  refine q_const (p2 := 56) rfl rfl ?_
  refine q_load (v := (0, 2, 0)) (p2 := 57) rfl rfl rfl rfl ?_
  refine q_iop (w := 1 <<< (2 % 32)) (z := 4) (p2 := 58) rfl (xo_shl 1 2) (by decide) rfl ?_
  refine q_iop (w := 7 &&& 4) (z := 4) (p2 := 59) rfl (xo_and 7 4) (by decide) rfl ?_
  refine q_iop (w := 1 ||| 4) (z := 5) (p2 := 60) rfl (xo_or 1 4) (by decide) rfl ?_
  refine q_iop (w := 3 ||| 5) (z := 7) (p2 := 61) rfl (xo_or 3 5) (by decide) rfl ?_
  refine q_store (loc2 := [(6, 237, 0), (0, 7, 0), (0, 7, 0), (0, 0, 0), (0, 2, 0), (0, 1, 0)]) (p2 := 62) rfl rfl rfl rfl rfl ?_
  refine q_iinc (z := 3) (loc2 := [(6, 237, 0), (0, 7, 0), (0, 7, 0), (0, 0, 0), (0, 3, 0), (0, 1, 0)]) (p2 := 63) rfl rfl (by decide) rfl rfl ?_
  refine q_goto rfl ?_
  refine q_load (v := (0, 3, 0)) (p2 := 18) rfl rfl rfl rfl ?_
  refine q_load (v := (6, 237, 0)) (p2 := 19) rfl rfl rfl rfl ?_
  refine q_getv (v := (6, 246, 0)) (p2 := 20) rfl hS.1.choose_spec.1 (by decide) hS.1.choose_spec.2.2.2.1 rfl ?_
  refine q_const (p2 := 21) rfl rfl ?_
  refine q_aldv (v := (0, 3, 0)) (p2 := 22) rfl (x_sc_246 hS) (by omega) (by omega) rfl rfl ?_
  refine q_icmp_s (p2 := 23) rfl (by decide) (by omega) (by omega) rfl (fun _ => ?_) (fun hb => absurd (show ¬ (3 < 3) by omega) hb)
  refine q_iinc (z := 1) (loc2 := [(6, 237, 0), (0, 7, 0), (0, 7, 0), (0, 1, 0), (0, 3, 0), (0, 1, 0)]) (p2 := 65) rfl rfl (by decide) rfl rfl ?_
  refine q_goto rfl ?_
  refine q_load (v := (0, 1, 0)) (p2 := 8) rfl rfl rfl rfl ?_
  refine q_load (v := (6, 237, 0)) (p2 := 9) rfl rfl rfl rfl ?_
  refine q_getv (v := (6, 257, 0)) (p2 := 10) rfl hS.1.choose_spec.1 (by decide) hS.1.choose_spec.2.2.2.2.2.2.1 rfl ?_
  refine q_alen (p2 := 11) rfl (x_sc_257 hS) rfl (by omega) rfl ?_
  refine q_icmp_s (p2 := 12) rfl (by decide) (by omega) (by omega) rfl (fun hb => absurd hb (show ¬ (¬ (1 < 12)) by omega)) (fun _ => ?_)
  refine q_load (v := (0, 7, 0)) (p2 := 13) rfl rfl rfl rfl ?_
  refine q_load (v := (0, 7, 0)) (p2 := 14) rfl rfl rfl rfl ?_
  refine q_icmp_s (p2 := 15) rfl (by decide) (by omega) (by omega) rfl (fun _ => ?_) (fun hb => absurd (show 7 = 7 by omega) hb)
  refine q_load (v := (0, 7, 0)) (p2 := 67) rfl rfl rfl rfl ?_
  refine q_load (v := (0, 7, 0)) (p2 := 68) rfl rfl rfl rfl ?_
  refine q_icmp_s (p2 := 69) rfl (by decide) (by omega) (by omega) rfl (fun hb => absurd hb (show ¬ (¬ (7 = 7)) by omega)) (fun _ => ?_)
  refine q_const (p2 := 70) rfl rfl ?_
  refine q_goto rfl ?_
  refine q_retv (v := (0, 1, 0)) rfl rfl ⟨rfl, by omega, by omega, ?_⟩
  refine q_if0_s (p2 := 38) rfl (by decide) (by omega) rfl (fun _ => ?_) (fun hb => absurd (show ¬ (1 = 0) by omega) hb)
  refine q_load (v := (6, 237, 0)) (p2 := 41) rfl rfl rfl rfl ?_
  refine q_load (v := (0, 7, 0)) (p2 := 42) rfl rfl rfl rfl ?_
  refine q_callK (xs := [(0, 7, 0), (6, 237, 0)]) (p2 := 43) rfl rfl rfl rfl (x_rcv_s 237 hS.1.choose_spec.1) rfl rfl ?_
  refine x_f_of rfl ?_
  refine q_const (p2 := 1) rfl rfl ?_
  refine q_store (loc2 := [(6, 237, 0), (0, 7, 0), (0, 0, 0)]) (p2 := 2) rfl rfl rfl rfl rfl ?_
  refine q_load (v := (0, 0, 0)) (p2 := 3) rfl rfl rfl rfl ?_
  refine q_load (v := (6, 237, 0)) (p2 := 4) rfl rfl rfl rfl ?_
  refine q_getv (v := (6, 246, 0)) (p2 := 5) rfl hS.1.choose_spec.1 (by decide) hS.1.choose_spec.2.2.2.1 rfl ?_
  refine q_const (p2 := 6) rfl rfl ?_
  refine q_aldv (v := (0, 3, 0)) (p2 := 7) rfl (x_sc_246 hS) (by omega) (by omega) rfl rfl ?_
  refine q_icmp_s (p2 := 8) rfl (by decide) (by omega) (by omega) rfl (fun hb => absurd hb (show ¬ (¬ (0 < 3)) by omega)) (fun _ => ?_)
  refine q_load (v := (0, 7, 0)) (p2 := 9) rfl rfl rfl rfl ?_
  refine q_load (v := (0, 0, 0)) (p2 := 10) rfl rfl rfl rfl ?_
  refine q_iop (w := 7 >>> (0 % 32)) (z := 7) (p2 := 11) rfl (xo_shr (show 7 < 2147483648 by decide) 0) (by decide) rfl ?_
  refine q_const (p2 := 12) rfl rfl ?_
  refine q_iop (w := 7 &&& 1) (z := 1) (p2 := 13) rfl (xo_and 7 1) (by decide) rfl ?_
  refine q_const (p2 := 14) rfl rfl ?_
  refine q_icmp_s (p2 := 15) rfl (by decide) (by omega) (by omega) rfl (fun hb => absurd hb (show ¬ (¬ (1 = 1)) by omega)) (fun _ => ?_)
  refine q_load (v := (6, 237, 0)) (p2 := 16) rfl rfl rfl rfl ?_
  refine q_getv (v := (6, 257, 0)) (p2 := 17) rfl hS.1.choose_spec.1 (by decide) hS.1.choose_spec.2.2.2.2.2.2.1 rfl ?_
  refine q_load (v := (0, 0, 0)) (p2 := 18) rfl rfl rfl rfl ?_
  refine q_aldv (v := (6, 258, 0)) (p2 := 19) rfl (x_sc_257 hS) (by omega) (by omega) rfl rfl ?_
  refine q_const (p2 := 20) rfl rfl ?_
  refine q_aldv (v := (0, 1, 0)) (p2 := 21) rfl (x_sc_258 hS) (by omega) (by omega) rfl rfl ?_
  refine q_const (p2 := 22) rfl rfl ?_
  refine q_icmp_s (p2 := 23) rfl (by decide) (by omega) (by omega) rfl (fun hb => absurd hb (show ¬ (¬ (1 = 1)) by omega)) (fun _ => ?_)
  refine q_load (v := (6, 237, 0)) (p2 := 24) rfl rfl rfl rfl ?_
  refine q_load (v := (0, 0, 0)) (p2 := 25) rfl rfl rfl rfl ?_
  refine q_load (v := (0, 7, 0)) (p2 := 26) rfl rfl rfl rfl ?_
  refine q_callK (xs := [(0, 7, 0), (0, 0, 0), (6, 237, 0)]) (p2 := 27) rfl rfl rfl rfl (x_rcv_s 237 hS.1.choose_spec.1) rfl rfl ?_
  refine x_f_of rfl ?_
  refine q_const (p2 := 1) rfl rfl ?_
  refine q_store (loc2 := [(6, 237, 0), (0, 0, 0), (0, 7, 0), (0, 0, 0)]) (p2 := 2) rfl rfl rfl rfl rfl ?_
  refine q_load (v := (0, 0, 0)) (p2 := 3) rfl rfl rfl rfl ?_
  refine q_load (v := (6, 237, 0)) (p2 := 4) rfl rfl rfl rfl ?_
  refine q_getv (v := (6, 246, 0)) (p2 := 5) rfl hS.1.choose_spec.1 (by decide) hS.1.choose_spec.2.2.2.1 rfl ?_
  refine q_const (p2 := 6) rfl rfl ?_
  refine q_aldv (v := (0, 3, 0)) (p2 := 7) rfl (x_sc_246 hS) (by omega) (by omega) rfl rfl ?_
  refine q_icmp_s (p2 := 8) rfl (by decide) (by omega) (by omega) rfl (fun hb => absurd hb (show ¬ (¬ (0 < 3)) by omega)) (fun _ => ?_)
  refine q_load (v := (0, 7, 0)) (p2 := 9) rfl rfl rfl rfl ?_
  refine q_load (v := (0, 0, 0)) (p2 := 10) rfl rfl rfl rfl ?_
  refine q_iop (w := 7 >>> (0 % 32)) (z := 7) (p2 := 11) rfl (xo_shr (show 7 < 2147483648 by decide) 0) (by decide) rfl ?_
  refine q_const (p2 := 12) rfl rfl ?_
  refine q_iop (w := 7 &&& 1) (z := 1) (p2 := 13) rfl (xo_and 7 1) (by decide) rfl ?_
  refine q_const (p2 := 14) rfl rfl ?_
  refine q_icmp_s (p2 := 15) rfl (by decide) (by omega) (by omega) rfl (fun hb => absurd hb (show ¬ (¬ (1 = 1)) by omega)) (fun _ => ?_)
  refine q_load (v := (6, 237, 0)) (p2 := 16) rfl rfl rfl rfl ?_
  refine q_getv (v := (6, 257, 0)) (p2 := 17) rfl hS.1.choose_spec.1 (by decide) hS.1.choose_spec.2.2.2.2.2.2.1 rfl ?_
  refine q_load (v := (0, 0, 0)) (p2 := 18) rfl rfl rfl rfl ?_
  refine q_aldv (v := (6, 258, 0)) (p2 := 19) rfl (x_sc_257 hS) (by omega) (by omega) rfl rfl ?_
  refine q_const (p2 := 20) rfl rfl ?_
  refine q_aldv (v := (0, 0, 0)) (p2 := 21) rfl (x_sc_258 hS) (by omega) (by omega) rfl rfl ?_
  refine q_load (v := (0, 0, 0)) (p2 := 22) rfl rfl rfl rfl ?_
  refine q_iop (w := 0 >>> (0 % 32)) (z := 0) (p2 := 23) rfl (xo_shr (show 0 < 2147483648 by decide) 0) (by decide) rfl ?_
  refine q_const (p2 := 24) rfl rfl ?_
  refine q_iop (w := 0 &&& 1) (z := 0) (p2 := 25) rfl (xo_and 0 1) (by decide) rfl ?_
  refine q_const (p2 := 26) rfl rfl ?_
  refine q_icmp_s (p2 := 27) rfl (by decide) (by omega) (by omega) rfl (fun _ => ?_) (fun hb => absurd (show ¬ (0 = 1) by omega) hb)
  refine q_iinc (z := 1) (loc2 := [(6, 237, 0), (0, 0, 0), (0, 7, 0), (0, 1, 0)]) (p2 := 30) rfl rfl (by decide) rfl rfl ?_
  refine q_goto rfl ?_
  refine q_load (v := (0, 1, 0)) (p2 := 3) rfl rfl rfl rfl ?_
  refine q_load (v := (6, 237, 0)) (p2 := 4) rfl rfl rfl rfl ?_
  refine q_getv (v := (6, 246, 0)) (p2 := 5) rfl hS.1.choose_spec.1 (by decide) hS.1.choose_spec.2.2.2.1 rfl ?_
  refine q_const (p2 := 6) rfl rfl ?_
  refine q_aldv (v := (0, 3, 0)) (p2 := 7) rfl (x_sc_246 hS) (by omega) (by omega) rfl rfl ?_
  refine q_icmp_s (p2 := 8) rfl (by decide) (by omega) (by omega) rfl (fun hb => absurd hb (show ¬ (¬ (1 < 3)) by omega)) (fun _ => ?_)
  refine q_load (v := (0, 7, 0)) (p2 := 9) rfl rfl rfl rfl ?_
  refine q_load (v := (0, 1, 0)) (p2 := 10) rfl rfl rfl rfl ?_
  refine q_iop (w := 7 >>> (1 % 32)) (z := 3) (p2 := 11) rfl (xo_shr (show 7 < 2147483648 by decide) 1) (by decide) rfl ?_
  refine q_const (p2 := 12) rfl rfl ?_
  refine q_iop (w := 3 &&& 1) (z := 1) (p2 := 13) rfl (xo_and 3 1) (by decide) rfl ?_
  refine q_const (p2 := 14) rfl rfl ?_
  refine q_icmp_s (p2 := 15) rfl (by decide) (by omega) (by omega) rfl (fun hb => absurd hb (show ¬ (¬ (1 = 1)) by omega)) (fun _ => ?_)
  refine q_load (v := (6, 237, 0)) (p2 := 16) rfl rfl rfl rfl ?_
  refine q_getv (v := (6, 257, 0)) (p2 := 17) rfl hS.1.choose_spec.1 (by decide) hS.1.choose_spec.2.2.2.2.2.2.1 rfl ?_
  refine q_load (v := (0, 1, 0)) (p2 := 18) rfl rfl rfl rfl ?_
  refine q_aldv (v := (6, 259, 0)) (p2 := 19) rfl (x_sc_257 hS) (by omega) (by omega) rfl rfl ?_
  refine q_const (p2 := 20) rfl rfl ?_
  refine q_aldv (v := (0, 1, 0)) (p2 := 21) rfl (x_sc_259 hS) (by omega) (by omega) rfl rfl ?_
  refine q_load (v := (0, 0, 0)) (p2 := 22) rfl rfl rfl rfl ?_
  refine q_iop (w := 1 >>> (0 % 32)) (z := 1) (p2 := 23) rfl (xo_shr (show 1 < 2147483648 by decide) 0) (by decide) rfl ?_
  refine q_const (p2 := 24) rfl rfl ?_
  refine q_iop (w := 1 &&& 1) (z := 1) (p2 := 25) rfl (xo_and 1 1) (by decide) rfl ?_
  refine q_const (p2 := 26) rfl rfl ?_
  refine q_icmp_s (p2 := 27) rfl (by decide) (by omega) (by omega) rfl (fun hb => absurd hb (show ¬ (¬ (1 = 1)) by omega)) (fun _ => ?_)
  refine q_const (p2 := 28) rfl rfl ?_
  refine q_retv (v := (0, 1, 0)) rfl rfl ⟨rfl, by omega, by omega, ?_⟩
  refine q_if0_s (p2 := 28) rfl (by decide) (by omega) rfl (fun _ => ?_) (fun hb => absurd (show ¬ (1 = 0) by omega) hb)
  refine q_iinc (z := 1) (loc2 := [(6, 237, 0), (0, 7, 0), (0, 1, 0)]) (p2 := 31) rfl rfl (by decide) rfl rfl ?_
  refine q_goto rfl ?_
  refine q_load (v := (0, 1, 0)) (p2 := 3) rfl rfl rfl rfl ?_
  refine q_load (v := (6, 237, 0)) (p2 := 4) rfl rfl rfl rfl ?_
  refine q_getv (v := (6, 246, 0)) (p2 := 5) rfl hS.1.choose_spec.1 (by decide) hS.1.choose_spec.2.2.2.1 rfl ?_
  refine q_const (p2 := 6) rfl rfl ?_
  refine q_aldv (v := (0, 3, 0)) (p2 := 7) rfl (x_sc_246 hS) (by omega) (by omega) rfl rfl ?_
  refine q_icmp_s (p2 := 8) rfl (by decide) (by omega) (by omega) rfl (fun hb => absurd hb (show ¬ (¬ (1 < 3)) by omega)) (fun _ => ?_)
  refine q_load (v := (0, 7, 0)) (p2 := 9) rfl rfl rfl rfl ?_
  refine q_load (v := (0, 1, 0)) (p2 := 10) rfl rfl rfl rfl ?_
  refine q_iop (w := 7 >>> (1 % 32)) (z := 3) (p2 := 11) rfl (xo_shr (show 7 < 2147483648 by decide) 1) (by decide) rfl ?_
  refine q_const (p2 := 12) rfl rfl ?_
  refine q_iop (w := 3 &&& 1) (z := 1) (p2 := 13) rfl (xo_and 3 1) (by decide) rfl ?_
  refine q_const (p2 := 14) rfl rfl ?_
  refine q_icmp_s (p2 := 15) rfl (by decide) (by omega) (by omega) rfl (fun hb => absurd hb (show ¬ (¬ (1 = 1)) by omega)) (fun _ => ?_)
  refine q_load (v := (6, 237, 0)) (p2 := 16) rfl rfl rfl rfl ?_
  refine q_getv (v := (6, 257, 0)) (p2 := 17) rfl hS.1.choose_spec.1 (by decide) hS.1.choose_spec.2.2.2.2.2.2.1 rfl ?_
  refine q_load (v := (0, 1, 0)) (p2 := 18) rfl rfl rfl rfl ?_
  refine q_aldv (v := (6, 259, 0)) (p2 := 19) rfl (x_sc_257 hS) (by omega) (by omega) rfl rfl ?_
  refine q_const (p2 := 20) rfl rfl ?_
  refine q_aldv (v := (0, 0, 0)) (p2 := 21) rfl (x_sc_259 hS) (by omega) (by omega) rfl rfl ?_
  refine q_const (p2 := 22) rfl rfl ?_
  refine q_icmp_s (p2 := 23) rfl (by decide) (by omega) (by omega) rfl (fun _ => ?_) (fun hb => absurd (show ¬ (0 = 1) by omega) hb)
  refine q_iinc (z := 2) (loc2 := [(6, 237, 0), (0, 7, 0), (0, 2, 0)]) (p2 := 31) rfl rfl (by decide) rfl rfl ?_
  refine q_goto rfl ?_
  refine q_load (v := (0, 2, 0)) (p2 := 3) rfl rfl rfl rfl ?_
  refine q_load (v := (6, 237, 0)) (p2 := 4) rfl rfl rfl rfl ?_
  refine q_getv (v := (6, 246, 0)) (p2 := 5) rfl hS.1.choose_spec.1 (by decide) hS.1.choose_spec.2.2.2.1 rfl ?_
  refine q_const (p2 := 6) rfl rfl ?_
  refine q_aldv (v := (0, 3, 0)) (p2 := 7) rfl (x_sc_246 hS) (by omega) (by omega) rfl rfl ?_
  refine q_icmp_s (p2 := 8) rfl (by decide) (by omega) (by omega) rfl (fun hb => absurd hb (show ¬ (¬ (2 < 3)) by omega)) (fun _ => ?_)
  refine q_load (v := (0, 7, 0)) (p2 := 9) rfl rfl rfl rfl ?_
  refine q_load (v := (0, 2, 0)) (p2 := 10) rfl rfl rfl rfl ?_
  refine q_iop (w := 7 >>> (2 % 32)) (z := 1) (p2 := 11) rfl (xo_shr (show 7 < 2147483648 by decide) 2) (by decide) rfl ?_
  refine q_const (p2 := 12) rfl rfl ?_
  refine q_iop (w := 1 &&& 1) (z := 1) (p2 := 13) rfl (xo_and 1 1) (by decide) rfl ?_
  refine q_const (p2 := 14) rfl rfl ?_
  refine q_icmp_s (p2 := 15) rfl (by decide) (by omega) (by omega) rfl (fun hb => absurd hb (show ¬ (¬ (1 = 1)) by omega)) (fun _ => ?_)
  refine q_load (v := (6, 237, 0)) (p2 := 16) rfl rfl rfl rfl ?_
  refine q_getv (v := (6, 257, 0)) (p2 := 17) rfl hS.1.choose_spec.1 (by decide) hS.1.choose_spec.2.2.2.2.2.2.1 rfl ?_
  refine q_load (v := (0, 2, 0)) (p2 := 18) rfl rfl rfl rfl ?_
  refine q_aldv (v := (6, 260, 0)) (p2 := 19) rfl (x_sc_257 hS) (by omega) (by omega) rfl rfl ?_
  refine q_const (p2 := 20) rfl rfl ?_
  refine q_aldv (v := (0, 0, 0)) (p2 := 21) rfl (x_sc_260 hS) (by omega) (by omega) rfl rfl ?_
  refine q_const (p2 := 22) rfl rfl ?_
  refine q_icmp_s (p2 := 23) rfl (by decide) (by omega) (by omega) rfl (fun _ => ?_) (fun hb => absurd (show ¬ (0 = 1) by omega) hb)
  refine q_iinc (z := 3) (loc2 := [(6, 237, 0), (0, 7, 0), (0, 3, 0)]) (p2 := 31) rfl rfl (by decide) rfl rfl ?_
  refine q_goto rfl ?_
  refine q_load (v := (0, 3, 0)) (p2 := 3) rfl rfl rfl rfl ?_
  refine q_load (v := (6, 237, 0)) (p2 := 4) rfl rfl rfl rfl ?_
  refine q_getv (v := (6, 246, 0)) (p2 := 5) rfl hS.1.choose_spec.1 (by decide) hS.1.choose_spec.2.2.2.1 rfl ?_
  refine q_const (p2 := 6) rfl rfl ?_
  refine q_aldv (v := (0, 3, 0)) (p2 := 7) rfl (x_sc_246 hS) (by omega) (by omega) rfl rfl ?_
  refine q_icmp_s (p2 := 8) rfl (by decide) (by omega) (by omega) rfl (fun _ => ?_) (fun hb => absurd (show ¬ (3 < 3) by omega) hb)
  refine q_const (p2 := 33) rfl rfl ?_
  refine q_store (loc2 := [(6, 237, 0), (0, 7, 0), (0, 0, 0)]) (p2 := 34) rfl rfl rfl rfl rfl ?_
  refine q_load (v := (0, 0, 0)) (p2 := 35) rfl rfl rfl rfl ?_
  refine q_load (v := (6, 237, 0)) (p2 := 36) rfl rfl rfl rfl ?_
  refine q_getv (v := (6, 246, 0)) (p2 := 37) rfl hS.1.choose_spec.1 (by decide) hS.1.choose_spec.2.2.2.1 rfl ?_
  refine q_const (p2 := 38) rfl rfl ?_
  refine q_aldv (v := (0, 3, 0)) (p2 := 39) rfl (x_sc_246 hS) (by omega) (by omega) rfl rfl ?_
  refine q_icmp_s (p2 := 40) rfl (by decide) (by omega) (by omega) rfl (fun hb => absurd hb (show ¬ (¬ (0 < 3)) by omega)) (fun _ => ?_)
  refine q_load (v := (0, 7, 0)) (p2 := 41) rfl rfl rfl rfl ?_
  refine q_load (v := (0, 0, 0)) (p2 := 42) rfl rfl rfl rfl ?_
  refine q_iop (w := 7 >>> (0 % 32)) (z := 7) (p2 := 43) rfl (xo_shr (show 7 < 2147483648 by decide) 0) (by decide) rfl ?_
  refine q_const (p2 := 44) rfl rfl ?_
  refine q_iop (w := 7 &&& 1) (z := 1) (p2 := 45) rfl (xo_and 7 1) (by decide) rfl ?_
  refine q_const (p2 := 46) rfl rfl ?_
  refine q_icmp_s (p2 := 47) rfl (by decide) (by omega) (by omega) rfl (fun hb => absurd hb (show ¬ (¬ (1 = 1)) by omega)) (fun _ => ?_)
  refine q_load (v := (6, 237, 0)) (p2 := 48) rfl rfl rfl rfl ?_
  refine q_getv (v := (6, 257, 0)) (p2 := 49) rfl hS.1.choose_spec.1 (by decide) hS.1.choose_spec.2.2.2.2.2.2.1 rfl ?_
  refine q_load (v := (0, 0, 0)) (p2 := 50) rfl rfl rfl rfl ?_
  refine q_aldv (v := (6, 258, 0)) (p2 := 51) rfl (x_sc_257 hS) (by omega) (by omega) rfl rfl ?_
  refine q_const (p2 := 52) rfl rfl ?_
  refine q_aldv (v := (0, 0, 0)) (p2 := 53) rfl (x_sc_258 hS) (by omega) (by omega) rfl rfl ?_
  refine q_if0_s (p2 := 54) rfl (by decide) (by omega) rfl (fun hb => absurd hb (show ¬ (0 < 0) by omega)) (fun _ => ?_)
  refine q_load (v := (6, 237, 0)) (p2 := 55) rfl rfl rfl rfl ?_
  refine q_load (v := (6, 237, 0)) (p2 := 56) rfl rfl rfl rfl ?_
  refine q_getv (v := (6, 257, 0)) (p2 := 57) rfl hS.1.choose_spec.1 (by decide) hS.1.choose_spec.2.2.2.2.2.2.1 rfl ?_
  refine q_load (v := (0, 0, 0)) (p2 := 58) rfl rfl rfl rfl ?_
  refine q_aldv (v := (6, 258, 0)) (p2 := 59) rfl (x_sc_257 hS) (by omega) (by omega) rfl rfl ?_
  refine q_const (p2 := 60) rfl rfl ?_
  refine q_aldv (v := (0, 0, 0)) (p2 := 61) rfl (x_sc_258 hS) (by omega) (by omega) rfl rfl ?_
  refine q_load (v := (0, 7, 0)) (p2 := 62) rfl rfl rfl rfl ?_
  refine q_callK (xs := [(0, 7, 0), (0, 0, 0), (6, 237, 0)]) (p2 := 63) rfl rfl rfl rfl (x_rcv_s 237 hS.1.choose_spec.1) rfl rfl ?_
  refine x_f_of rfl ?_
  refine q_const (p2 := 1) rfl rfl ?_
  refine q_store (loc2 := [(6, 237, 0), (0, 0, 0), (0, 7, 0), (0, 0, 0), (11, 0, 0)]) (p2 := 2) rfl rfl rfl rfl rfl ?_
  refine q_load (v := (0, 0, 0)) (p2 := 3) rfl rfl rfl rfl ?_
  refine q_store (loc2 := [(6, 237, 0), (0, 0, 0), (0, 7, 0), (0, 0, 0), (0, 0, 0)]) (p2 := 4) rfl rfl rfl rfl rfl ?_
  refine q_load (v := (0, 0, 0)) (p2 := 5) rfl rfl rfl rfl ?_
  refine q_if0_s (p2 := 6) rfl (by decide) (by omega) rfl (fun hb => absurd hb (show ¬ (0 < 0) by omega)) (fun _ => ?_)
  refine q_load (v := (0, 0, 0)) (p2 := 7) rfl rfl rfl rfl ?_
  refine q_const (p2 := 8) rfl rfl ?_
  refine q_iop (w := 0 + 1) (z := 1) (p2 := 9) rfl (xo_add 0 1) (by decide) rfl ?_
  refine q_load (v := (6, 237, 0)) (p2 := 10) rfl rfl rfl rfl ?_
  refine q_getv (v := (6, 450, 0)) (p2 := 11) rfl hS.1.choose_spec.1 (by decide) hS.1.choose_spec.2.2.2.2.2.2.2.2.2.2.2.2.2.1 rfl ?_
  refine q_alen (p2 := 12) rfl hC rfl (by omega) rfl ?_
  refine q_icmp_s (p2 := 13) rfl (by decide) (by omega) (by omega) rfl (fun hb => absurd hb (show ¬ (¬ (1 < 12288)) by omega)) (fun _ => ?_)
  refine q_load (v := (6, 237, 0)) (p2 := 14) rfl rfl rfl rfl ?_
  refine q_getv (v := (6, 450, 0)) (p2 := 15) rfl hS.1.choose_spec.1 (by decide) hS.1.choose_spec.2.2.2.2.2.2.2.2.2.2.2.2.2.1 rfl ?_
  refine q_load (v := (0, 0, 0)) (p2 := 16) rfl rfl rfl rfl ?_
  refine q_aldT (tag := 0) (v := 1) (p2 := 17) rfl hC (by omega) (by omega) hc0 rfl ?_
  refine q_if0_s (p2 := 18) rfl (by decide) (by omega) rfl (fun hb => absurd hb (show ¬ (1 = 0) by omega)) (fun _ => ?_)
  refine q_load (v := (6, 237, 0)) (p2 := 19) rfl rfl rfl rfl ?_
  refine q_getv (v := (6, 450, 0)) (p2 := 20) rfl hS.1.choose_spec.1 (by decide) hS.1.choose_spec.2.2.2.2.2.2.2.2.2.2.2.2.2.1 rfl ?_
  refine q_load (v := (0, 0, 0)) (p2 := 21) rfl rfl rfl rfl ?_
  refine q_aldT (tag := 0) (v := 1) (p2 := 22) rfl hC (by omega) (by omega) hc0 rfl ?_
  refine q_const (p2 := 23) rfl rfl ?_
  refine q_icmp_s (p2 := 24) rfl (by decide) (by omega) (by omega) rfl (fun _ => ?_) (fun hb => absurd (show 1 = 1 by omega) hb)
  refine q_load (v := (0, 0, 0)) (p2 := 35) rfl rfl rfl rfl ?_
  refine q_load (v := (6, 237, 0)) (p2 := 36) rfl rfl rfl rfl ?_
  refine q_getv (v := (6, 452, 0)) (p2 := 37) rfl hS.1.choose_spec.1 (by decide) hS.1.choose_spec.2.2.2.2.2.2.2.2.2.2.2.2.2.2.2.2.2.1 rfl ?_
  refine q_alen (p2 := 38) rfl hOV.1 rfl (by omega) rfl ?_
  refine q_icmp_s (p2 := 39) rfl (by decide) (by omega) (by omega) rfl (fun hb => absurd hb (show ¬ (¬ (0 < 64)) by omega)) (fun _ => ?_)
  refine q_load (v := (6, 237, 0)) (p2 := 40) rfl rfl rfl rfl ?_
  refine q_getv (v := (6, 452, 0)) (p2 := 41) rfl hS.1.choose_spec.1 (by decide) hS.1.choose_spec.2.2.2.2.2.2.2.2.2.2.2.2.2.2.2.2.2.1 rfl ?_
  refine q_load (v := (0, 0, 0)) (p2 := 42) rfl rfl rfl rfl ?_
  refine q_const (p2 := 43) rfl rfl ?_
  refine q_load (v := (6, 237, 0)) (p2 := 44) rfl rfl rfl rfl ?_
  refine q_getv (v := (6, 450, 0)) (p2 := 45) rfl hS.1.choose_spec.1 (by decide) hS.1.choose_spec.2.2.2.2.2.2.2.2.2.2.2.2.2.1 rfl ?_
  refine q_load (v := (0, 0, 0)) (p2 := 46) rfl rfl rfl rfl ?_
  refine q_const (p2 := 47) rfl rfl ?_
  refine q_iop (w := 0 + 1) (z := 1) (p2 := 48) rfl (xo_add 0 1) (by decide) rfl ?_
  refine q_aldT (tag := 0) (v := 1) (p2 := 49) rfl hC (by omega) (by omega) hc1 rfl ?_
  refine q_iop (w := 1 <<< (1 % 32)) (z := 2) (p2 := 50) rfl (xo_shl 1 1) (by decide) rfl ?_
  refine q_astE (v := (0, 2, 0)) (w := (0, 2, 0)) (p2 := 51) rfl hOV.1 (by omega) (by omega) (x_ok_0 rfl) (x_nv_same rfl (by decide)) rfl (fun φ1 f1 hh1 hg1 ho1 fr1 => ?_)
  have hs1 := zq_OV_st_452 hOV hh1 hg1 ho1 fr1
  refine q_load (v := (6, 237, 0)) (p2 := 52) rfl rfl rfl rfl ?_
  have hm2 := (x_sch_at hS (fun j h1 h2 => (fr1 j (by omega))))
  refine q_getv (v := (6, 453, 0)) (p2 := 53) rfl hm2.1.choose_spec.1 (by decide) hm2.1.choose_spec.2.2.2.2.2.2.2.2.2.2.2.2.2.2.2.2.2.2.1 rfl ?_
  refine q_load (v := (0, 0, 0)) (p2 := 54) rfl rfl rfl rfl ?_
  refine q_load (v := (0, 7, 0)) (p2 := 55) rfl rfl rfl rfl ?_
  refine q_load (v := (6, 237, 0)) (p2 := 56) rfl rfl rfl rfl ?_
  refine q_getv (v := (6, 450, 0)) (p2 := 57) rfl hm2.1.choose_spec.1 (by decide) hm2.1.choose_spec.2.2.2.2.2.2.2.2.2.2.2.2.2.1 rfl ?_
  refine q_load (v := (0, 0, 0)) (p2 := 58) rfl rfl rfl rfl ?_
  refine q_const (p2 := 59) rfl rfl ?_
  refine q_iop (w := 0 + 1) (z := 1) (p2 := 60) rfl (xo_add 0 1) (by decide) rfl ?_
  have hm3 := (zq_co_at hC (fr1 450 (by decide)))
  refine q_aldT (tag := 0) (v := 1) (p2 := 61) rfl hm3 (by omega) (by omega) hc1 rfl ?_
  refine q_iop (w := 7 >>> (1 % 32)) (z := 3) (p2 := 62) rfl (xo_shr (show 7 < 2147483648 by decide) 1) (by decide) rfl ?_
  refine q_const (p2 := 63) rfl rfl ?_
  refine q_iop (w := 3 &&& 1) (z := 1) (p2 := 64) rfl (xo_and 3 1) (by decide) rfl ?_
  refine q_const (p2 := 65) rfl rfl ?_
  refine q_icmp_s (p2 := 66) rfl (by decide) (by omega) (by omega) rfl (fun hb => absurd hb (show ¬ (¬ (1 = 1)) by omega)) (fun _ => ?_)
  refine q_const (p2 := 67) rfl rfl ?_
  refine q_goto rfl ?_
  refine q_astE (v := (0, 1, 0)) (w := (0, 1, 0)) (p2 := 70) rfl hs1.2 (by omega) (by omega) (x_ok_0 rfl) (x_nv_3 (by omega)) rfl (fun φ4 f4 hh4 hg4 ho4 fr4 => ?_)
  have hs4 := zq_OV_st_453 hs1 hh4 hg4 ho4 fr4
  refine q_iinc (z := 1) (loc2 := [(6, 237, 0), (0, 0, 0), (0, 7, 0), (0, 1, 0), (0, 0, 0)]) (p2 := 71) rfl rfl (by decide) rfl rfl ?_
  refine q_iinc (z := 2) (loc2 := [(6, 237, 0), (0, 0, 0), (0, 7, 0), (0, 1, 0), (0, 2, 0)]) (p2 := 72) rfl rfl (by decide) rfl rfl ?_
  refine q_goto rfl ?_
  refine q_load (v := (0, 2, 0)) (p2 := 5) rfl rfl rfl rfl ?_
  refine q_if0_s (p2 := 6) rfl (by decide) (by omega) rfl (fun hb => absurd hb (show ¬ (2 < 0) by omega)) (fun _ => ?_)
  refine q_load (v := (0, 2, 0)) (p2 := 7) rfl rfl rfl rfl ?_
  refine q_const (p2 := 8) rfl rfl ?_
  refine q_iop (w := 2 + 1) (z := 3) (p2 := 9) rfl (xo_add 2 1) (by decide) rfl ?_
  refine q_load (v := (6, 237, 0)) (p2 := 10) rfl rfl rfl rfl ?_
  have hm5 := (x_sch_at hm2 (fun j h1 h2 => (fr4 j (by omega))))
  refine q_getv (v := (6, 450, 0)) (p2 := 11) rfl hm5.1.choose_spec.1 (by decide) hm5.1.choose_spec.2.2.2.2.2.2.2.2.2.2.2.2.2.1 rfl ?_
  have hm6 := (zq_co_at hm3 (fr4 450 (by decide)))
  refine q_alen (p2 := 12) rfl hm6 rfl (by omega) rfl ?_
  refine q_icmp_s (p2 := 13) rfl (by decide) (by omega) (by omega) rfl (fun hb => absurd hb (show ¬ (¬ (3 < 12288)) by omega)) (fun _ => ?_)
  refine q_load (v := (6, 237, 0)) (p2 := 14) rfl rfl rfl rfl ?_
  refine q_getv (v := (6, 450, 0)) (p2 := 15) rfl hm5.1.choose_spec.1 (by decide) hm5.1.choose_spec.2.2.2.2.2.2.2.2.2.2.2.2.2.1 rfl ?_
  refine q_load (v := (0, 2, 0)) (p2 := 16) rfl rfl rfl rfl ?_
  refine q_aldT (tag := 0) (v := 1) (p2 := 17) rfl hm6 (by omega) (by omega) hc2 rfl ?_
  refine q_if0_s (p2 := 18) rfl (by decide) (by omega) rfl (fun hb => absurd hb (show ¬ (1 = 0) by omega)) (fun _ => ?_)
  refine q_load (v := (6, 237, 0)) (p2 := 19) rfl rfl rfl rfl ?_
  refine q_getv (v := (6, 450, 0)) (p2 := 20) rfl hm5.1.choose_spec.1 (by decide) hm5.1.choose_spec.2.2.2.2.2.2.2.2.2.2.2.2.2.1 rfl ?_
  refine q_load (v := (0, 2, 0)) (p2 := 21) rfl rfl rfl rfl ?_
  refine q_aldT (tag := 0) (v := 1) (p2 := 22) rfl hm6 (by omega) (by omega) hc2 rfl ?_
  refine q_const (p2 := 23) rfl rfl ?_
  refine q_icmp_s (p2 := 24) rfl (by decide) (by omega) (by omega) rfl (fun _ => ?_) (fun hb => absurd (show 1 = 1 by omega) hb)
  refine q_load (v := (0, 1, 0)) (p2 := 35) rfl rfl rfl rfl ?_
  refine q_load (v := (6, 237, 0)) (p2 := 36) rfl rfl rfl rfl ?_
  refine q_getv (v := (6, 452, 0)) (p2 := 37) rfl hm5.1.choose_spec.1 (by decide) hm5.1.choose_spec.2.2.2.2.2.2.2.2.2.2.2.2.2.2.2.2.2.1 rfl ?_
  refine q_alen (p2 := 38) rfl hs4.1 rfl (by omega) rfl ?_
  refine q_icmp_s (p2 := 39) rfl (by decide) (by omega) (by omega) rfl (fun hb => absurd hb (show ¬ (¬ (1 < 64)) by omega)) (fun _ => ?_)
  refine q_load (v := (6, 237, 0)) (p2 := 40) rfl rfl rfl rfl ?_
  refine q_getv (v := (6, 452, 0)) (p2 := 41) rfl hm5.1.choose_spec.1 (by decide) hm5.1.choose_spec.2.2.2.2.2.2.2.2.2.2.2.2.2.2.2.2.2.1 rfl ?_
  refine q_load (v := (0, 1, 0)) (p2 := 42) rfl rfl rfl rfl ?_
  refine q_const (p2 := 43) rfl rfl ?_
  refine q_load (v := (6, 237, 0)) (p2 := 44) rfl rfl rfl rfl ?_
  refine q_getv (v := (6, 450, 0)) (p2 := 45) rfl hm5.1.choose_spec.1 (by decide) hm5.1.choose_spec.2.2.2.2.2.2.2.2.2.2.2.2.2.1 rfl ?_
  refine q_load (v := (0, 2, 0)) (p2 := 46) rfl rfl rfl rfl ?_
  refine q_const (p2 := 47) rfl rfl ?_
  refine q_iop (w := 2 + 1) (z := 3) (p2 := 48) rfl (xo_add 2 1) (by decide) rfl ?_
  refine q_aldT (tag := 0) (v := 2) (p2 := 49) rfl hm6 (by omega) (by omega) hc3 rfl ?_
  refine q_iop (w := 1 <<< (2 % 32)) (z := 4) (p2 := 50) rfl (xo_shl 1 2) (by decide) rfl ?_
  refine q_astE (v := (0, 4, 0)) (w := (0, 4, 0)) (p2 := 51) rfl hs4.1 (by omega) (by omega) (x_ok_0 rfl) (x_nv_same rfl (by decide)) rfl (fun φ7 f7 hh7 hg7 ho7 fr7 => ?_)
  have hs7 := zq_OV_st_452 hs4 hh7 hg7 ho7 fr7
  refine q_load (v := (6, 237, 0)) (p2 := 52) rfl rfl rfl rfl ?_
  have hm8 := (x_sch_at hm5 (fun j h1 h2 => (fr7 j (by omega))))
  refine q_getv (v := (6, 453, 0)) (p2 := 53) rfl hm8.1.choose_spec.1 (by decide) hm8.1.choose_spec.2.2.2.2.2.2.2.2.2.2.2.2.2.2.2.2.2.2.1 rfl ?_
  refine q_load (v := (0, 1, 0)) (p2 := 54) rfl rfl rfl rfl ?_
  refine q_load (v := (0, 7, 0)) (p2 := 55) rfl rfl rfl rfl ?_
  refine q_load (v := (6, 237, 0)) (p2 := 56) rfl rfl rfl rfl ?_
  refine q_getv (v := (6, 450, 0)) (p2 := 57) rfl hm8.1.choose_spec.1 (by decide) hm8.1.choose_spec.2.2.2.2.2.2.2.2.2.2.2.2.2.1 rfl ?_
  refine q_load (v := (0, 2, 0)) (p2 := 58) rfl rfl rfl rfl ?_
  refine q_const (p2 := 59) rfl rfl ?_
  refine q_iop (w := 2 + 1) (z := 3) (p2 := 60) rfl (xo_add 2 1) (by decide) rfl ?_
  have hm9 := (zq_co_at hm6 (fr7 450 (by decide)))
  refine q_aldT (tag := 0) (v := 2) (p2 := 61) rfl hm9 (by omega) (by omega) hc3 rfl ?_
  refine q_iop (w := 7 >>> (2 % 32)) (z := 1) (p2 := 62) rfl (xo_shr (show 7 < 2147483648 by decide) 2) (by decide) rfl ?_
  refine q_const (p2 := 63) rfl rfl ?_
  refine q_iop (w := 1 &&& 1) (z := 1) (p2 := 64) rfl (xo_and 1 1) (by decide) rfl ?_
  refine q_const (p2 := 65) rfl rfl ?_
  refine q_icmp_s (p2 := 66) rfl (by decide) (by omega) (by omega) rfl (fun hb => absurd hb (show ¬ (¬ (1 = 1)) by omega)) (fun _ => ?_)
  refine q_const (p2 := 67) rfl rfl ?_
  refine q_goto rfl ?_
  refine q_astE (v := (0, 1, 0)) (w := (0, 1, 0)) (p2 := 70) rfl hs7.2 (by omega) (by omega) (x_ok_0 rfl) (x_nv_3 (by omega)) rfl (fun φ10 f10 hh10 hg10 ho10 fr10 => ?_)
  have hs10 := zq_OV_st_453 hs7 hh10 hg10 ho10 fr10
  refine q_iinc (z := 2) (loc2 := [(6, 237, 0), (0, 0, 0), (0, 7, 0), (0, 2, 0), (0, 2, 0)]) (p2 := 71) rfl rfl (by decide) rfl rfl ?_
  refine q_iinc (z := 4) (loc2 := [(6, 237, 0), (0, 0, 0), (0, 7, 0), (0, 2, 0), (0, 4, 0)]) (p2 := 72) rfl rfl (by decide) rfl rfl ?_
  refine q_goto rfl ?_
  refine q_load (v := (0, 4, 0)) (p2 := 5) rfl rfl rfl rfl ?_
  refine q_if0_s (p2 := 6) rfl (by decide) (by omega) rfl (fun hb => absurd hb (show ¬ (4 < 0) by omega)) (fun _ => ?_)
  refine q_load (v := (0, 4, 0)) (p2 := 7) rfl rfl rfl rfl ?_
  refine q_const (p2 := 8) rfl rfl ?_
  refine q_iop (w := 4 + 1) (z := 5) (p2 := 9) rfl (xo_add 4 1) (by decide) rfl ?_
  refine q_load (v := (6, 237, 0)) (p2 := 10) rfl rfl rfl rfl ?_
  have hm11 := (x_sch_at hm8 (fun j h1 h2 => (fr10 j (by omega))))
  refine q_getv (v := (6, 450, 0)) (p2 := 11) rfl hm11.1.choose_spec.1 (by decide) hm11.1.choose_spec.2.2.2.2.2.2.2.2.2.2.2.2.2.1 rfl ?_
  have hm12 := (zq_co_at hm9 (fr10 450 (by decide)))
  refine q_alen (p2 := 12) rfl hm12 rfl (by omega) rfl ?_
  refine q_icmp_s (p2 := 13) rfl (by decide) (by omega) (by omega) rfl (fun hb => absurd hb (show ¬ (¬ (5 < 12288)) by omega)) (fun _ => ?_)
  refine q_load (v := (6, 237, 0)) (p2 := 14) rfl rfl rfl rfl ?_
  refine q_getv (v := (6, 450, 0)) (p2 := 15) rfl hm11.1.choose_spec.1 (by decide) hm11.1.choose_spec.2.2.2.2.2.2.2.2.2.2.2.2.2.1 rfl ?_
  refine q_load (v := (0, 4, 0)) (p2 := 16) rfl rfl rfl rfl ?_
  refine q_aldT (tag := 0) (v := 2) (p2 := 17) rfl hm12 (by omega) (by omega) hc4 rfl ?_
  refine q_if0_s (p2 := 18) rfl (by decide) (by omega) rfl (fun hb => absurd hb (show ¬ (2 = 0) by omega)) (fun _ => ?_)
  refine q_load (v := (6, 237, 0)) (p2 := 19) rfl rfl rfl rfl ?_
  refine q_getv (v := (6, 450, 0)) (p2 := 20) rfl hm11.1.choose_spec.1 (by decide) hm11.1.choose_spec.2.2.2.2.2.2.2.2.2.2.2.2.2.1 rfl ?_
  refine q_load (v := (0, 4, 0)) (p2 := 21) rfl rfl rfl rfl ?_
  refine q_aldT (tag := 0) (v := 2) (p2 := 22) rfl hm12 (by omega) (by omega) hc4 rfl ?_
  refine q_const (p2 := 23) rfl rfl ?_
  refine q_icmp_s (p2 := 24) rfl (by decide) (by omega) (by omega) rfl (fun hb => absurd hb (show ¬ (2 = 1) by omega)) (fun _ => ?_)
  refine q_load (v := (6, 237, 0)) (p2 := 25) rfl rfl rfl rfl ?_
  refine q_load (v := (6, 237, 0)) (p2 := 26) rfl rfl rfl rfl ?_
  refine q_getv (v := (6, 450, 0)) (p2 := 27) rfl hm11.1.choose_spec.1 (by decide) hm11.1.choose_spec.2.2.2.2.2.2.2.2.2.2.2.2.2.1 rfl ?_
  refine q_load (v := (0, 4, 0)) (p2 := 28) rfl rfl rfl rfl ?_
  refine q_aldT (tag := 0) (v := 2) (p2 := 29) rfl hm12 (by omega) (by omega) hc4 rfl ?_
  refine q_load (v := (0, 2, 0)) (p2 := 30) rfl rfl rfl rfl ?_
  refine q_load (v := (0, 7, 0)) (p2 := 31) rfl rfl rfl rfl ?_
  refine q_callK (xs := [(0, 7, 0), (0, 2, 0), (0, 2, 0), (6, 237, 0)]) (p2 := 32) rfl rfl rfl rfl (x_rcv_s 237 hm11.1.choose_spec.1) rfl rfl ?_
  refine x_f_of rfl ?_
  refine q_load (v := (0, 2, 0)) (p2 := 1) rfl rfl rfl rfl ?_
  refine q_const (p2 := 2) rfl rfl ?_
  refine q_iop (w := 2 + (4294967296 - 2 % 4294967296)) (z := 0) (p2 := 3) rfl (xo_sub 2 2) (by decide) rfl ?_
  refine q_store (loc2 := [(6, 237, 0), (0, 2, 0), (0, 2, 0), (0, 7, 0), (0, 0, 0), (11, 0, 0), (11, 0, 0), (11, 0, 0)]) (p2 := 4) rfl rfl rfl rfl rfl ?_
  refine q_load (v := (0, 2, 0)) (p2 := 5) rfl rfl rfl rfl ?_
  refine q_const (p2 := 6) rfl rfl ?_
  refine q_iop (w := 2 + (4294967296 - 1 % 4294967296)) (z := 1) (p2 := 7) rfl (xo_sub 2 1) (by decide) rfl ?_
  refine q_store (loc2 := [(6, 237, 0), (0, 2, 0), (0, 2, 0), (0, 7, 0), (0, 0, 0), (0, 1, 0), (11, 0, 0), (11, 0, 0)]) (p2 := 8) rfl rfl rfl rfl rfl ?_
  refine q_load (v := (0, 0, 0)) (p2 := 9) rfl rfl rfl rfl ?_
  refine q_if0_s (p2 := 10) rfl (by decide) (by omega) rfl (fun hb => absurd hb (show ¬ (0 < 0) by omega)) (fun _ => ?_)
  refine q_load (v := (0, 1, 0)) (p2 := 11) rfl rfl rfl rfl ?_
  refine q_load (v := (6, 237, 0)) (p2 := 12) rfl rfl rfl rfl ?_
  refine q_getv (v := (6, 452, 0)) (p2 := 13) rfl hm11.1.choose_spec.1 (by decide) hm11.1.choose_spec.2.2.2.2.2.2.2.2.2.2.2.2.2.2.2.2.2.1 rfl ?_
  refine q_alen (p2 := 14) rfl hs10.1 rfl (by omega) rfl ?_
  refine q_icmp_s (p2 := 15) rfl (by decide) (by omega) (by omega) rfl (fun _ => ?_) (fun hb => absurd (show 1 < 64 by omega) hb)
  refine q_load (v := (6, 237, 0)) (p2 := 18) rfl rfl rfl rfl ?_
  refine q_getv (v := (6, 453, 0)) (p2 := 19) rfl hm11.1.choose_spec.1 (by decide) hm11.1.choose_spec.2.2.2.2.2.2.2.2.2.2.2.2.2.2.2.2.2.2.1 rfl ?_
  refine q_load (v := (0, 0, 0)) (p2 := 20) rfl rfl rfl rfl ?_
  refine q_aldT (tag := 0) (v := 1) (p2 := 21) rfl hs10.2 (by omega) (by omega) ((x_s_ne (by decide)).trans (x_s_eq)) rfl ?_
  refine q_if0_s (p2 := 22) rfl (by decide) (by omega) rfl (fun hb => absurd hb (show ¬ (1 = 0) by omega)) (fun _ => ?_)
  refine q_load (v := (6, 237, 0)) (p2 := 23) rfl rfl rfl rfl ?_
  refine q_getv (v := (6, 453, 0)) (p2 := 24) rfl hm11.1.choose_spec.1 (by decide) hm11.1.choose_spec.2.2.2.2.2.2.2.2.2.2.2.2.2.2.2.2.2.2.1 rfl ?_
  refine q_load (v := (0, 1, 0)) (p2 := 25) rfl rfl rfl rfl ?_
  refine q_aldT (tag := 0) (v := 1) (p2 := 26) rfl hs10.2 (by omega) (by omega) (x_s_eq) rfl ?_
  refine q_if0_s (p2 := 27) rfl (by decide) (by omega) rfl (fun hb => absurd hb (show ¬ (1 = 0) by omega)) (fun _ => ?_)
  refine q_const (p2 := 28) rfl rfl ?_
  refine q_goto rfl ?_
  refine q_store (loc2 := [(6, 237, 0), (0, 2, 0), (0, 2, 0), (0, 7, 0), (0, 0, 0), (0, 1, 0), (0, 1, 0), (11, 0, 0)]) (p2 := 31) rfl rfl rfl rfl rfl ?_
  refine q_load (v := (6, 237, 0)) (p2 := 32) rfl rfl rfl rfl ?_
  refine q_getv (v := (6, 453, 0)) (p2 := 33) rfl hm11.1.choose_spec.1 (by decide) hm11.1.choose_spec.2.2.2.2.2.2.2.2.2.2.2.2.2.2.2.2.2.2.1 rfl ?_
  refine q_load (v := (0, 0, 0)) (p2 := 34) rfl rfl rfl rfl ?_
  refine q_aldT (tag := 0) (v := 1) (p2 := 35) rfl hs10.2 (by omega) (by omega) ((x_s_ne (by decide)).trans (x_s_eq)) rfl ?_
  refine q_if0_s (p2 := 36) rfl (by decide) (by omega) rfl (fun hb => absurd hb (show ¬ (1 = 0) by omega)) (fun _ => ?_)
  refine q_load (v := (0, 7, 0)) (p2 := 37) rfl rfl rfl rfl ?_
  refine q_load (v := (6, 237, 0)) (p2 := 38) rfl rfl rfl rfl ?_
  refine q_getv (v := (6, 452, 0)) (p2 := 39) rfl hm11.1.choose_spec.1 (by decide) hm11.1.choose_spec.2.2.2.2.2.2.2.2.2.2.2.2.2.2.2.2.2.1 rfl ?_
  refine q_load (v := (0, 1, 0)) (p2 := 40) rfl rfl rfl rfl ?_
  refine q_aldT (tag := 0) (v := 4) (p2 := 41) rfl hs10.1 (by omega) (by omega) (x_s_eq) rfl ?_
  refine q_iop (w := 7 &&& 4) (z := 4) (p2 := 42) rfl (xo_and 7 4) (by decide) rfl ?_
  refine q_if0_s (p2 := 43) rfl (by decide) (by omega) rfl (fun hb => absurd hb (show ¬ (4 = 0) by omega)) (fun _ => ?_)
  refine q_load (v := (6, 237, 0)) (p2 := 44) rfl rfl rfl rfl ?_
  refine q_getv (v := (6, 453, 0)) (p2 := 45) rfl hm11.1.choose_spec.1 (by decide) hm11.1.choose_spec.2.2.2.2.2.2.2.2.2.2.2.2.2.2.2.2.2.2.1 rfl ?_
  refine q_load (v := (0, 1, 0)) (p2 := 46) rfl rfl rfl rfl ?_
  refine q_aldT (tag := 0) (v := 1) (p2 := 47) rfl hs10.2 (by omega) (by omega) (x_s_eq) rfl ?_
  refine q_if0_s (p2 := 48) rfl (by decide) (by omega) rfl (fun hb => absurd hb (show ¬ (1 = 0) by omega)) (fun _ => ?_)
  refine q_load (v := (0, 7, 0)) (p2 := 49) rfl rfl rfl rfl ?_
  refine q_load (v := (6, 237, 0)) (p2 := 50) rfl rfl rfl rfl ?_
  refine q_getv (v := (6, 452, 0)) (p2 := 51) rfl hm11.1.choose_spec.1 (by decide) hm11.1.choose_spec.2.2.2.2.2.2.2.2.2.2.2.2.2.2.2.2.2.1 rfl ?_
  refine q_load (v := (0, 0, 0)) (p2 := 52) rfl rfl rfl rfl ?_
  refine q_aldT (tag := 0) (v := 2) (p2 := 53) rfl hs10.1 (by omega) (by omega) ((x_s_ne (by decide)).trans (x_s_eq)) rfl ?_
  refine q_iop (w := 7 &&& 2) (z := 2) (p2 := 54) rfl (xo_and 7 2) (by decide) rfl ?_
  refine q_if0_s (p2 := 55) rfl (by decide) (by omega) rfl (fun _ => ?_) (fun hb => absurd (show ¬ (2 = 0) by omega) hb)
  refine q_const (p2 := 58) rfl rfl ?_
  refine q_store (loc2 := [(6, 237, 0), (0, 2, 0), (0, 2, 0), (0, 7, 0), (0, 0, 0), (0, 1, 0), (0, 1, 0), (0, 0, 0)]) (p2 := 59) rfl rfl rfl rfl rfl ?_
  refine q_load (v := (6, 237, 0)) (p2 := 60) rfl rfl rfl rfl ?_
  refine q_getv (v := (6, 453, 0)) (p2 := 61) rfl hm11.1.choose_spec.1 (by decide) hm11.1.choose_spec.2.2.2.2.2.2.2.2.2.2.2.2.2.2.2.2.2.2.1 rfl ?_
  refine q_load (v := (0, 0, 0)) (p2 := 62) rfl rfl rfl rfl ?_
  refine q_load (v := (0, 2, 0)) (p2 := 63) rfl rfl rfl rfl ?_
  refine q_const (p2 := 64) rfl rfl ?_
  refine q_icmp_s (p2 := 65) rfl (by decide) (by omega) (by omega) rfl (fun _ => ?_) (fun hb => absurd (show 2 = 2 by omega) hb)
  refine q_load (v := (0, 2, 0)) (p2 := 68) rfl rfl rfl rfl ?_
  refine q_const (p2 := 69) rfl rfl ?_
  refine q_icmp_s (p2 := 70) rfl (by decide) (by omega) (by omega) rfl (fun hb => absurd hb (show ¬ (2 = 3) by omega)) (fun _ => ?_)
  refine q_load (v := (0, 0, 0)) (p2 := 71) rfl rfl rfl rfl ?_
  refine q_if0_s (p2 := 72) rfl (by decide) (by omega) rfl (fun _ => ?_) (fun hb => absurd (show 0 = 0 by omega) hb)
  refine q_const (p2 := 75) rfl rfl ?_
  refine q_astE (v := (0, 0, 0)) (w := (0, 0, 0)) (p2 := 76) rfl hs10.2 (by omega) (by omega) (x_ok_0 rfl) (x_nv_3 (by omega)) rfl (fun φ13 f13 hh13 hg13 ho13 fr13 => ?_)
  have hs13 := zq_OV_st_453 hs10 hh13 hg13 ho13 fr13
  refine q_load (v := (6, 237, 0)) (p2 := 77) rfl rfl rfl rfl ?_
  have hm14 := (x_sch_at hm11 (fun j h1 h2 => (fr13 j (by omega))))
  refine q_getv (v := (6, 452, 0)) (p2 := 78) rfl hm14.1.choose_spec.1 (by decide) hm14.1.choose_spec.2.2.2.2.2.2.2.2.2.2.2.2.2.2.2.2.2.1 rfl ?_
  refine q_load (v := (0, 0, 0)) (p2 := 79) rfl rfl rfl rfl ?_
  refine q_dup2 (p2 := 80) rfl rfl rfl rfl ?_
  refine q_aldT (tag := 0) (v := 2) (p2 := 81) rfl hs13.1 (by omega) (by omega) ((x_s_ne (by decide)).trans (x_s_eq)) rfl ?_
  refine q_load (v := (6, 237, 0)) (p2 := 82) rfl rfl rfl rfl ?_
  refine q_getv (v := (6, 452, 0)) (p2 := 83) rfl hm14.1.choose_spec.1 (by decide) hm14.1.choose_spec.2.2.2.2.2.2.2.2.2.2.2.2.2.2.2.2.2.1 rfl ?_
  refine q_load (v := (0, 1, 0)) (p2 := 84) rfl rfl rfl rfl ?_
  refine q_aldT (tag := 0) (v := 4) (p2 := 85) rfl hs13.1 (by omega) (by omega) (x_s_eq) rfl ?_
  refine q_iop (w := 2 ||| 4) (z := 6) (p2 := 86) rfl (xo_or 2 4) (by decide) rfl ?_
  refine q_astE (v := (0, 6, 0)) (w := (0, 6, 0)) (p2 := 87) rfl hs13.1 (by omega) (by omega) (x_ok_0 rfl) (x_nv_same rfl (by decide)) rfl (fun φ15 f15 hh15 hg15 ho15 fr15 => ?_)
  have hs15 := zq_OV_st_452 hs13 hh15 hg15 ho15 fr15
  refine q_load (v := (0, 1, 0)) (p2 := 88) rfl rfl rfl rfl ?_
  refine q_retv (v := (0, 1, 0)) rfl rfl ⟨rfl, by omega, by omega, ?_⟩
  refine q_store (loc2 := [(6, 237, 0), (0, 0, 0), (0, 7, 0), (0, 1, 0), (0, 4, 0)]) (p2 := 33) rfl rfl rfl rfl rfl ?_
  refine q_goto rfl ?_
  refine q_iinc (z := 6) (loc2 := [(6, 237, 0), (0, 0, 0), (0, 7, 0), (0, 1, 0), (0, 6, 0)]) (p2 := 72) rfl rfl (by decide) rfl rfl ?_
  refine q_goto rfl ?_
  refine q_load (v := (0, 6, 0)) (p2 := 5) rfl rfl rfl rfl ?_
  refine q_if0_s (p2 := 6) rfl (by decide) (by omega) rfl (fun hb => absurd hb (show ¬ (6 < 0) by omega)) (fun _ => ?_)
  refine q_load (v := (0, 6, 0)) (p2 := 7) rfl rfl rfl rfl ?_
  refine q_const (p2 := 8) rfl rfl ?_
  refine q_iop (w := 6 + 1) (z := 7) (p2 := 9) rfl (xo_add 6 1) (by decide) rfl ?_
  refine q_load (v := (6, 237, 0)) (p2 := 10) rfl rfl rfl rfl ?_
  have hm16 := (x_sch_at hm14 (fun j h1 h2 => (fr15 j (by omega))))
  refine q_getv (v := (6, 450, 0)) (p2 := 11) rfl hm16.1.choose_spec.1 (by decide) hm16.1.choose_spec.2.2.2.2.2.2.2.2.2.2.2.2.2.1 rfl ?_
  have hm17 := (zq_co_at hm12 ((fr15 450 (by decide)).trans (fr13 450 (by decide))))
  refine q_alen (p2 := 12) rfl hm17 rfl (by omega) rfl ?_
  refine q_icmp_s (p2 := 13) rfl (by decide) (by omega) (by omega) rfl (fun hb => absurd hb (show ¬ (¬ (7 < 12288)) by omega)) (fun _ => ?_)
  refine q_load (v := (6, 237, 0)) (p2 := 14) rfl rfl rfl rfl ?_
  refine q_getv (v := (6, 450, 0)) (p2 := 15) rfl hm16.1.choose_spec.1 (by decide) hm16.1.choose_spec.2.2.2.2.2.2.2.2.2.2.2.2.2.1 rfl ?_
  refine q_load (v := (0, 6, 0)) (p2 := 16) rfl rfl rfl rfl ?_
  refine q_aldT (tag := 0) (v := 0) (p2 := 17) rfl hm17 (by omega) (by omega) hc6 rfl ?_
  refine q_if0_s (p2 := 18) rfl (by decide) (by omega) rfl (fun _ => ?_) (fun hb => absurd (show 0 = 0 by omega) hb)
  refine q_load (v := (0, 1, 0)) (p2 := 74) rfl rfl rfl rfl ?_
  refine q_if0_s (p2 := 75) rfl (by decide) (by omega) rfl (fun hb => absurd hb (show ¬ (1 = 0) by omega)) (fun _ => ?_)
  refine q_load (v := (0, 7, 0)) (p2 := 76) rfl rfl rfl rfl ?_
  refine q_load (v := (6, 237, 0)) (p2 := 77) rfl rfl rfl rfl ?_
  refine q_getv (v := (6, 452, 0)) (p2 := 78) rfl hm16.1.choose_spec.1 (by decide) hm16.1.choose_spec.2.2.2.2.2.2.2.2.2.2.2.2.2.2.2.2.2.1 rfl ?_
  refine q_const (p2 := 79) rfl rfl ?_
  refine q_aldT (tag := 0) (v := 6) (p2 := 80) rfl hs15.1 (by omega) (by omega) (x_s_eq) rfl ?_
  refine q_iop (w := 7 &&& 6) (z := 6) (p2 := 81) rfl (xo_and 7 6) (by decide) rfl ?_
  refine q_if0_s (p2 := 82) rfl (by decide) (by omega) rfl (fun hb => absurd hb (show ¬ (6 = 0) by omega)) (fun _ => ?_)
  refine q_load (v := (6, 237, 0)) (p2 := 83) rfl rfl rfl rfl ?_
  refine q_getv (v := (6, 453, 0)) (p2 := 84) rfl hm16.1.choose_spec.1 (by decide) hm16.1.choose_spec.2.2.2.2.2.2.2.2.2.2.2.2.2.2.2.2.2.2.1 rfl ?_
  refine q_const (p2 := 85) rfl rfl ?_
  refine q_aldT (tag := 0) (v := 0) (p2 := 86) rfl hs15.2 (by omega) (by omega) (x_s_eq) rfl ?_
  refine q_if0_s (p2 := 87) rfl (by decide) (by omega) rfl (fun _ => ?_) (fun hb => absurd (show 0 = 0 by omega) hb)
  refine q_const (p2 := 90) rfl rfl ?_
  refine q_retv (v := (0, 0, 0)) rfl rfl ⟨rfl, by omega, by omega, ?_⟩
  refine q_if0_s (p2 := 64) rfl (by decide) (by omega) rfl (fun hb => absurd hb (show ¬ (¬ (0 = 0)) by omega)) (fun _ => ?_)
  refine q_const (p2 := 65) rfl rfl ?_
  refine q_retv (v := (0, 5, 0)) rfl rfl ⟨rfl, by omega, by omega, ?_⟩
  exact q_retv (v := (0, 5, 0)) rfl rfl (⟨rfl, rfl, rfl, rfl, hs15, fun j hj0 hj1 => ((fr15 j (by omega)).trans ((fr13 j (by omega)).trans ((fr10 j (by omega)).trans ((fr7 j (by omega)).trans ((fr4 j (by omega)).trans (fr1 j (by omega)))))))⟩)
set_option maxHeartbeats 1000000 in
theorem zc_make_3 {d n sl : Nat} {φ : FH} {tpd : Nat} {tp : Nat → Nat} {lf : Nat} {mi : Nat} {made : Nat} {sv : Nat} {svm : Nat} {comb : Nat → Nat} {hm : Nat → MV} {sc : Nat → Nat} {sm : Nat → MV} {mh : MV} {noted : Nat} {verd : Nat} {ins : Nat → Nat} {ver : Nat → Nat} {sz : Nat} {bw : Nat → Nat}  (hG : zG φ tpd tp lf mi made sv svm comb hm sc sm mh noted verd ins ver sz bw) (hn0 : 486 ≤ n) (hpv : ∀ i, x_pv2 (hm i)) (hmi : mi + 100 ≤ 20000) (hroom : made < 40) : x_f x_P (d + 5) 23 [(6, 0, 0), (0, 3, 0), (11, 0, 0)] φ n sl (x_bR n sl 0 0 (fun zw φ2 => zw = (0, made, 0) ∧ zG φ2 tpd tp lf mi (made + 1) sv svm (x_s comb made 3) (x_em made hm) sc sm mh noted verd ins ver sz bw)) := by
  refine x_f_of rfl ?_
  have hG0 := hG
  obtain ⟨⟨hand, ie, hH, hhw⟩, hB, hTJ, hEJ, hN, hKJ, ⟨A, B, s9, hPS, hLK0⟩, hSP, hV5, ⟨slq, hSL⟩, hRW, hJ, hFJ, hWJ, ⟨ovn, ovh, hOV, hovn, hovh⟩⟩ := hG
  refine x_n_lt (fun hlt0 => ?_)
  have hmade := x_PS_lt hPS
  obtain ⟨co, ⟨top_, fr_, pc_, mm, st, lo, re, rs, fl, se, hKS⟩, hco⟩ := hKJ
  refine q_load (v := (6, 0, 0)) (p2 := 1) rfl rfl rfl rfl ?_
  refine q_getv (v := (6, 7, 0)) (p2 := 2) rfl hH (by decide) rfl rfl ?_
  refine q_getv (v := (6, 237, 0)) (p2 := 3) rfl hPS.1.choose_spec.1 (by decide) hPS.1.choose_spec.2.1 rfl ?_
  refine q_load (v := (0, 3, 0)) (p2 := 4) rfl rfl rfl rfl ?_
  refine q_callr (xs := [(0, 3, 0), (6, 237, 0)]) (p2 := 5) rfl rfl rfl rfl (x_rcv_s 237 hKS.2.2.2.2.2.2.2.2.2.1.choose_spec.1) rfl (zc_s_knows_3 hKS.2.2.2.2.2.2.2.2.2) (Nat.le_refl _) (Nat.le_refl _) rfl ?_
  refine q_if0_s (p2 := 6) rfl (by decide) (by omega) rfl (fun _ => ?_) (fun hb => absurd (show ¬ (1 = 0) by omega) hb)
  refine q_load (v := (6, 0, 0)) (p2 := 9) rfl rfl rfl rfl ?_
  refine q_getv (v := (6, 7, 0)) (p2 := 10) rfl hH (by decide) rfl rfl ?_
  refine q_getv (v := (6, 237, 0)) (p2 := 11) rfl hPS.1.choose_spec.1 (by decide) hPS.1.choose_spec.2.1 rfl ?_
  refine q_load (v := (0, 3, 0)) (p2 := 12) rfl rfl rfl rfl ?_
  refine q_callrE (xs := [(0, 3, 0), (6, 237, 0)]) (p2 := 13) rfl rfl rfl rfl (x_rcv_s 237 hKS.2.2.2.2.2.2.2.2.2.1.choose_spec.1) rfl (zc_s_reason_3 hKS.2.2.2.2.2.2.2.2.2 hKS.2.2.2.2.2.2.2.1 hOV (hco 0 (by decide)) (hco 1 (by decide)) (hco 2 (by decide)) (hco 3 (by decide)) (hco 4 (by decide)) (hco 5 (by decide)) (hco 6 (by decide)) (hco 7 (by decide))) (Nat.le_refl _) (Nat.le_refl _) rfl (fun φ1 hR1 => ?_)
  obtain ⟨hs1_0, fr1⟩ := hR1
  refine q_store (loc2 := [(6, 0, 0), (0, 3, 0), (0, 0, 0)]) (p2 := 14) rfl rfl rfl rfl rfl ?_
  refine q_load (v := (0, 0, 0)) (p2 := 15) rfl rfl rfl rfl ?_
  refine q_if0_s (p2 := 16) rfl (by decide) (by omega) rfl (fun _ => ?_) (fun hb => absurd (show 0 = 0 by omega) hb)
  refine q_load (v := (6, 0, 0)) (p2 := 21) rfl rfl rfl rfl ?_
  have hm2 := (zq_H_at hH (fr1 0 (by decide) (by decide)))
  refine q_getv (v := (6, 7, 0)) (p2 := 22) rfl hm2 (by decide) rfl rfl ?_
  refine x_n_lt (fun hlt4 => ?_)
  have hm3 := (x_PS_at hPS (fun j hj hne => by have hj2 := x_some_lt hlt0 hne; exact (fr1 j (by omega) (by omega))))
  refine q_getv (v := (0, made, 0)) (p2 := 23) rfl hm3.1.choose_spec.1 (by decide) hm3.1.choose_spec.2.2.2.1 rfl ?_
  refine q_const (p2 := 24) rfl rfl ?_
  refine q_icmp_s (p2 := 25) rfl (by decide) (by omega) (by omega) rfl (fun _ => ?_) (fun hb => absurd (show made < 40 by omega) hb)
  refine q_load (v := (6, 0, 0)) (p2 := 28) rfl rfl rfl rfl ?_
  refine q_getv (v := (6, 7, 0)) (p2 := 29) rfl hm2 (by decide) rfl rfl ?_
  refine q_load (v := (0, 3, 0)) (p2 := 30) rfl rfl rfl rfl ?_
  have hm5 := (x_LK_at2 hLK0 (fun j h1 h2 => (fr1 j (by omega) (by omega))))
  refine q_callrE (xs := [(0, 3, 0), (6, 7, 0)]) (p2 := 31) rfl rfl rfl rfl (x_rcv_s 7 hm3.1.choose_spec.1) rfl (e_addP hm3 (by omega) (by omega)) (Nat.le_refl _) (Nat.le_refl _) rfl (fun φ6 hR6 => ?_)
  obtain ⟨hPS6, frn6⟩ := hR6
  have hPZ6 : x_PS φ6 A B (made + 1) sv svm 1 (x_s comb made 3) (x_em made hm) := hPS6
  refine x_n_lt (fun hlt7 => ?_)
  have hLZ6 := x_LK_st1 (made2 := made + 1) (comb2 := (x_s comb made 3)) (hm2 := (x_em made hm)) hm5 (fun j h1 h2 => (frn6 j (by omega) (by omega) (by omega)))
  have hm8 := (zq_H_at hm2 (frn6 0 (by omega) (by omega) (by omega)))
  have hm9 := (zq_tp_at hB ((frn6 1 (by omega) (by omega) (by omega)).trans (fr1 1 (by decide) (by decide))))
  have hm10 := (zTJ_at hTJ (fun j h1 h2 => ((frn6 j (by omega) (by omega) (by omega)).trans (fr1 j (by omega) (by omega)))))
  have hm11 := (zEJ_at hEJ (fun j h1 h2 => ((frn6 j (by omega) (by omega) (by omega)).trans (fr1 j (by omega) (by omega)))))
  have hm12 := (zq_nm_at hN ((frn6 239 (by omega) (by omega) (by omega)).trans (fr1 239 (by decide) (by decide))) ((frn6 242 (by omega) (by omega) (by omega)).trans (fr1 242 (by decide) (by decide))) ((frn6 244 (by omega) (by omega) (by omega)).trans (fr1 244 (by decide) (by decide))))
  have hm13 := (x_KS_at2 hKS (fun j h1 h2 h3 h4 => ((frn6 j (by omega) (by omega) (by omega)).trans (fr1 j (by omega) (by omega)))))
  have hm14 := (x_SP_at hSP (fun j hj hne => by have hj2 := x_some_lt hlt0 hne; exact ((frn6 j (by omega) (by omega) (by omega)).trans (fr1 j (by omega) (by omega)))))
  have hm15 := (zq_V5_at hV5 ((frn6 485 (by omega) (by omega) (by omega)).trans (fr1 485 (by decide) (by decide))))
  have hm16 := (zq_SL_at hSL ((frn6 482 (by omega) (by omega) (by omega)).trans (fr1 482 (by decide) (by decide))))
  have hm17 := (zq_RW_at hRW ((frn6 483 (by omega) (by omega) (by omega)).trans (fr1 483 (by decide) (by decide))))
  have hm18 := (zq_J_at hJ ((frn6 468 (by omega) (by omega) (by omega)).trans (fr1 468 (by decide) (by decide))) ((frn6 469 (by omega) (by omega) (by omega)).trans (fr1 469 (by decide) (by decide))) ((frn6 470 (by omega) (by omega) (by omega)).trans (fr1 470 (by decide) (by decide))))
  have hm19 := (zFJ_at hFJ (fun j h1 h2 => ((frn6 j (by omega) (by omega) (by omega)).trans (fr1 j (by omega) (by omega)))))
  have hm20 := (zWJ_at hWJ (fun j h1 h2 => ((frn6 j (by omega) (by omega) (by omega)).trans (fr1 j (by omega) (by omega)))))
  have hm21 := (zq_OV_at hs1_0 (frn6 452 (by omega) (by omega) (by omega)) (frn6 453 (by omega) (by omega) (by omega)))
  exact q_retv (v := (0, made, 0)) rfl rfl (⟨rfl, ⟨by omega, by omega⟩, ⟨by omega, by omega⟩, rfl, ⟨⟨_, _, hm8, (x_hw_at hhw (fun j hj hne => by have hj2 := x_some_lt hlt0 hne; exact ((frn6 j (by omega) (by omega) (by omega)).trans (fr1 j (by omega) (by omega)))))⟩, hm9, hm10, hm11, hm12, ⟨_, ⟨_, _, _, _, _, _, _, _, _, _, hm13⟩, hco⟩, ⟨_, _, _, hPZ6, hLZ6⟩, hm14, hm15, ⟨_, hm16⟩, hm17, hm18, hm19, hm20, ⟨_, _, hm21, (x_s_lt (x_s_lt (x_s_lt hovn (by omega)) (by omega)) (by omega)), (x_s_lt (x_s_lt (x_s_lt hovh (by omega)) (by omega)) (by omega))⟩⟩⟩)
set_option maxHeartbeats 1000000 in
theorem zc_make_3_full {d n sl : Nat} {φ : FH} {tpd : Nat} {tp : Nat → Nat} {lf : Nat} {mi : Nat} {made : Nat} {sv : Nat} {svm : Nat} {comb : Nat → Nat} {hm : Nat → MV} {sc : Nat → Nat} {sm : Nat → MV} {mh : MV} {noted : Nat} {verd : Nat} {ins : Nat → Nat} {ver : Nat → Nat} {sz : Nat} {bw : Nat → Nat}  (hG : zG φ tpd tp lf mi made sv svm comb hm sc sm mh noted verd ins ver sz bw) (hn0 : 486 ≤ n) (hpv : ∀ i, x_pv2 (hm i)) (hmi : mi + 100 ≤ 20000) (hroom : made = 40) : x_f x_P (d + 5) 23 [(6, 0, 0), (0, 3, 0), (11, 0, 0)] φ n sl (x_bR n sl 0 0 (fun zw φ2 => zw = (0, 4294967294, 0) ∧ zG φ2 tpd tp lf mi made sv svm comb hm sc sm mh noted verd ins ver sz bw)) := by
  refine x_f_of rfl ?_
  have hG0 := hG
  obtain ⟨⟨hand, ie, hH, hhw⟩, hB, hTJ, hEJ, hN, hKJ, ⟨A, B, s9, hPS, hLK0⟩, hSP, hV5, ⟨slq, hSL⟩, hRW, hJ, hFJ, hWJ, ⟨ovn, ovh, hOV, hovn, hovh⟩⟩ := hG
  refine x_n_lt (fun hlt0 => ?_)
  have hmade := x_PS_lt hPS
  obtain ⟨co, ⟨top_, fr_, pc_, mm, st, lo, re, rs, fl, se, hKS⟩, hco⟩ := hKJ
  refine q_load (v := (6, 0, 0)) (p2 := 1) rfl rfl rfl rfl ?_
  refine q_getv (v := (6, 7, 0)) (p2 := 2) rfl hH (by decide) rfl rfl ?_
  refine q_getv (v := (6, 237, 0)) (p2 := 3) rfl hPS.1.choose_spec.1 (by decide) hPS.1.choose_spec.2.1 rfl ?_
  refine q_load (v := (0, 3, 0)) (p2 := 4) rfl rfl rfl rfl ?_
  refine q_callr (xs := [(0, 3, 0), (6, 237, 0)]) (p2 := 5) rfl rfl rfl rfl (x_rcv_s 237 hKS.2.2.2.2.2.2.2.2.2.1.choose_spec.1) rfl (zc_s_knows_3 hKS.2.2.2.2.2.2.2.2.2) (Nat.le_refl _) (Nat.le_refl _) rfl ?_
  refine q_if0_s (p2 := 6) rfl (by decide) (by omega) rfl (fun _ => ?_) (fun hb => absurd (show ¬ (1 = 0) by omega) hb)
  refine q_load (v := (6, 0, 0)) (p2 := 9) rfl rfl rfl rfl ?_
  refine q_getv (v := (6, 7, 0)) (p2 := 10) rfl hH (by decide) rfl rfl ?_
  refine q_getv (v := (6, 237, 0)) (p2 := 11) rfl hPS.1.choose_spec.1 (by decide) hPS.1.choose_spec.2.1 rfl ?_
  refine q_load (v := (0, 3, 0)) (p2 := 12) rfl rfl rfl rfl ?_
  refine q_callrE (xs := [(0, 3, 0), (6, 237, 0)]) (p2 := 13) rfl rfl rfl rfl (x_rcv_s 237 hKS.2.2.2.2.2.2.2.2.2.1.choose_spec.1) rfl (zc_s_reason_3 hKS.2.2.2.2.2.2.2.2.2 hKS.2.2.2.2.2.2.2.1 hOV (hco 0 (by decide)) (hco 1 (by decide)) (hco 2 (by decide)) (hco 3 (by decide)) (hco 4 (by decide)) (hco 5 (by decide)) (hco 6 (by decide)) (hco 7 (by decide))) (Nat.le_refl _) (Nat.le_refl _) rfl (fun φ1 hR1 => ?_)
  obtain ⟨hs1_0, fr1⟩ := hR1
  refine q_store (loc2 := [(6, 0, 0), (0, 3, 0), (0, 0, 0)]) (p2 := 14) rfl rfl rfl rfl rfl ?_
  refine q_load (v := (0, 0, 0)) (p2 := 15) rfl rfl rfl rfl ?_
  refine q_if0_s (p2 := 16) rfl (by decide) (by omega) rfl (fun _ => ?_) (fun hb => absurd (show 0 = 0 by omega) hb)
  refine q_load (v := (6, 0, 0)) (p2 := 21) rfl rfl rfl rfl ?_
  have hm2 := (zq_H_at hH (fr1 0 (by decide) (by decide)))
  refine q_getv (v := (6, 7, 0)) (p2 := 22) rfl hm2 (by decide) rfl rfl ?_
  refine x_n_lt (fun hlt4 => ?_)
  have hm3 := (x_PS_at hPS (fun j hj hne => by have hj2 := x_some_lt hlt0 hne; exact (fr1 j (by omega) (by omega))))
  refine q_getv (v := (0, made, 0)) (p2 := 23) rfl hm3.1.choose_spec.1 (by decide) hm3.1.choose_spec.2.2.2.1 rfl ?_
  refine q_const (p2 := 24) rfl rfl ?_
  refine q_icmp_s (p2 := 25) rfl (by decide) (by omega) (by omega) rfl (fun hb => absurd hb (show ¬ (made < 40) by omega)) (fun _ => ?_)
  refine q_const (p2 := 26) rfl rfl ?_
  refine q_goto rfl ?_
  have hm5 := (zq_tp_at hB (fr1 1 (by decide) (by decide)))
  have hm6 := (zTJ_at hTJ (fun j h1 h2 => (fr1 j (by omega) (by omega))))
  have hm7 := (zEJ_at hEJ (fun j h1 h2 => (fr1 j (by omega) (by omega))))
  have hm8 := (zq_nm_at hN (fr1 239 (by decide) (by decide)) (fr1 242 (by decide) (by decide)) (fr1 244 (by decide) (by decide)))
  have hm9 := (x_KS_at2 hKS (fun j h1 h2 h3 h4 => (fr1 j (by omega) (by omega))))
  have hm10 := (x_LK_at2 hLK0 (fun j h1 h2 => (fr1 j (by omega) (by omega))))
  have hm11 := (x_SP_at hSP (fun j hj hne => by have hj2 := x_some_lt hlt0 hne; exact (fr1 j (by omega) (by omega))))
  have hm12 := (zq_V5_at hV5 (fr1 485 (by decide) (by decide)))
  have hm13 := (zq_SL_at hSL (fr1 482 (by decide) (by decide)))
  have hm14 := (zq_RW_at hRW (fr1 483 (by decide) (by decide)))
  have hm15 := (zq_J_at hJ (fr1 468 (by decide) (by decide)) (fr1 469 (by decide) (by decide)) (fr1 470 (by decide) (by decide)))
  have hm16 := (zFJ_at hFJ (fun j h1 h2 => (fr1 j (by omega) (by omega))))
  have hm17 := (zWJ_at hWJ (fun j h1 h2 => (fr1 j (by omega) (by omega))))
  exact q_retv (v := (0, 4294967294, 0)) rfl rfl (⟨rfl, ⟨by omega, by omega⟩, ⟨by omega, by omega⟩, rfl, ⟨⟨_, _, hm2, (x_hw_at hhw (fun j hj hne => by have hj2 := x_some_lt hlt0 hne; exact (fr1 j (by omega) (by omega))))⟩, hm5, hm6, hm7, hm8, ⟨_, ⟨_, _, _, _, _, _, _, _, _, _, hm9⟩, hco⟩, ⟨_, _, _, hm3, hm10⟩, hm11, hm12, ⟨_, hm13⟩, hm14, hm15, hm16, hm17, ⟨_, _, hs1_0, (x_s_lt (x_s_lt (x_s_lt hovn (by omega)) (by omega)) (by omega)), (x_s_lt (x_s_lt (x_s_lt hovh (by omega)) (by omega)) (by omega))⟩⟩⟩)
set_option maxHeartbeats 1000000 in
theorem zc_make_5 {d n sl : Nat} {φ : FH} {tpd : Nat} {tp : Nat → Nat} {lf : Nat} {mi : Nat} {made : Nat} {sv : Nat} {svm : Nat} {comb : Nat → Nat} {hm : Nat → MV} {sc : Nat → Nat} {sm : Nat → MV} {mh : MV} {noted : Nat} {verd : Nat} {ins : Nat → Nat} {ver : Nat → Nat} {sz : Nat} {bw : Nat → Nat}  (hG : zG φ tpd tp lf mi made sv svm comb hm sc sm mh noted verd ins ver sz bw) (hn0 : 486 ≤ n) (hpv : ∀ i, x_pv2 (hm i)) (hmi : mi + 100 ≤ 20000) (hroom : made < 40) : x_f x_P (d + 5) 23 [(6, 0, 0), (0, 5, 0), (11, 0, 0)] φ n sl (x_bR n sl 0 0 (fun zw φ2 => zw = (0, made, 0) ∧ zG φ2 tpd tp lf mi (made + 1) sv svm (x_s comb made 5) (x_em made hm) sc sm mh noted verd ins ver sz bw)) := by
  refine x_f_of rfl ?_
  have hG0 := hG
  obtain ⟨⟨hand, ie, hH, hhw⟩, hB, hTJ, hEJ, hN, hKJ, ⟨A, B, s9, hPS, hLK0⟩, hSP, hV5, ⟨slq, hSL⟩, hRW, hJ, hFJ, hWJ, ⟨ovn, ovh, hOV, hovn, hovh⟩⟩ := hG
  refine x_n_lt (fun hlt0 => ?_)
  have hmade := x_PS_lt hPS
  obtain ⟨co, ⟨top_, fr_, pc_, mm, st, lo, re, rs, fl, se, hKS⟩, hco⟩ := hKJ
  refine q_load (v := (6, 0, 0)) (p2 := 1) rfl rfl rfl rfl ?_
  refine q_getv (v := (6, 7, 0)) (p2 := 2) rfl hH (by decide) rfl rfl ?_
  refine q_getv (v := (6, 237, 0)) (p2 := 3) rfl hPS.1.choose_spec.1 (by decide) hPS.1.choose_spec.2.1 rfl ?_
  refine q_load (v := (0, 5, 0)) (p2 := 4) rfl rfl rfl rfl ?_
  refine q_callr (xs := [(0, 5, 0), (6, 237, 0)]) (p2 := 5) rfl rfl rfl rfl (x_rcv_s 237 hKS.2.2.2.2.2.2.2.2.2.1.choose_spec.1) rfl (zc_s_knows_5 hKS.2.2.2.2.2.2.2.2.2) (Nat.le_refl _) (Nat.le_refl _) rfl ?_
  refine q_if0_s (p2 := 6) rfl (by decide) (by omega) rfl (fun _ => ?_) (fun hb => absurd (show ¬ (1 = 0) by omega) hb)
  refine q_load (v := (6, 0, 0)) (p2 := 9) rfl rfl rfl rfl ?_
  refine q_getv (v := (6, 7, 0)) (p2 := 10) rfl hH (by decide) rfl rfl ?_
  refine q_getv (v := (6, 237, 0)) (p2 := 11) rfl hPS.1.choose_spec.1 (by decide) hPS.1.choose_spec.2.1 rfl ?_
  refine q_load (v := (0, 5, 0)) (p2 := 12) rfl rfl rfl rfl ?_
  refine q_callrE (xs := [(0, 5, 0), (6, 237, 0)]) (p2 := 13) rfl rfl rfl rfl (x_rcv_s 237 hKS.2.2.2.2.2.2.2.2.2.1.choose_spec.1) rfl (zc_s_reason_5 hKS.2.2.2.2.2.2.2.2.2 hKS.2.2.2.2.2.2.2.1 hOV (hco 0 (by decide)) (hco 1 (by decide)) (hco 2 (by decide)) (hco 3 (by decide)) (hco 4 (by decide)) (hco 5 (by decide)) (hco 6 (by decide)) (hco 7 (by decide))) (Nat.le_refl _) (Nat.le_refl _) rfl (fun φ1 hR1 => ?_)
  obtain ⟨hs1_0, fr1⟩ := hR1
  refine q_store (loc2 := [(6, 0, 0), (0, 5, 0), (0, 0, 0)]) (p2 := 14) rfl rfl rfl rfl rfl ?_
  refine q_load (v := (0, 0, 0)) (p2 := 15) rfl rfl rfl rfl ?_
  refine q_if0_s (p2 := 16) rfl (by decide) (by omega) rfl (fun _ => ?_) (fun hb => absurd (show 0 = 0 by omega) hb)
  refine q_load (v := (6, 0, 0)) (p2 := 21) rfl rfl rfl rfl ?_
  have hm2 := (zq_H_at hH (fr1 0 (by decide) (by decide)))
  refine q_getv (v := (6, 7, 0)) (p2 := 22) rfl hm2 (by decide) rfl rfl ?_
  refine x_n_lt (fun hlt4 => ?_)
  have hm3 := (x_PS_at hPS (fun j hj hne => by have hj2 := x_some_lt hlt0 hne; exact (fr1 j (by omega) (by omega))))
  refine q_getv (v := (0, made, 0)) (p2 := 23) rfl hm3.1.choose_spec.1 (by decide) hm3.1.choose_spec.2.2.2.1 rfl ?_
  refine q_const (p2 := 24) rfl rfl ?_
  refine q_icmp_s (p2 := 25) rfl (by decide) (by omega) (by omega) rfl (fun _ => ?_) (fun hb => absurd (show made < 40 by omega) hb)
  refine q_load (v := (6, 0, 0)) (p2 := 28) rfl rfl rfl rfl ?_
  refine q_getv (v := (6, 7, 0)) (p2 := 29) rfl hm2 (by decide) rfl rfl ?_
  refine q_load (v := (0, 5, 0)) (p2 := 30) rfl rfl rfl rfl ?_
  have hm5 := (x_LK_at2 hLK0 (fun j h1 h2 => (fr1 j (by omega) (by omega))))
  refine q_callrE (xs := [(0, 5, 0), (6, 7, 0)]) (p2 := 31) rfl rfl rfl rfl (x_rcv_s 7 hm3.1.choose_spec.1) rfl (e_addP hm3 (by omega) (by omega)) (Nat.le_refl _) (Nat.le_refl _) rfl (fun φ6 hR6 => ?_)
  obtain ⟨hPS6, frn6⟩ := hR6
  have hPZ6 : x_PS φ6 A B (made + 1) sv svm 1 (x_s comb made 5) (x_em made hm) := hPS6
  refine x_n_lt (fun hlt7 => ?_)
  have hLZ6 := x_LK_st1 (made2 := made + 1) (comb2 := (x_s comb made 5)) (hm2 := (x_em made hm)) hm5 (fun j h1 h2 => (frn6 j (by omega) (by omega) (by omega)))
  have hm8 := (zq_H_at hm2 (frn6 0 (by omega) (by omega) (by omega)))
  have hm9 := (zq_tp_at hB ((frn6 1 (by omega) (by omega) (by omega)).trans (fr1 1 (by decide) (by decide))))
  have hm10 := (zTJ_at hTJ (fun j h1 h2 => ((frn6 j (by omega) (by omega) (by omega)).trans (fr1 j (by omega) (by omega)))))
  have hm11 := (zEJ_at hEJ (fun j h1 h2 => ((frn6 j (by omega) (by omega) (by omega)).trans (fr1 j (by omega) (by omega)))))
  have hm12 := (zq_nm_at hN ((frn6 239 (by omega) (by omega) (by omega)).trans (fr1 239 (by decide) (by decide))) ((frn6 242 (by omega) (by omega) (by omega)).trans (fr1 242 (by decide) (by decide))) ((frn6 244 (by omega) (by omega) (by omega)).trans (fr1 244 (by decide) (by decide))))
  have hm13 := (x_KS_at2 hKS (fun j h1 h2 h3 h4 => ((frn6 j (by omega) (by omega) (by omega)).trans (fr1 j (by omega) (by omega)))))
  have hm14 := (x_SP_at hSP (fun j hj hne => by have hj2 := x_some_lt hlt0 hne; exact ((frn6 j (by omega) (by omega) (by omega)).trans (fr1 j (by omega) (by omega)))))
  have hm15 := (zq_V5_at hV5 ((frn6 485 (by omega) (by omega) (by omega)).trans (fr1 485 (by decide) (by decide))))
  have hm16 := (zq_SL_at hSL ((frn6 482 (by omega) (by omega) (by omega)).trans (fr1 482 (by decide) (by decide))))
  have hm17 := (zq_RW_at hRW ((frn6 483 (by omega) (by omega) (by omega)).trans (fr1 483 (by decide) (by decide))))
  have hm18 := (zq_J_at hJ ((frn6 468 (by omega) (by omega) (by omega)).trans (fr1 468 (by decide) (by decide))) ((frn6 469 (by omega) (by omega) (by omega)).trans (fr1 469 (by decide) (by decide))) ((frn6 470 (by omega) (by omega) (by omega)).trans (fr1 470 (by decide) (by decide))))
  have hm19 := (zFJ_at hFJ (fun j h1 h2 => ((frn6 j (by omega) (by omega) (by omega)).trans (fr1 j (by omega) (by omega)))))
  have hm20 := (zWJ_at hWJ (fun j h1 h2 => ((frn6 j (by omega) (by omega) (by omega)).trans (fr1 j (by omega) (by omega)))))
  have hm21 := (zq_OV_at hs1_0 (frn6 452 (by omega) (by omega) (by omega)) (frn6 453 (by omega) (by omega) (by omega)))
  exact q_retv (v := (0, made, 0)) rfl rfl (⟨rfl, ⟨by omega, by omega⟩, ⟨by omega, by omega⟩, rfl, ⟨⟨_, _, hm8, (x_hw_at hhw (fun j hj hne => by have hj2 := x_some_lt hlt0 hne; exact ((frn6 j (by omega) (by omega) (by omega)).trans (fr1 j (by omega) (by omega)))))⟩, hm9, hm10, hm11, hm12, ⟨_, ⟨_, _, _, _, _, _, _, _, _, _, hm13⟩, hco⟩, ⟨_, _, _, hPZ6, hLZ6⟩, hm14, hm15, ⟨_, hm16⟩, hm17, hm18, hm19, hm20, ⟨_, _, hm21, (x_s_lt (x_s_lt (x_s_lt hovn (by omega)) (by omega)) (by omega)), (x_s_lt (x_s_lt (x_s_lt hovh (by omega)) (by omega)) (by omega))⟩⟩⟩)
set_option maxHeartbeats 1000000 in
theorem zc_make_5_full {d n sl : Nat} {φ : FH} {tpd : Nat} {tp : Nat → Nat} {lf : Nat} {mi : Nat} {made : Nat} {sv : Nat} {svm : Nat} {comb : Nat → Nat} {hm : Nat → MV} {sc : Nat → Nat} {sm : Nat → MV} {mh : MV} {noted : Nat} {verd : Nat} {ins : Nat → Nat} {ver : Nat → Nat} {sz : Nat} {bw : Nat → Nat}  (hG : zG φ tpd tp lf mi made sv svm comb hm sc sm mh noted verd ins ver sz bw) (hn0 : 486 ≤ n) (hpv : ∀ i, x_pv2 (hm i)) (hmi : mi + 100 ≤ 20000) (hroom : made = 40) : x_f x_P (d + 5) 23 [(6, 0, 0), (0, 5, 0), (11, 0, 0)] φ n sl (x_bR n sl 0 0 (fun zw φ2 => zw = (0, 4294967294, 0) ∧ zG φ2 tpd tp lf mi made sv svm comb hm sc sm mh noted verd ins ver sz bw)) := by
  refine x_f_of rfl ?_
  have hG0 := hG
  obtain ⟨⟨hand, ie, hH, hhw⟩, hB, hTJ, hEJ, hN, hKJ, ⟨A, B, s9, hPS, hLK0⟩, hSP, hV5, ⟨slq, hSL⟩, hRW, hJ, hFJ, hWJ, ⟨ovn, ovh, hOV, hovn, hovh⟩⟩ := hG
  refine x_n_lt (fun hlt0 => ?_)
  have hmade := x_PS_lt hPS
  obtain ⟨co, ⟨top_, fr_, pc_, mm, st, lo, re, rs, fl, se, hKS⟩, hco⟩ := hKJ
  refine q_load (v := (6, 0, 0)) (p2 := 1) rfl rfl rfl rfl ?_
  refine q_getv (v := (6, 7, 0)) (p2 := 2) rfl hH (by decide) rfl rfl ?_
  refine q_getv (v := (6, 237, 0)) (p2 := 3) rfl hPS.1.choose_spec.1 (by decide) hPS.1.choose_spec.2.1 rfl ?_
  refine q_load (v := (0, 5, 0)) (p2 := 4) rfl rfl rfl rfl ?_
  refine q_callr (xs := [(0, 5, 0), (6, 237, 0)]) (p2 := 5) rfl rfl rfl rfl (x_rcv_s 237 hKS.2.2.2.2.2.2.2.2.2.1.choose_spec.1) rfl (zc_s_knows_5 hKS.2.2.2.2.2.2.2.2.2) (Nat.le_refl _) (Nat.le_refl _) rfl ?_
  refine q_if0_s (p2 := 6) rfl (by decide) (by omega) rfl (fun _ => ?_) (fun hb => absurd (show ¬ (1 = 0) by omega) hb)
  refine q_load (v := (6, 0, 0)) (p2 := 9) rfl rfl rfl rfl ?_
  refine q_getv (v := (6, 7, 0)) (p2 := 10) rfl hH (by decide) rfl rfl ?_
  refine q_getv (v := (6, 237, 0)) (p2 := 11) rfl hPS.1.choose_spec.1 (by decide) hPS.1.choose_spec.2.1 rfl ?_
  refine q_load (v := (0, 5, 0)) (p2 := 12) rfl rfl rfl rfl ?_
  refine q_callrE (xs := [(0, 5, 0), (6, 237, 0)]) (p2 := 13) rfl rfl rfl rfl (x_rcv_s 237 hKS.2.2.2.2.2.2.2.2.2.1.choose_spec.1) rfl (zc_s_reason_5 hKS.2.2.2.2.2.2.2.2.2 hKS.2.2.2.2.2.2.2.1 hOV (hco 0 (by decide)) (hco 1 (by decide)) (hco 2 (by decide)) (hco 3 (by decide)) (hco 4 (by decide)) (hco 5 (by decide)) (hco 6 (by decide)) (hco 7 (by decide))) (Nat.le_refl _) (Nat.le_refl _) rfl (fun φ1 hR1 => ?_)
  obtain ⟨hs1_0, fr1⟩ := hR1
  refine q_store (loc2 := [(6, 0, 0), (0, 5, 0), (0, 0, 0)]) (p2 := 14) rfl rfl rfl rfl rfl ?_
  refine q_load (v := (0, 0, 0)) (p2 := 15) rfl rfl rfl rfl ?_
  refine q_if0_s (p2 := 16) rfl (by decide) (by omega) rfl (fun _ => ?_) (fun hb => absurd (show 0 = 0 by omega) hb)
  refine q_load (v := (6, 0, 0)) (p2 := 21) rfl rfl rfl rfl ?_
  have hm2 := (zq_H_at hH (fr1 0 (by decide) (by decide)))
  refine q_getv (v := (6, 7, 0)) (p2 := 22) rfl hm2 (by decide) rfl rfl ?_
  refine x_n_lt (fun hlt4 => ?_)
  have hm3 := (x_PS_at hPS (fun j hj hne => by have hj2 := x_some_lt hlt0 hne; exact (fr1 j (by omega) (by omega))))
  refine q_getv (v := (0, made, 0)) (p2 := 23) rfl hm3.1.choose_spec.1 (by decide) hm3.1.choose_spec.2.2.2.1 rfl ?_
  refine q_const (p2 := 24) rfl rfl ?_
  refine q_icmp_s (p2 := 25) rfl (by decide) (by omega) (by omega) rfl (fun hb => absurd hb (show ¬ (made < 40) by omega)) (fun _ => ?_)
  refine q_const (p2 := 26) rfl rfl ?_
  refine q_goto rfl ?_
  have hm5 := (zq_tp_at hB (fr1 1 (by decide) (by decide)))
  have hm6 := (zTJ_at hTJ (fun j h1 h2 => (fr1 j (by omega) (by omega))))
  have hm7 := (zEJ_at hEJ (fun j h1 h2 => (fr1 j (by omega) (by omega))))
  have hm8 := (zq_nm_at hN (fr1 239 (by decide) (by decide)) (fr1 242 (by decide) (by decide)) (fr1 244 (by decide) (by decide)))
  have hm9 := (x_KS_at2 hKS (fun j h1 h2 h3 h4 => (fr1 j (by omega) (by omega))))
  have hm10 := (x_LK_at2 hLK0 (fun j h1 h2 => (fr1 j (by omega) (by omega))))
  have hm11 := (x_SP_at hSP (fun j hj hne => by have hj2 := x_some_lt hlt0 hne; exact (fr1 j (by omega) (by omega))))
  have hm12 := (zq_V5_at hV5 (fr1 485 (by decide) (by decide)))
  have hm13 := (zq_SL_at hSL (fr1 482 (by decide) (by decide)))
  have hm14 := (zq_RW_at hRW (fr1 483 (by decide) (by decide)))
  have hm15 := (zq_J_at hJ (fr1 468 (by decide) (by decide)) (fr1 469 (by decide) (by decide)) (fr1 470 (by decide) (by decide)))
  have hm16 := (zFJ_at hFJ (fun j h1 h2 => (fr1 j (by omega) (by omega))))
  have hm17 := (zWJ_at hWJ (fun j h1 h2 => (fr1 j (by omega) (by omega))))
  exact q_retv (v := (0, 4294967294, 0)) rfl rfl (⟨rfl, ⟨by omega, by omega⟩, ⟨by omega, by omega⟩, rfl, ⟨⟨_, _, hm2, (x_hw_at hhw (fun j hj hne => by have hj2 := x_some_lt hlt0 hne; exact (fr1 j (by omega) (by omega))))⟩, hm5, hm6, hm7, hm8, ⟨_, ⟨_, _, _, _, _, _, _, _, _, _, hm9⟩, hco⟩, ⟨_, _, _, hm3, hm10⟩, hm11, hm12, ⟨_, hm13⟩, hm14, hm15, hm16, hm17, ⟨_, _, hs1_0, (x_s_lt (x_s_lt (x_s_lt hovn (by omega)) (by omega)) (by omega)), (x_s_lt (x_s_lt (x_s_lt hovh (by omega)) (by omega)) (by omega))⟩⟩⟩)
set_option maxHeartbeats 1000000 in
theorem zc_make_0 {d n sl : Nat} {φ : FH} {tpd : Nat} {tp : Nat → Nat} {lf : Nat} {mi : Nat} {made : Nat} {sv : Nat} {svm : Nat} {comb : Nat → Nat} {hm : Nat → MV} {sc : Nat → Nat} {sm : Nat → MV} {mh : MV} {noted : Nat} {verd : Nat} {ins : Nat → Nat} {ver : Nat → Nat} {sz : Nat} {bw : Nat → Nat}  (hG : zG φ tpd tp lf mi made sv svm comb hm sc sm mh noted verd ins ver sz bw) (hn0 : 486 ≤ n) (hpv : ∀ i, x_pv2 (hm i)) (hmi : mi + 100 ≤ 20000)  : x_f x_P (d + 2) 23 [(6, 0, 0), (0, 0, 0), (11, 0, 0)] φ n sl (x_bR n sl 0 0 (fun zw φ2 => zw = (0, 4294967285, 0) ∧ zG φ2 tpd tp lf mi made sv svm comb hm sc sm mh noted verd ins ver sz bw)) := by
  refine x_f_of rfl ?_
  have hG0 := hG
  obtain ⟨⟨hand, ie, hH, hhw⟩, hB, hTJ, hEJ, hN, hKJ, ⟨A, B, s9, hPS, hLK0⟩, hSP, hV5, ⟨slq, hSL⟩, hRW, hJ, hFJ, hWJ, ⟨ovn, ovh, hOV, hovn, hovh⟩⟩ := hG
  refine x_n_lt (fun hlt0 => ?_)
  have hmade := x_PS_lt hPS
  obtain ⟨co, ⟨top_, fr_, pc_, mm, st, lo, re, rs, fl, se, hKS⟩, hco⟩ := hKJ
  refine q_load (v := (6, 0, 0)) (p2 := 1) rfl rfl rfl rfl ?_
  refine q_getv (v := (6, 7, 0)) (p2 := 2) rfl hH (by decide) rfl rfl ?_
  refine q_getv (v := (6, 237, 0)) (p2 := 3) rfl hPS.1.choose_spec.1 (by decide) hPS.1.choose_spec.2.1 rfl ?_
  refine q_load (v := (0, 0, 0)) (p2 := 4) rfl rfl rfl rfl ?_
  refine q_callr (xs := [(0, 0, 0), (6, 237, 0)]) (p2 := 5) rfl rfl rfl rfl (x_rcv_s 237 hKS.2.2.2.2.2.2.2.2.2.1.choose_spec.1) rfl (zc_s_knows_0 hKS.2.2.2.2.2.2.2.2.2) (Nat.le_refl _) (Nat.le_refl _) rfl ?_
  refine q_if0_s (p2 := 6) rfl (by decide) (by omega) rfl (fun _ => ?_) (fun hb => absurd (show ¬ (1 = 0) by omega) hb)
  refine q_load (v := (6, 0, 0)) (p2 := 9) rfl rfl rfl rfl ?_
  refine q_getv (v := (6, 7, 0)) (p2 := 10) rfl hH (by decide) rfl rfl ?_
  refine q_getv (v := (6, 237, 0)) (p2 := 11) rfl hPS.1.choose_spec.1 (by decide) hPS.1.choose_spec.2.1 rfl ?_
  refine q_load (v := (0, 0, 0)) (p2 := 12) rfl rfl rfl rfl ?_
  refine q_callr (xs := [(0, 0, 0), (6, 237, 0)]) (p2 := 13) rfl rfl rfl rfl (x_rcv_s 237 hKS.2.2.2.2.2.2.2.2.2.1.choose_spec.1) rfl (zc_s_reason_0 hKS.2.2.2.2.2.2.2.2.2 hKS.2.2.2.2.2.2.2.1 hOV (hco 0 (by decide)) (hco 1 (by decide)) (hco 2 (by decide)) (hco 3 (by decide)) (hco 4 (by decide)) (hco 5 (by decide)) (hco 6 (by decide)) (hco 7 (by decide))) (Nat.le_refl _) (Nat.le_refl _) rfl ?_
  refine q_store (loc2 := [(6, 0, 0), (0, 0, 0), (0, 1, 0)]) (p2 := 14) rfl rfl rfl rfl rfl ?_
  refine q_load (v := (0, 1, 0)) (p2 := 15) rfl rfl rfl rfl ?_
  refine q_if0_s (p2 := 16) rfl (by decide) (by omega) rfl (fun hb => absurd hb (show ¬ (1 = 0) by omega)) (fun _ => ?_)
  refine q_const (p2 := 17) rfl rfl ?_
  refine q_load (v := (0, 1, 0)) (p2 := 18) rfl rfl rfl rfl ?_
  refine q_iop (w := 4294967286 + (4294967296 - 1 % 4294967296)) (z := 4294967285) (p2 := 19) rfl (xo_sub 4294967286 1) (by decide) rfl ?_
  exact q_retv (v := (0, 4294967285, 0)) rfl rfl (⟨rfl, ⟨by omega, by omega⟩, ⟨by omega, by omega⟩, rfl, ⟨⟨_, _, hH, hhw⟩, hB, hTJ, hEJ, hN, ⟨_, ⟨_, _, _, _, _, _, _, _, _, _, hKS⟩, hco⟩, ⟨_, _, _, hPS, hLK0⟩, hSP, hV5, ⟨_, hSL⟩, hRW, hJ, hFJ, hWJ, ⟨_, _, hOV, hovn, hovh⟩⟩⟩)
set_option maxHeartbeats 1000000 in
theorem zc_make_1 {d n sl : Nat} {φ : FH} {tpd : Nat} {tp : Nat → Nat} {lf : Nat} {mi : Nat} {made : Nat} {sv : Nat} {svm : Nat} {comb : Nat → Nat} {hm : Nat → MV} {sc : Nat → Nat} {sm : Nat → MV} {mh : MV} {noted : Nat} {verd : Nat} {ins : Nat → Nat} {ver : Nat → Nat} {sz : Nat} {bw : Nat → Nat}  (hG : zG φ tpd tp lf mi made sv svm comb hm sc sm mh noted verd ins ver sz bw) (hn0 : 486 ≤ n) (hpv : ∀ i, x_pv2 (hm i)) (hmi : mi + 100 ≤ 20000)  : x_f x_P (d + 4) 23 [(6, 0, 0), (0, 1, 0), (11, 0, 0)] φ n sl (x_bR n sl 0 0 (fun zw φ2 => zw = (0, 4294967282, 0) ∧ zG φ2 tpd tp lf mi made sv svm comb hm sc sm mh noted verd ins ver sz bw)) := by
  refine x_f_of rfl ?_
  have hG0 := hG
  obtain ⟨⟨hand, ie, hH, hhw⟩, hB, hTJ, hEJ, hN, hKJ, ⟨A, B, s9, hPS, hLK0⟩, hSP, hV5, ⟨slq, hSL⟩, hRW, hJ, hFJ, hWJ, ⟨ovn, ovh, hOV, hovn, hovh⟩⟩ := hG
  refine x_n_lt (fun hlt0 => ?_)
  have hmade := x_PS_lt hPS
  obtain ⟨co, ⟨top_, fr_, pc_, mm, st, lo, re, rs, fl, se, hKS⟩, hco⟩ := hKJ
  refine q_load (v := (6, 0, 0)) (p2 := 1) rfl rfl rfl rfl ?_
  refine q_getv (v := (6, 7, 0)) (p2 := 2) rfl hH (by decide) rfl rfl ?_
  refine q_getv (v := (6, 237, 0)) (p2 := 3) rfl hPS.1.choose_spec.1 (by decide) hPS.1.choose_spec.2.1 rfl ?_
  refine q_load (v := (0, 1, 0)) (p2 := 4) rfl rfl rfl rfl ?_
  refine q_callr (xs := [(0, 1, 0), (6, 237, 0)]) (p2 := 5) rfl rfl rfl rfl (x_rcv_s 237 hKS.2.2.2.2.2.2.2.2.2.1.choose_spec.1) rfl (zc_s_knows_1 hKS.2.2.2.2.2.2.2.2.2) (Nat.le_refl _) (Nat.le_refl _) rfl ?_
  refine q_if0_s (p2 := 6) rfl (by decide) (by omega) rfl (fun _ => ?_) (fun hb => absurd (show ¬ (1 = 0) by omega) hb)
  refine q_load (v := (6, 0, 0)) (p2 := 9) rfl rfl rfl rfl ?_
  refine q_getv (v := (6, 7, 0)) (p2 := 10) rfl hH (by decide) rfl rfl ?_
  refine q_getv (v := (6, 237, 0)) (p2 := 11) rfl hPS.1.choose_spec.1 (by decide) hPS.1.choose_spec.2.1 rfl ?_
  refine q_load (v := (0, 1, 0)) (p2 := 12) rfl rfl rfl rfl ?_
  refine q_callr (xs := [(0, 1, 0), (6, 237, 0)]) (p2 := 13) rfl rfl rfl rfl (x_rcv_s 237 hKS.2.2.2.2.2.2.2.2.2.1.choose_spec.1) rfl (zc_s_reason_1 hKS.2.2.2.2.2.2.2.2.2 hKS.2.2.2.2.2.2.2.1 hOV (hco 0 (by decide)) (hco 1 (by decide)) (hco 2 (by decide)) (hco 3 (by decide)) (hco 4 (by decide)) (hco 5 (by decide)) (hco 6 (by decide)) (hco 7 (by decide))) (Nat.le_refl _) (Nat.le_refl _) rfl ?_
  refine q_store (loc2 := [(6, 0, 0), (0, 1, 0), (0, 4, 0)]) (p2 := 14) rfl rfl rfl rfl rfl ?_
  refine q_load (v := (0, 4, 0)) (p2 := 15) rfl rfl rfl rfl ?_
  refine q_if0_s (p2 := 16) rfl (by decide) (by omega) rfl (fun hb => absurd hb (show ¬ (4 = 0) by omega)) (fun _ => ?_)
  refine q_const (p2 := 17) rfl rfl ?_
  refine q_load (v := (0, 4, 0)) (p2 := 18) rfl rfl rfl rfl ?_
  refine q_iop (w := 4294967286 + (4294967296 - 4 % 4294967296)) (z := 4294967282) (p2 := 19) rfl (xo_sub 4294967286 4) (by decide) rfl ?_
  exact q_retv (v := (0, 4294967282, 0)) rfl rfl (⟨rfl, ⟨by omega, by omega⟩, ⟨by omega, by omega⟩, rfl, ⟨⟨_, _, hH, hhw⟩, hB, hTJ, hEJ, hN, ⟨_, ⟨_, _, _, _, _, _, _, _, _, _, hKS⟩, hco⟩, ⟨_, _, _, hPS, hLK0⟩, hSP, hV5, ⟨_, hSL⟩, hRW, hJ, hFJ, hWJ, ⟨_, _, hOV, hovn, hovh⟩⟩⟩)
set_option maxHeartbeats 1000000 in
theorem zc_make_6 {d n sl : Nat} {φ : FH} {tpd : Nat} {tp : Nat → Nat} {lf : Nat} {mi : Nat} {made : Nat} {sv : Nat} {svm : Nat} {comb : Nat → Nat} {hm : Nat → MV} {sc : Nat → Nat} {sm : Nat → MV} {mh : MV} {noted : Nat} {verd : Nat} {ins : Nat → Nat} {ver : Nat → Nat} {sz : Nat} {bw : Nat → Nat}  (hG : zG φ tpd tp lf mi made sv svm comb hm sc sm mh noted verd ins ver sz bw) (hn0 : 486 ≤ n) (hpv : ∀ i, x_pv2 (hm i)) (hmi : mi + 100 ≤ 20000)  : x_f x_P (d + 2) 23 [(6, 0, 0), (0, 6, 0), (11, 0, 0)] φ n sl (x_bR n sl 0 0 (fun zw φ2 => zw = (0, 4294967284, 0) ∧ zG φ2 tpd tp lf mi made sv svm comb hm sc sm mh noted verd ins ver sz bw)) := by
  refine x_f_of rfl ?_
  have hG0 := hG
  obtain ⟨⟨hand, ie, hH, hhw⟩, hB, hTJ, hEJ, hN, hKJ, ⟨A, B, s9, hPS, hLK0⟩, hSP, hV5, ⟨slq, hSL⟩, hRW, hJ, hFJ, hWJ, ⟨ovn, ovh, hOV, hovn, hovh⟩⟩ := hG
  refine x_n_lt (fun hlt0 => ?_)
  have hmade := x_PS_lt hPS
  obtain ⟨co, ⟨top_, fr_, pc_, mm, st, lo, re, rs, fl, se, hKS⟩, hco⟩ := hKJ
  refine q_load (v := (6, 0, 0)) (p2 := 1) rfl rfl rfl rfl ?_
  refine q_getv (v := (6, 7, 0)) (p2 := 2) rfl hH (by decide) rfl rfl ?_
  refine q_getv (v := (6, 237, 0)) (p2 := 3) rfl hPS.1.choose_spec.1 (by decide) hPS.1.choose_spec.2.1 rfl ?_
  refine q_load (v := (0, 6, 0)) (p2 := 4) rfl rfl rfl rfl ?_
  refine q_callr (xs := [(0, 6, 0), (6, 237, 0)]) (p2 := 5) rfl rfl rfl rfl (x_rcv_s 237 hKS.2.2.2.2.2.2.2.2.2.1.choose_spec.1) rfl (zc_s_knows_6 hKS.2.2.2.2.2.2.2.2.2) (Nat.le_refl _) (Nat.le_refl _) rfl ?_
  refine q_if0_s (p2 := 6) rfl (by decide) (by omega) rfl (fun _ => ?_) (fun hb => absurd (show ¬ (1 = 0) by omega) hb)
  refine q_load (v := (6, 0, 0)) (p2 := 9) rfl rfl rfl rfl ?_
  refine q_getv (v := (6, 7, 0)) (p2 := 10) rfl hH (by decide) rfl rfl ?_
  refine q_getv (v := (6, 237, 0)) (p2 := 11) rfl hPS.1.choose_spec.1 (by decide) hPS.1.choose_spec.2.1 rfl ?_
  refine q_load (v := (0, 6, 0)) (p2 := 12) rfl rfl rfl rfl ?_
  refine q_callr (xs := [(0, 6, 0), (6, 237, 0)]) (p2 := 13) rfl rfl rfl rfl (x_rcv_s 237 hKS.2.2.2.2.2.2.2.2.2.1.choose_spec.1) rfl (zc_s_reason_6 hKS.2.2.2.2.2.2.2.2.2 hKS.2.2.2.2.2.2.2.1 hOV (hco 0 (by decide)) (hco 1 (by decide)) (hco 2 (by decide)) (hco 3 (by decide)) (hco 4 (by decide)) (hco 5 (by decide)) (hco 6 (by decide)) (hco 7 (by decide))) (Nat.le_refl _) (Nat.le_refl _) rfl ?_
  refine q_store (loc2 := [(6, 0, 0), (0, 6, 0), (0, 2, 0)]) (p2 := 14) rfl rfl rfl rfl rfl ?_
  refine q_load (v := (0, 2, 0)) (p2 := 15) rfl rfl rfl rfl ?_
  refine q_if0_s (p2 := 16) rfl (by decide) (by omega) rfl (fun hb => absurd hb (show ¬ (2 = 0) by omega)) (fun _ => ?_)
  refine q_const (p2 := 17) rfl rfl ?_
  refine q_load (v := (0, 2, 0)) (p2 := 18) rfl rfl rfl rfl ?_
  refine q_iop (w := 4294967286 + (4294967296 - 2 % 4294967296)) (z := 4294967284) (p2 := 19) rfl (xo_sub 4294967286 2) (by decide) rfl ?_
  exact q_retv (v := (0, 4294967284, 0)) rfl rfl (⟨rfl, ⟨by omega, by omega⟩, ⟨by omega, by omega⟩, rfl, ⟨⟨_, _, hH, hhw⟩, hB, hTJ, hEJ, hN, ⟨_, ⟨_, _, _, _, _, _, _, _, _, _, hKS⟩, hco⟩, ⟨_, _, _, hPS, hLK0⟩, hSP, hV5, ⟨_, hSL⟩, hRW, hJ, hFJ, hWJ, ⟨_, _, hOV, hovn, hovh⟩⟩⟩)
set_option maxHeartbeats 1000000 in
theorem zc_make_7 {d n sl : Nat} {φ : FH} {tpd : Nat} {tp : Nat → Nat} {lf : Nat} {mi : Nat} {made : Nat} {sv : Nat} {svm : Nat} {comb : Nat → Nat} {hm : Nat → MV} {sc : Nat → Nat} {sm : Nat → MV} {mh : MV} {noted : Nat} {verd : Nat} {ins : Nat → Nat} {ver : Nat → Nat} {sz : Nat} {bw : Nat → Nat}  (hG : zG φ tpd tp lf mi made sv svm comb hm sc sm mh noted verd ins ver sz bw) (hn0 : 486 ≤ n) (hpv : ∀ i, x_pv2 (hm i)) (hmi : mi + 100 ≤ 20000)  : x_f x_P (d + 5) 23 [(6, 0, 0), (0, 7, 0), (11, 0, 0)] φ n sl (x_bR n sl 0 0 (fun zw φ2 => zw = (0, 4294967281, 0) ∧ zG φ2 tpd tp lf mi made sv svm comb hm sc sm mh noted verd ins ver sz bw)) := by
  refine x_f_of rfl ?_
  have hG0 := hG
  obtain ⟨⟨hand, ie, hH, hhw⟩, hB, hTJ, hEJ, hN, hKJ, ⟨A, B, s9, hPS, hLK0⟩, hSP, hV5, ⟨slq, hSL⟩, hRW, hJ, hFJ, hWJ, ⟨ovn, ovh, hOV, hovn, hovh⟩⟩ := hG
  refine x_n_lt (fun hlt0 => ?_)
  have hmade := x_PS_lt hPS
  obtain ⟨co, ⟨top_, fr_, pc_, mm, st, lo, re, rs, fl, se, hKS⟩, hco⟩ := hKJ
  refine q_load (v := (6, 0, 0)) (p2 := 1) rfl rfl rfl rfl ?_
  refine q_getv (v := (6, 7, 0)) (p2 := 2) rfl hH (by decide) rfl rfl ?_
  refine q_getv (v := (6, 237, 0)) (p2 := 3) rfl hPS.1.choose_spec.1 (by decide) hPS.1.choose_spec.2.1 rfl ?_
  refine q_load (v := (0, 7, 0)) (p2 := 4) rfl rfl rfl rfl ?_
  refine q_callr (xs := [(0, 7, 0), (6, 237, 0)]) (p2 := 5) rfl rfl rfl rfl (x_rcv_s 237 hKS.2.2.2.2.2.2.2.2.2.1.choose_spec.1) rfl (zc_s_knows_7 hKS.2.2.2.2.2.2.2.2.2) (Nat.le_refl _) (Nat.le_refl _) rfl ?_
  refine q_if0_s (p2 := 6) rfl (by decide) (by omega) rfl (fun _ => ?_) (fun hb => absurd (show ¬ (1 = 0) by omega) hb)
  refine q_load (v := (6, 0, 0)) (p2 := 9) rfl rfl rfl rfl ?_
  refine q_getv (v := (6, 7, 0)) (p2 := 10) rfl hH (by decide) rfl rfl ?_
  refine q_getv (v := (6, 237, 0)) (p2 := 11) rfl hPS.1.choose_spec.1 (by decide) hPS.1.choose_spec.2.1 rfl ?_
  refine q_load (v := (0, 7, 0)) (p2 := 12) rfl rfl rfl rfl ?_
  refine q_callrE (xs := [(0, 7, 0), (6, 237, 0)]) (p2 := 13) rfl rfl rfl rfl (x_rcv_s 237 hKS.2.2.2.2.2.2.2.2.2.1.choose_spec.1) rfl (zc_s_reason_7 hKS.2.2.2.2.2.2.2.2.2 hKS.2.2.2.2.2.2.2.1 hOV (hco 0 (by decide)) (hco 1 (by decide)) (hco 2 (by decide)) (hco 3 (by decide)) (hco 4 (by decide)) (hco 5 (by decide)) (hco 6 (by decide)) (hco 7 (by decide))) (Nat.le_refl _) (Nat.le_refl _) rfl (fun φ1 hR1 => ?_)
  obtain ⟨hs1_0, fr1⟩ := hR1
  refine q_store (loc2 := [(6, 0, 0), (0, 7, 0), (0, 5, 0)]) (p2 := 14) rfl rfl rfl rfl rfl ?_
  refine q_load (v := (0, 5, 0)) (p2 := 15) rfl rfl rfl rfl ?_
  refine q_if0_s (p2 := 16) rfl (by decide) (by omega) rfl (fun hb => absurd hb (show ¬ (5 = 0) by omega)) (fun _ => ?_)
  refine q_const (p2 := 17) rfl rfl ?_
  refine q_load (v := (0, 5, 0)) (p2 := 18) rfl rfl rfl rfl ?_
  refine q_iop (w := 4294967286 + (4294967296 - 5 % 4294967296)) (z := 4294967281) (p2 := 19) rfl (xo_sub 4294967286 5) (by decide) rfl ?_
  have hm2 := (zq_H_at hH (fr1 0 (by decide) (by decide)))
  have hm3 := (zq_tp_at hB (fr1 1 (by decide) (by decide)))
  have hm4 := (zTJ_at hTJ (fun j h1 h2 => (fr1 j (by omega) (by omega))))
  have hm5 := (zEJ_at hEJ (fun j h1 h2 => (fr1 j (by omega) (by omega))))
  have hm6 := (zq_nm_at hN (fr1 239 (by decide) (by decide)) (fr1 242 (by decide) (by decide)) (fr1 244 (by decide) (by decide)))
  have hm7 := (x_KS_at2 hKS (fun j h1 h2 h3 h4 => (fr1 j (by omega) (by omega))))
  refine x_n_lt (fun hlt9 => ?_)
  have hm8 := (x_PS_at hPS (fun j hj hne => by have hj2 := x_some_lt hlt0 hne; exact (fr1 j (by omega) (by omega))))
  have hm10 := (x_LK_at2 hLK0 (fun j h1 h2 => (fr1 j (by omega) (by omega))))
  have hm11 := (x_SP_at hSP (fun j hj hne => by have hj2 := x_some_lt hlt0 hne; exact (fr1 j (by omega) (by omega))))
  have hm12 := (zq_V5_at hV5 (fr1 485 (by decide) (by decide)))
  have hm13 := (zq_SL_at hSL (fr1 482 (by decide) (by decide)))
  have hm14 := (zq_RW_at hRW (fr1 483 (by decide) (by decide)))
  have hm15 := (zq_J_at hJ (fr1 468 (by decide) (by decide)) (fr1 469 (by decide) (by decide)) (fr1 470 (by decide) (by decide)))
  have hm16 := (zFJ_at hFJ (fun j h1 h2 => (fr1 j (by omega) (by omega))))
  have hm17 := (zWJ_at hWJ (fun j h1 h2 => (fr1 j (by omega) (by omega))))
  exact q_retv (v := (0, 4294967281, 0)) rfl rfl (⟨rfl, ⟨by omega, by omega⟩, ⟨by omega, by omega⟩, rfl, ⟨⟨_, _, hm2, (x_hw_at hhw (fun j hj hne => by have hj2 := x_some_lt hlt0 hne; exact (fr1 j (by omega) (by omega))))⟩, hm3, hm4, hm5, hm6, ⟨_, ⟨_, _, _, _, _, _, _, _, _, _, hm7⟩, hco⟩, ⟨_, _, _, hm8, hm10⟩, hm11, hm12, ⟨_, hm13⟩, hm14, hm15, hm16, hm17, ⟨_, _, hs1_0, (x_s_lt (x_s_lt (x_s_lt hovn (by omega)) (by omega)) (by omega)), (x_s_lt (x_s_lt (x_s_lt hovh (by omega)) (by omega)) (by omega))⟩⟩⟩)
set_option maxHeartbeats 1000000 in
theorem zc_make_8 {d n sl : Nat} {φ : FH} {tpd : Nat} {tp : Nat → Nat} {lf : Nat} {mi : Nat} {made : Nat} {sv : Nat} {svm : Nat} {comb : Nat → Nat} {hm : Nat → MV} {sc : Nat → Nat} {sm : Nat → MV} {mh : MV} {noted : Nat} {verd : Nat} {ins : Nat → Nat} {ver : Nat → Nat} {sz : Nat} {bw : Nat → Nat}  (hG : zG φ tpd tp lf mi made sv svm comb hm sc sm mh noted verd ins ver sz bw) (hn0 : 486 ≤ n) (hpv : ∀ i, x_pv2 (hm i)) (hmi : mi + 100 ≤ 20000)  : x_f x_P (d + 2) 23 [(6, 0, 0), (0, 8, 0), (11, 0, 0)] φ n sl (x_bR n sl 0 0 (fun zw φ2 => zw = (0, 4294967295, 0) ∧ zG φ2 tpd tp lf mi made sv svm comb hm sc sm mh noted verd ins ver sz bw)) := by
  refine x_f_of rfl ?_
  have hG0 := hG
  obtain ⟨⟨hand, ie, hH, hhw⟩, hB, hTJ, hEJ, hN, hKJ, ⟨A, B, s9, hPS, hLK0⟩, hSP, hV5, ⟨slq, hSL⟩, hRW, hJ, hFJ, hWJ, ⟨ovn, ovh, hOV, hovn, hovh⟩⟩ := hG
  refine x_n_lt (fun hlt0 => ?_)
  have hmade := x_PS_lt hPS
  obtain ⟨co, ⟨top_, fr_, pc_, mm, st, lo, re, rs, fl, se, hKS⟩, hco⟩ := hKJ
  refine q_load (v := (6, 0, 0)) (p2 := 1) rfl rfl rfl rfl ?_
  refine q_getv (v := (6, 7, 0)) (p2 := 2) rfl hH (by decide) rfl rfl ?_
  refine q_getv (v := (6, 237, 0)) (p2 := 3) rfl hPS.1.choose_spec.1 (by decide) hPS.1.choose_spec.2.1 rfl ?_
  refine q_load (v := (0, 8, 0)) (p2 := 4) rfl rfl rfl rfl ?_
  refine q_callr (xs := [(0, 8, 0), (6, 237, 0)]) (p2 := 5) rfl rfl rfl rfl (x_rcv_s 237 hKS.2.2.2.2.2.2.2.2.2.1.choose_spec.1) rfl (zc_s_knows_8 hKS.2.2.2.2.2.2.2.2.2) (Nat.le_refl _) (Nat.le_refl _) rfl ?_
  refine q_if0_s (p2 := 6) rfl (by decide) (by omega) rfl (fun hb => absurd hb (show ¬ (¬ (0 = 0)) by omega)) (fun _ => ?_)
  refine q_const (p2 := 7) rfl rfl ?_
  exact q_retv (v := (0, 4294967295, 0)) rfl rfl (⟨rfl, ⟨by omega, by omega⟩, ⟨by omega, by omega⟩, rfl, ⟨⟨_, _, hH, hhw⟩, hB, hTJ, hEJ, hN, ⟨_, ⟨_, _, _, _, _, _, _, _, _, _, hKS⟩, hco⟩, ⟨_, _, _, hPS, hLK0⟩, hSP, hV5, ⟨_, hSL⟩, hRW, hJ, hFJ, hWJ, ⟨_, _, hOV, hovn, hovh⟩⟩⟩)
set_option maxHeartbeats 1000000 in
theorem zc_drop {d n sl : Nat} {φ : FH} {tpd : Nat} {tp : Nat → Nat} {lf : Nat} {mi : Nat} {made : Nat} {sv : Nat} {svm : Nat} {comb : Nat → Nat} {hm : Nat → MV} {sc : Nat → Nat} {sm : Nat → MV} {mh : MV} {noted : Nat} {verd : Nat} {ins : Nat → Nat} {ver : Nat → Nat} {sz : Nat} {bw : Nat → Nat} {x : Nat} (hG : zG φ tpd tp lf mi made sv svm comb hm sc sm mh noted verd ins ver sz bw) (hn0 : 486 ≤ n) (hpv : ∀ i, x_pv2 (hm i)) (hmi : mi + 100 ≤ 20000) (hx : x < 40) (hex : x < made ∧ comb x ≠ 0) (hcnt : x_cnt (x_em x hm) (made * 40) ≤ 40) : x_f x_P (d + 4) 25 [(6, 0, 0), (0, x, 0)] φ n sl (x_bR n sl 120 2200 (fun zw φ2 => zw = (0, 1, 0) ∧ zG φ2 tpd tp lf mi made sv svm (x_s comb x 0) (x_rm x (x_em x hm) (made * 40)) sc sm mh noted verd ins ver sz bw)) := by
  refine x_f_of rfl ?_
  have hG0 := hG
  obtain ⟨⟨hand, ie, hH, hhw⟩, hB, hTJ, hEJ, hN, hKJ, ⟨A, B, s9, hPS, hLK0⟩, hSP, hV5, ⟨slq, hSL⟩, hRW, hJ, hFJ, hWJ, ⟨ovn, ovh, hOV, hovn, hovh⟩⟩ := hG
  refine x_n_lt (fun hlt0 => ?_)
  have hmade := x_PS_lt hPS
  obtain ⟨co, ⟨top_, fr_, pc_, mm, st, lo, re, rs, fl, se, hKS⟩, hco⟩ := hKJ
  refine q_load (v := (6, 0, 0)) (p2 := 1) rfl rfl rfl rfl ?_
  refine q_getv (v := (6, 7, 0)) (p2 := 2) rfl hH (by decide) rfl rfl ?_
  refine q_load (v := (0, x, 0)) (p2 := 3) rfl rfl rfl rfl ?_
  refine q_callr (xs := [(0, x, 0), (6, 7, 0)]) (p2 := 4) rfl rfl rfl rfl (x_rcv_s 7 hPS.1.choose_spec.1) rfl (x_r_yes (e_exists hPS.1.choose_spec hPS.2.1 (by omega)) hex) (Nat.le_refl _) (Nat.le_refl _) rfl ?_
  refine q_if0_s (p2 := 5) rfl (by decide) (by omega) rfl (fun _ => ?_) (fun hb => absurd (show ¬ (1 = 0) by omega) hb)
  refine q_load (v := (6, 0, 0)) (p2 := 8) rfl rfl rfl rfl ?_
  refine q_getv (v := (6, 7, 0)) (p2 := 9) rfl hH (by decide) rfl rfl ?_
  refine q_load (v := (0, x, 0)) (p2 := 10) rfl rfl rfl rfl ?_
  refine q_callvB (xs := [(0, x, 0), (6, 7, 0)]) (p2 := 11) rfl rfl rfl rfl (x_rcv_s 7 hPS.1.choose_spec.1) rfl (e_removeP hPS (fun i => (hpv i).1) (by omega) (by omega)) rfl (fun φ1 n1 sl1 hn1 hN1 hs1 hT1 hR1 => ?_)
  obtain ⟨hPS1, frn1⟩ := hR1
  have hPZ1 : x_PS φ1 A B made sv svm 1 (x_s comb x 0) (x_rm x (x_em x hm) (made * 40)) := hPS1
  refine x_n_lt (fun hlt2 => ?_)
  have hLZ1 := x_LK_st1 (made2 := made) (comb2 := (x_s comb x 0)) (hm2 := (x_rm x (x_em x hm) (made * 40))) hLK0 (fun j h1 h2 => (frn1 j (by omega) (by omega) (by omega) (by omega)))
  refine q_const (p2 := 12) rfl rfl ?_
  have hm3 := (zq_H_at hH (frn1 0 (by omega) (by omega) (by omega) (by omega)))
  have hm4 := (zq_tp_at hB (frn1 1 (by omega) (by omega) (by omega) (by omega)))
  have hm5 := (zTJ_at hTJ (fun j h1 h2 => (frn1 j (by omega) (by omega) (by omega) (by omega))))
  have hm6 := (zEJ_at hEJ (fun j h1 h2 => (frn1 j (by omega) (by omega) (by omega) (by omega))))
  have hm7 := (zq_nm_at hN (frn1 239 (by omega) (by omega) (by omega) (by omega)) (frn1 242 (by omega) (by omega) (by omega) (by omega)) (frn1 244 (by omega) (by omega) (by omega) (by omega)))
  have hm8 := (x_KS_at2 hKS (fun j h1 h2 h3 h4 => (frn1 j (by omega) (by omega) (by omega) (by omega))))
  have hm9 := (x_SP_at hSP (fun j hj hne => by have hj2 := x_some_lt hlt0 hne; exact (frn1 j (by omega) (by omega) (by omega) (by omega))))
  have hm10 := (zq_V5_at hV5 (frn1 485 (by omega) (by omega) (by omega) (by omega)))
  have hm11 := (zq_SL_at hSL (frn1 482 (by omega) (by omega) (by omega) (by omega)))
  have hm12 := (zq_RW_at hRW (frn1 483 (by omega) (by omega) (by omega) (by omega)))
  have hm13 := (zq_J_at hJ (frn1 468 (by omega) (by omega) (by omega) (by omega)) (frn1 469 (by omega) (by omega) (by omega) (by omega)) (frn1 470 (by omega) (by omega) (by omega) (by omega)))
  have hm14 := (zFJ_at hFJ (fun j h1 h2 => (frn1 j (by omega) (by omega) (by omega) (by omega))))
  have hm15 := (zWJ_at hWJ (fun j h1 h2 => (frn1 j (by omega) (by omega) (by omega) (by omega))))
  have hm16 := (zq_OV_at hOV (frn1 452 (by omega) (by omega) (by omega) (by omega)) (frn1 453 (by omega) (by omega) (by omega) (by omega)))
  exact q_retv (v := (0, 1, 0)) rfl rfl (⟨rfl, ⟨by omega, by omega⟩, ⟨by omega, by omega⟩, rfl, ⟨⟨_, _, hm3, (x_hw_at hhw (fun j hj hne => by have hj2 := x_some_lt hlt0 hne; exact (frn1 j (by omega) (by omega) (by omega) (by omega))))⟩, hm4, hm5, hm6, hm7, ⟨_, ⟨_, _, _, _, _, _, _, _, _, _, hm8⟩, hco⟩, ⟨_, _, _, hPZ1, hLZ1⟩, hm9, hm10, ⟨_, hm11⟩, hm12, hm13, hm14, hm15, ⟨_, _, hm16, hovn, hovh⟩⟩⟩)
set_option maxHeartbeats 1000000 in
theorem zc_drop_no {d n sl : Nat} {φ : FH} {tpd : Nat} {tp : Nat → Nat} {lf : Nat} {mi : Nat} {made : Nat} {sv : Nat} {svm : Nat} {comb : Nat → Nat} {hm : Nat → MV} {sc : Nat → Nat} {sm : Nat → MV} {mh : MV} {noted : Nat} {verd : Nat} {ins : Nat → Nat} {ver : Nat → Nat} {sz : Nat} {bw : Nat → Nat} {x : Nat} (hG : zG φ tpd tp lf mi made sv svm comb hm sc sm mh noted verd ins ver sz bw) (hn0 : 486 ≤ n) (hpv : ∀ i, x_pv2 (hm i)) (hmi : mi + 100 ≤ 20000) (hx : x < 40) (hex : ¬ (x < made ∧ comb x ≠ 0)) : x_f x_P (d + 2) 25 [(6, 0, 0), (0, x, 0)] φ n sl (x_bR n sl 0 0 (fun zw φ2 => zw = (0, 4294967295, 0) ∧ zG φ2 tpd tp lf mi made sv svm comb hm sc sm mh noted verd ins ver sz bw)) := by
  refine x_f_of rfl ?_
  have hG0 := hG
  obtain ⟨⟨hand, ie, hH, hhw⟩, hB, hTJ, hEJ, hN, hKJ, ⟨A, B, s9, hPS, hLK0⟩, hSP, hV5, ⟨slq, hSL⟩, hRW, hJ, hFJ, hWJ, ⟨ovn, ovh, hOV, hovn, hovh⟩⟩ := hG
  refine x_n_lt (fun hlt0 => ?_)
  have hmade := x_PS_lt hPS
  obtain ⟨co, ⟨top_, fr_, pc_, mm, st, lo, re, rs, fl, se, hKS⟩, hco⟩ := hKJ
  refine q_load (v := (6, 0, 0)) (p2 := 1) rfl rfl rfl rfl ?_
  refine q_getv (v := (6, 7, 0)) (p2 := 2) rfl hH (by decide) rfl rfl ?_
  refine q_load (v := (0, x, 0)) (p2 := 3) rfl rfl rfl rfl ?_
  refine q_callr (xs := [(0, x, 0), (6, 7, 0)]) (p2 := 4) rfl rfl rfl rfl (x_rcv_s 7 hPS.1.choose_spec.1) rfl (zr_no (e_exists hPS.1.choose_spec hPS.2.1 (by omega)) hex) (Nat.le_refl _) (Nat.le_refl _) rfl ?_
  refine q_if0_s (p2 := 5) rfl (by decide) (by omega) rfl (fun hb => absurd hb (show ¬ (¬ (0 = 0)) by omega)) (fun _ => ?_)
  refine q_const (p2 := 6) rfl rfl ?_
  exact q_retv (v := (0, 4294967295, 0)) rfl rfl (⟨rfl, ⟨by omega, by omega⟩, ⟨by omega, by omega⟩, rfl, ⟨⟨_, _, hH, hhw⟩, hB, hTJ, hEJ, hN, ⟨_, ⟨_, _, _, _, _, _, _, _, _, _, hKS⟩, hco⟩, ⟨_, _, _, hPS, hLK0⟩, hSP, hV5, ⟨_, hSL⟩, hRW, hJ, hFJ, hWJ, ⟨_, _, hOV, hovn, hovh⟩⟩⟩)
end FPOP65
