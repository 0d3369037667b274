section FPOP69
abbrev q6 (made : Nat) (comb : Nat → Nat) (hm : Nat → MV) : Nat → Prop := fun x => x_isA made comb x 2 ∧ ¬ ((x_fl (fun y => comb y ≠ 0 ∧ x_ho (hm (y * 40 + 3)) x) made).length ≤ 1)
abbrev q8 (made : Nat) (comb : Nat → Nat) (hm : Nat → MV) : Nat → Prop := fun x => x_isA made comb x 2 ∧ (hm (x * 40 + 0)).1 = 0
abbrev qN (made : Nat) (comb : Nat → Nat) (hm : Nat → MV) : Nat → Prop := fun x => x_isA made comb x 2 ∧ False
theorem zA0 {made x e_ : Nat} {comb : Nat → Nat} (hcb : ∀ x, x < made → comb x = 0 ∨ comb x = 3 ∨ comb x = 5) (h : x_isA made comb x e_) : x_isA made comb x 0 := by
  obtain ⟨⟨h1, h2⟩, h3⟩ := h
  refine ⟨⟨h1, h2⟩, ?_⟩
  rcases hcb x h1 with q | q | q
  · exact absurd q h2
  · rw [q]; decide
  · rw [q]; decide
theorem JI_N {made p noted verd : Nat} {comb ins ver : Nat → Nat} {hm : Nat → MV} (h : JI (qN made comb hm) p noted verd ins ver) : noted = 0 := by
  rw [h.1]
  have e : x_fl (qN made comb hm) p = [] := by
    unfold x_fl
    exact List.filter_eq_nil_iff.mpr (fun a _ => by simp)
  rw [e]; rfl
set_option maxHeartbeats 2000000 in
theorem zc_jl_0 {d n0 sl0 mi0 : Nat} {tpd : Nat} {tp : Nat → Nat} {lf : Nat} {made : Nat} {sv : Nat} {svm : Nat} {comb : Nat → Nat} {hm : Nat → MV} {sc : Nat → Nat} {sm : Nat → MV} {mh : MV} {sz : Nat} {bw : Nat → Nat} (hpv : ∀ i, x_pv2 (hm i)) (hI0 : ∀ x, x < 40 → zI0 hm x) (hI1 : ∀ x, x < 40 → zI1 hm x) (hI3 : ∀ x, x < 40 → zI3 hm x) (hcb : ∀ x, x < made → comb x = 0 ∨ comb x = 3 ∨ comb x = 5) (h486 : 486 ≤ n0) (hmi0 : mi0 + 300 ≤ 20000) (hMd40 : made ≤ 40) (k : Nat) : ∀ (x n sl mi noted verd : Nat) (ins ver : Nat → Nat) (φ : FH), x + k = made → made ≤ 40 → zG φ tpd tp lf mi made sv svm comb hm sc sm mh noted verd ins ver sz bw → JI (qN made comb hm) x noted verd ins ver → (n0 ≤ n ∧ n ≤ n0 + 2 * x) → (sl0 ≤ sl ∧ sl ≤ sl0 + 14 * x) → (mi0 ≤ mi ∧ mi ≤ mi0 + 2 * x) → x_n x_P (d + 4) xc_67 4 [] [(6, 468, 0), (0, 0, 0), (0, x, 0)] φ n sl (x_bR n0 sl0 100 600 (fun zw φ2 => ∃ mi2 noted2 verd2 : Nat, ∃ ins2 ver2 : Nat → Nat, zw = (0, verd2, 0) ∧ mi2 ≤ mi0 + 100 ∧ JI (qN made comb hm) made noted2 verd2 ins2 ver2 ∧ zG φ2 tpd tp lf mi2 made sv svm comb hm sc sm mh noted2 verd2 ins2 ver2 sz bw)) := by
  induction k with
  | zero =>
    intro x n sl mi noted verd ins ver φ  hk hMd40 hG hJI hnb hsb hmb
    have hxm : x = made := hk
    have hn0 : 486 ≤ n := by omega
    have hmi : mi + 100 ≤ 20000 := by omega
    have hG0 := hG
    obtain ⟨⟨hand, ie, hH, hhw⟩, hB, hTJ, hEJ, hN, hKJ, ⟨A, B, s9, hPS, hLK0⟩, hSP, hV5, ⟨slq, hSL⟩, hRW, hJ, hFJ, hWJ, ⟨ovn, ovh, hOV, hovn, hovh⟩⟩ := hG
    refine x_n_lt (fun hlt0 => ?_)
    have hmade := x_PS_lt hPS
    obtain ⟨co, ⟨top_, fr_, pc_, mm, st, lo, re, rs, fl, se, hKS⟩, hco⟩ := hKJ
    refine q_load (v := (0, x, 0)) (p2 := 5) rfl rfl rfl rfl ?_
    refine q_load (v := (6, 468, 0)) (p2 := 6) rfl rfl rfl rfl ?_
    refine q_getv (v := (6, 7, 0)) (p2 := 7) rfl hJ.1 (by decide) rfl rfl ?_
    refine q_getv (v := (0, made, 0)) (p2 := 8) rfl hPS.1.choose_spec.1 (by decide) hPS.1.choose_spec.2.2.2.1 rfl ?_
    refine q_icmp_s (p2 := 9) rfl (by decide) (by omega) (by omega) rfl (fun _ => ?_) (fun hb => absurd (show ¬ (x < made) by omega) hb)
    refine q_load (v := (6, 468, 0)) (p2 := 29) rfl rfl rfl rfl ?_
    refine q_getv (v := (0, verd, 0)) (p2 := 30) rfl hJ.1 (by decide) rfl rfl ?_
    exact q_retv (v := (0, verd, 0)) rfl rfl (⟨rfl, ⟨by omega, by omega⟩, ⟨by omega, by omega⟩, _, _, _, _, _, rfl, by omega, hxm ▸ hJI, ⟨⟨_, _, hH, hhw⟩, hB, hTJ, hEJ, hN, ⟨_, ⟨_, _, _, _, _, _, _, _, _, _, hKS⟩, hco⟩, ⟨_, _, _, hPS, hLK0⟩, hSP, hV5, ⟨_, hSL⟩, hRW, hJ, hFJ, hWJ, ⟨_, _, hOV, hovn, hovh⟩⟩⟩)
  | succ k ih =>
    intro x n sl mi noted verd ins ver φ  hk hMd40 hG hJI hnb hsb hmb
    have hn0 : 486 ≤ n := by omega
    have hmi : mi + 100 ≤ 20000 := by omega
    rcases JI_cases hJI with ⟨hn1, hn2⟩ | ⟨hn1, hn2⟩
    · subst hn1 hn2
      have hG0 := hG
      obtain ⟨⟨hand, ie, hH, hhw⟩, hB, hTJ, hEJ, hN, hKJ, ⟨A, B, s9, hPS, hLK0⟩, hSP, hV5, ⟨slq, hSL⟩, hRW, hJ, hFJ, hWJ, ⟨ovn, ovh, hOV, hovn, hovh⟩⟩ := hG
      refine x_n_lt (fun hlt0 => ?_)
      have hmade := x_PS_lt hPS
      obtain ⟨co, ⟨top_, fr_, pc_, mm, st, lo, re, rs, fl, se, hKS⟩, hco⟩ := hKJ
      refine q_load (v := (0, x, 0)) (p2 := 5) rfl rfl rfl rfl ?_
      refine q_load (v := (6, 468, 0)) (p2 := 6) rfl rfl rfl rfl ?_
      refine q_getv (v := (6, 7, 0)) (p2 := 7) rfl hJ.1 (by decide) rfl rfl ?_
      refine q_getv (v := (0, made, 0)) (p2 := 8) rfl hPS.1.choose_spec.1 (by decide) hPS.1.choose_spec.2.2.2.1 rfl ?_
      refine q_icmp_s (p2 := 9) rfl (by decide) (by omega) (by omega) rfl (fun hb => absurd hb (show ¬ (¬ (x < made)) by omega)) (fun _ => ?_)
      refine q_load (v := (6, 468, 0)) (p2 := 10) rfl rfl rfl rfl ?_
      refine q_getv (v := (6, 7, 0)) (p2 := 11) rfl hJ.1 (by decide) rfl rfl ?_
      refine q_load (v := (0, x, 0)) (p2 := 12) rfl rfl rfl rfl ?_
      refine q_load (v := (0, 0, 0)) (p2 := 13) rfl rfl rfl rfl ?_
      refine q_callr (xs := [(0, 0, 0), (0, x, 0), (6, 7, 0)]) (p2 := 14) rfl rfl rfl rfl (x_rcv_s 7 hPS.1.choose_spec.1) rfl (e_isA hPS.1.choose_spec hPS.2.1 (by omega) (by omega)) (Nat.le_refl _) (Nat.le_refl _) rfl ?_
      by_cases hb1 : x_isA made comb x 0
      · rw [if_pos hb1]
        refine q_if0_s (p2 := 15) rfl (by decide) (by omega) rfl (fun hb => absurd hb (show ¬ (1 = 0) by omega)) (fun _ => ?_)
        refine q_load (v := (6, 468, 0)) (p2 := 16) rfl rfl rfl rfl ?_
        refine q_load (v := (0, x, 0)) (p2 := 17) rfl rfl rfl rfl ?_
        refine q_load (v := (6, 468, 0)) (p2 := 18) rfl rfl rfl rfl ?_
        refine q_load (v := (0, x, 0)) (p2 := 19) rfl rfl rfl rfl ?_
        refine q_load (v := (0, 0, 0)) (p2 := 20) rfl rfl rfl rfl ?_
        refine q_callr (xs := [(0, 0, 0), (0, x, 0), (6, 468, 0)]) (p2 := 21) rfl rfl rfl rfl (x_rcv_s 468 hJ.1) rfl (zc_jb0 hPS hKS.2.2.2.2.2.2.2.2.2 hJ (by omega) (by omega) (hI0 x (by omega)) (hI1 x (by omega))) (Nat.le_refl _) (Nat.le_refl _) rfl ?_
        refine q_if0_s (p2 := 22) rfl (by decide) (by omega) rfl (fun hb => absurd hb (show ¬ (1 = 0) by omega)) (fun _ => ?_)
        refine q_const (p2 := 23) rfl rfl ?_
        refine q_goto rfl ?_
        refine q_callvE (xs := [(0, 1, 0), (0, x, 0), (6, 468, 0)]) (p2 := 26) rfl rfl rfl rfl (x_rcv_s 468 hJ.1) rfl (zc_j_note_11 hJ (by omega)) (Nat.le_refl _) (Nat.le_refl _) rfl (fun φ2 hR2 => ?_)
        obtain ⟨hs2_0, fr2⟩ := hR2
        refine q_iinc (z := x + 1) (loc2 := [(6, 468, 0), (0, 0, 0), (0, x + 1, 0)]) (p2 := 27) rfl rfl (Nat.mod_eq_of_lt (by omega)) rfl rfl ?_
        refine q_goto rfl ?_
        have hm3 := (zq_H_at hH (fr2 0 (by decide)))
        have hm4 := (zq_tp_at hB (fr2 1 (by decide)))
        have hm5 := (zTJ_at hTJ (fun j h1 h2 => (fr2 j (by omega))))
        have hm6 := (zEJ_at hEJ (fun j h1 h2 => (fr2 j (by omega))))
        have hm7 := (zq_nm_at hN (fr2 239 (by decide)) (fr2 242 (by decide)) (fr2 244 (by decide)))
        have hm8 := (x_KS_at2 hKS (fun j h1 h2 h3 h4 => (fr2 j (by omega))))
        refine x_n_lt (fun hlt10 => ?_)
        have hm9 := (x_PS_at hPS (fun j hj hne => by have hj2 := x_some_lt hlt0 hne; exact (fr2 j (by omega))))
        have hm11 := (x_LK_at2 hLK0 (fun j h1 h2 => (fr2 j (by omega))))
        have hm12 := (x_SP_at hSP (fun j hj hne => by have hj2 := x_some_lt hlt0 hne; exact (fr2 j (by omega))))
        have hm13 := (zq_V5_at hV5 (fr2 485 (by decide)))
        have hm14 := (zq_SL_at hSL (fr2 482 (by decide)))
        have hm15 := (zq_RW_at hRW (fr2 483 (by decide)))
        have hm16 := (zFJ_at hFJ (fun j h1 h2 => (fr2 j (by omega))))
        have hm17 := (zWJ_at hWJ (fun j h1 h2 => (fr2 j (by omega))))
        have hm18 := (zq_OV_at hOV (fr2 452 (by decide)) (fr2 453 (by decide)))
        exact ih (x + 1) _ _ _ _ _ _ _ _ (by omega) hMd40 ⟨⟨_, _, hm3, (x_hw_at hhw (fun j hj hne => by have hj2 := x_some_lt hlt0 hne; exact (fr2 j (by omega))))⟩, hm4, hm5, hm6, hm7, ⟨_, ⟨_, _, _, _, _, _, _, _, _, _, hm8⟩, hco⟩, ⟨_, _, _, hm9, hm11⟩, hm12, hm13, ⟨_, hm14⟩, hm15, hs2_0, hm16, hm17, ⟨_, _, hm18, hovn, hovh⟩⟩ (JI_out hJI (fun z => z.2)) (by omega) (by omega) (by omega)
      · rw [if_neg hb1]
        refine q_if0_s (p2 := 15) rfl (by decide) (by omega) rfl (fun _ => ?_) (fun hb => absurd (show 0 = 0 by omega) hb)
        refine q_iinc (z := x + 1) (loc2 := [(6, 468, 0), (0, 0, 0), (0, x + 1, 0)]) (p2 := 27) rfl rfl (Nat.mod_eq_of_lt (by omega)) rfl rfl ?_
        refine q_goto rfl ?_
        exact ih (x + 1) _ _ _ _ _ _ _ _ (by omega) hMd40 ⟨⟨_, _, hH, hhw⟩, hB, hTJ, hEJ, hN, ⟨_, ⟨_, _, _, _, _, _, _, _, _, _, hKS⟩, hco⟩, ⟨_, _, _, hPS, hLK0⟩, hSP, hV5, ⟨_, hSL⟩, hRW, hJ, hFJ, hWJ, ⟨_, _, hOV, hovn, hovh⟩⟩ (JI_out hJI (fun z => z.2)) (by omega) (by omega) (by omega)
    · exact absurd (JI_N hJI) hn1
set_option maxHeartbeats 2000000 in
theorem zc_jl_1 {d n0 sl0 mi0 : Nat} {tpd : Nat} {tp : Nat → Nat} {lf : Nat} {made : Nat} {sv : Nat} {svm : Nat} {comb : Nat → Nat} {hm : Nat → MV} {sc : Nat → Nat} {sm : Nat → MV} {mh : MV} {sz : Nat} {bw : Nat → Nat} (hpv : ∀ i, x_pv2 (hm i)) (hI0 : ∀ x, x < 40 → zI0 hm x) (hI1 : ∀ x, x < 40 → zI1 hm x) (hI3 : ∀ x, x < 40 → zI3 hm x) (hcb : ∀ x, x < made → comb x = 0 ∨ comb x = 3 ∨ comb x = 5) (h486 : 486 ≤ n0) (hmi0 : mi0 + 300 ≤ 20000) (hMd40 : made ≤ 40) (k : Nat) : ∀ (x n sl mi noted verd : Nat) (ins ver : Nat → Nat) (φ : FH), x + k = made → made ≤ 40 → zG φ tpd tp lf mi made sv svm comb hm sc sm mh noted verd ins ver sz bw → JI (qN made comb hm) x noted verd ins ver → (n0 ≤ n ∧ n ≤ n0 + 2 * x) → (sl0 ≤ sl ∧ sl ≤ sl0 + 14 * x) → (mi0 ≤ mi ∧ mi ≤ mi0 + 2 * x) → x_n x_P (d + 3) xc_68 4 [] [(6, 468, 0), (0, 0, 0), (0, x, 0)] φ n sl (x_bR n0 sl0 100 600 (fun zw φ2 => ∃ mi2 noted2 verd2 : Nat, ∃ ins2 ver2 : Nat → Nat, zw = (0, verd2, 0) ∧ mi2 ≤ mi0 + 100 ∧ JI (qN made comb hm) made noted2 verd2 ins2 ver2 ∧ zG φ2 tpd tp lf mi2 made sv svm comb hm sc sm mh noted2 verd2 ins2 ver2 sz bw)) := by
  induction k with
  | zero =>
    intro x n sl mi noted verd ins ver φ  hk hMd40 hG hJI hnb hsb hmb
    have hxm : x = made := hk
    have hn0 : 486 ≤ n := by omega
    have hmi : mi + 100 ≤ 20000 := by omega
    have hG0 := hG
    obtain ⟨⟨hand, ie, hH, hhw⟩, hB, hTJ, hEJ, hN, hKJ, ⟨A, B, s9, hPS, hLK0⟩, hSP, hV5, ⟨slq, hSL⟩, hRW, hJ, hFJ, hWJ, ⟨ovn, ovh, hOV, hovn, hovh⟩⟩ := hG
    refine x_n_lt (fun hlt0 => ?_)
    have hmade := x_PS_lt hPS
    obtain ⟨co, ⟨top_, fr_, pc_, mm, st, lo, re, rs, fl, se, hKS⟩, hco⟩ := hKJ
    refine q_load (v := (0, x, 0)) (p2 := 5) rfl rfl rfl rfl ?_
    refine q_load (v := (6, 468, 0)) (p2 := 6) rfl rfl rfl rfl ?_
    refine q_getv (v := (6, 7, 0)) (p2 := 7) rfl hJ.1 (by decide) rfl rfl ?_
    refine q_getv (v := (0, made, 0)) (p2 := 8) rfl hPS.1.choose_spec.1 (by decide) hPS.1.choose_spec.2.2.2.1 rfl ?_
    refine q_icmp_s (p2 := 9) rfl (by decide) (by omega) (by omega) rfl (fun _ => ?_) (fun hb => absurd (show ¬ (x < made) by omega) hb)
    refine q_load (v := (6, 468, 0)) (p2 := 29) rfl rfl rfl rfl ?_
    refine q_getv (v := (0, verd, 0)) (p2 := 30) rfl hJ.1 (by decide) rfl rfl ?_
    exact q_retv (v := (0, verd, 0)) rfl rfl (⟨rfl, ⟨by omega, by omega⟩, ⟨by omega, by omega⟩, _, _, _, _, _, rfl, by omega, hxm ▸ hJI, ⟨⟨_, _, hH, hhw⟩, hB, hTJ, hEJ, hN, ⟨_, ⟨_, _, _, _, _, _, _, _, _, _, hKS⟩, hco⟩, ⟨_, _, _, hPS, hLK0⟩, hSP, hV5, ⟨_, hSL⟩, hRW, hJ, hFJ, hWJ, ⟨_, _, hOV, hovn, hovh⟩⟩⟩)
  | succ k ih =>
    intro x n sl mi noted verd ins ver φ  hk hMd40 hG hJI hnb hsb hmb
    have hn0 : 486 ≤ n := by omega
    have hmi : mi + 100 ≤ 20000 := by omega
    rcases JI_cases hJI with ⟨hn1, hn2⟩ | ⟨hn1, hn2⟩
    · subst hn1 hn2
      have hG0 := hG
      obtain ⟨⟨hand, ie, hH, hhw⟩, hB, hTJ, hEJ, hN, hKJ, ⟨A, B, s9, hPS, hLK0⟩, hSP, hV5, ⟨slq, hSL⟩, hRW, hJ, hFJ, hWJ, ⟨ovn, ovh, hOV, hovn, hovh⟩⟩ := hG
      refine x_n_lt (fun hlt0 => ?_)
      have hmade := x_PS_lt hPS
      obtain ⟨co, ⟨top_, fr_, pc_, mm, st, lo, re, rs, fl, se, hKS⟩, hco⟩ := hKJ
      refine q_load (v := (0, x, 0)) (p2 := 5) rfl rfl rfl rfl ?_
      refine q_load (v := (6, 468, 0)) (p2 := 6) rfl rfl rfl rfl ?_
      refine q_getv (v := (6, 7, 0)) (p2 := 7) rfl hJ.1 (by decide) rfl rfl ?_
      refine q_getv (v := (0, made, 0)) (p2 := 8) rfl hPS.1.choose_spec.1 (by decide) hPS.1.choose_spec.2.2.2.1 rfl ?_
      refine q_icmp_s (p2 := 9) rfl (by decide) (by omega) (by omega) rfl (fun hb => absurd hb (show ¬ (¬ (x < made)) by omega)) (fun _ => ?_)
      refine q_load (v := (6, 468, 0)) (p2 := 10) rfl rfl rfl rfl ?_
      refine q_getv (v := (6, 7, 0)) (p2 := 11) rfl hJ.1 (by decide) rfl rfl ?_
      refine q_load (v := (0, x, 0)) (p2 := 12) rfl rfl rfl rfl ?_
      refine q_load (v := (0, 0, 0)) (p2 := 13) rfl rfl rfl rfl ?_
      refine q_callr (xs := [(0, 0, 0), (0, x, 0), (6, 7, 0)]) (p2 := 14) rfl rfl rfl rfl (x_rcv_s 7 hPS.1.choose_spec.1) rfl (e_isA hPS.1.choose_spec hPS.2.1 (by omega) (by omega)) (Nat.le_refl _) (Nat.le_refl _) rfl ?_
      by_cases hb1 : x_isA made comb x 0
      · rw [if_pos hb1]
        refine q_if0_s (p2 := 15) rfl (by decide) (by omega) rfl (fun hb => absurd hb (show ¬ (1 = 0) by omega)) (fun _ => ?_)
        refine q_load (v := (6, 468, 0)) (p2 := 16) rfl rfl rfl rfl ?_
        refine q_load (v := (0, x, 0)) (p2 := 17) rfl rfl rfl rfl ?_
        refine q_load (v := (6, 468, 0)) (p2 := 18) rfl rfl rfl rfl ?_
        refine q_load (v := (0, x, 0)) (p2 := 19) rfl rfl rfl rfl ?_
        refine q_load (v := (0, 0, 0)) (p2 := 20) rfl rfl rfl rfl ?_
        refine q_callr (xs := [(0, 0, 0), (0, x, 0), (6, 468, 0)]) (p2 := 21) rfl rfl rfl rfl (x_rcv_s 468 hJ.1) rfl (zc_iu0 hPS hKS.2.2.2.2.2.2.2.2.2 hJ (by omega) (by omega)) (Nat.le_refl _) (Nat.le_refl _) rfl ?_
        refine q_if0_s (p2 := 22) rfl (by decide) (by omega) rfl (fun hb => absurd hb (show ¬ (1 = 0) by omega)) (fun _ => ?_)
        refine q_const (p2 := 23) rfl rfl ?_
        refine q_goto rfl ?_
        refine q_callvE (xs := [(0, 1, 0), (0, x, 0), (6, 468, 0)]) (p2 := 26) rfl rfl rfl rfl (x_rcv_s 468 hJ.1) rfl (zc_j_note_11 hJ (by omega)) (Nat.le_refl _) (Nat.le_refl _) rfl (fun φ2 hR2 => ?_)
        obtain ⟨hs2_0, fr2⟩ := hR2
        refine q_iinc (z := x + 1) (loc2 := [(6, 468, 0), (0, 0, 0), (0, x + 1, 0)]) (p2 := 27) rfl rfl (Nat.mod_eq_of_lt (by omega)) rfl rfl ?_
        refine q_goto rfl ?_
        have hm3 := (zq_H_at hH (fr2 0 (by decide)))
        have hm4 := (zq_tp_at hB (fr2 1 (by decide)))
        have hm5 := (zTJ_at hTJ (fun j h1 h2 => (fr2 j (by omega))))
        have hm6 := (zEJ_at hEJ (fun j h1 h2 => (fr2 j (by omega))))
        have hm7 := (zq_nm_at hN (fr2 239 (by decide)) (fr2 242 (by decide)) (fr2 244 (by decide)))
        have hm8 := (x_KS_at2 hKS (fun j h1 h2 h3 h4 => (fr2 j (by omega))))
        refine x_n_lt (fun hlt10 => ?_)
        have hm9 := (x_PS_at hPS (fun j hj hne => by have hj2 := x_some_lt hlt0 hne; exact (fr2 j (by omega))))
        have hm11 := (x_LK_at2 hLK0 (fun j h1 h2 => (fr2 j (by omega))))
        have hm12 := (x_SP_at hSP (fun j hj hne => by have hj2 := x_some_lt hlt0 hne; exact (fr2 j (by omega))))
        have hm13 := (zq_V5_at hV5 (fr2 485 (by decide)))
        have hm14 := (zq_SL_at hSL (fr2 482 (by decide)))
        have hm15 := (zq_RW_at hRW (fr2 483 (by decide)))
        have hm16 := (zFJ_at hFJ (fun j h1 h2 => (fr2 j (by omega))))
        have hm17 := (zWJ_at hWJ (fun j h1 h2 => (fr2 j (by omega))))
        have hm18 := (zq_OV_at hOV (fr2 452 (by decide)) (fr2 453 (by decide)))
        exact ih (x + 1) _ _ _ _ _ _ _ _ (by omega) hMd40 ⟨⟨_, _, hm3, (x_hw_at hhw (fun j hj hne => by have hj2 := x_some_lt hlt0 hne; exact (fr2 j (by omega))))⟩, hm4, hm5, hm6, hm7, ⟨_, ⟨_, _, _, _, _, _, _, _, _, _, hm8⟩, hco⟩, ⟨_, _, _, hm9, hm11⟩, hm12, hm13, ⟨_, hm14⟩, hm15, hs2_0, hm16, hm17, ⟨_, _, hm18, hovn, hovh⟩⟩ (JI_out hJI (fun z => z.2)) (by omega) (by omega) (by omega)
      · rw [if_neg hb1]
        refine q_if0_s (p2 := 15) rfl (by decide) (by omega) rfl (fun _ => ?_) (fun hb => absurd (show 0 = 0 by omega) hb)
        refine q_iinc (z := x + 1) (loc2 := [(6, 468, 0), (0, 0, 0), (0, x + 1, 0)]) (p2 := 27) rfl rfl (Nat.mod_eq_of_lt (by omega)) rfl rfl ?_
        refine q_goto rfl ?_
        exact ih (x + 1) _ _ _ _ _ _ _ _ (by omega) hMd40 ⟨⟨_, _, hH, hhw⟩, hB, hTJ, hEJ, hN, ⟨_, ⟨_, _, _, _, _, _, _, _, _, _, hKS⟩, hco⟩, ⟨_, _, _, hPS, hLK0⟩, hSP, hV5, ⟨_, hSL⟩, hRW, hJ, hFJ, hWJ, ⟨_, _, hOV, hovn, hovh⟩⟩ (JI_out hJI (fun z => z.2)) (by omega) (by omega) (by omega)
    · exact absurd (JI_N hJI) hn1
set_option maxHeartbeats 2000000 in
theorem zc_jl_2 {d n0 sl0 mi0 : Nat} {tpd : Nat} {tp : Nat → Nat} {lf : Nat} {made : Nat} {sv : Nat} {svm : Nat} {comb : Nat → Nat} {hm : Nat → MV} {sc : Nat → Nat} {sm : Nat → MV} {mh : MV} {sz : Nat} {bw : Nat → Nat} (hpv : ∀ i, x_pv2 (hm i)) (hI0 : ∀ x, x < 40 → zI0 hm x) (hI1 : ∀ x, x < 40 → zI1 hm x) (hI3 : ∀ x, x < 40 → zI3 hm x) (hcb : ∀ x, x < made → comb x = 0 ∨ comb x = 3 ∨ comb x = 5) (h486 : 486 ≤ n0) (hmi0 : mi0 + 300 ≤ 20000) (hMd40 : made ≤ 40) (k : Nat) : ∀ (x n sl mi noted verd : Nat) (ins ver : Nat → Nat) (φ : FH) (q3 q4 q5 : XV), x + k = made → made ≤ 40 → zG φ tpd tp lf mi made sv svm comb hm sc sm mh noted verd ins ver sz bw → JI (qN made comb hm) x noted verd ins ver → (n0 ≤ n ∧ n ≤ n0 + 2 * x) → (sl0 ≤ sl ∧ sl ≤ sl0 + 14 * x) → (mi0 ≤ mi ∧ mi ≤ mi0 + 2 * x) → x_n x_P (d + 3) xc_69 4 [] [(6, 468, 0), (0, 0, 0), (0, x, 0), q3, q4, q5] φ n sl (x_bR n0 sl0 100 600 (fun zw φ2 => ∃ mi2 noted2 verd2 : Nat, ∃ ins2 ver2 : Nat → Nat, zw = (0, verd2, 0) ∧ mi2 ≤ mi0 + 100 ∧ JI (qN made comb hm) made noted2 verd2 ins2 ver2 ∧ zG φ2 tpd tp lf mi2 made sv svm comb hm sc sm mh noted2 verd2 ins2 ver2 sz bw)) := by
  induction k with
  | zero =>
    intro x n sl mi noted verd ins ver φ q3 q4 q5 hk hMd40 hG hJI hnb hsb hmb
    have hxm : x = made := hk
    have hn0 : 486 ≤ n := by omega
    have hmi : mi + 100 ≤ 20000 := by omega
    have hG0 := hG
    obtain ⟨⟨hand, ie, hH, hhw⟩, hB, hTJ, hEJ, hN, hKJ, ⟨A, B, s9, hPS, hLK0⟩, hSP, hV5, ⟨slq, hSL⟩, hRW, hJ, hFJ, hWJ, ⟨ovn, ovh, hOV, hovn, hovh⟩⟩ := hG
    refine x_n_lt (fun hlt0 => ?_)
    have hmade := x_PS_lt hPS
    obtain ⟨co, ⟨top_, fr_, pc_, mm, st, lo, re, rs, fl, se, hKS⟩, hco⟩ := hKJ
    refine q_load (v := (0, x, 0)) (p2 := 5) rfl rfl rfl rfl ?_
    refine q_load (v := (6, 468, 0)) (p2 := 6) rfl rfl rfl rfl ?_
    refine q_getv (v := (6, 7, 0)) (p2 := 7) rfl hJ.1 (by decide) rfl rfl ?_
    refine q_getv (v := (0, made, 0)) (p2 := 8) rfl hPS.1.choose_spec.1 (by decide) hPS.1.choose_spec.2.2.2.1 rfl ?_
    refine q_icmp_s (p2 := 9) rfl (by decide) (by omega) (by omega) rfl (fun _ => ?_) (fun hb => absurd (show ¬ (x < made) by omega) hb)
    refine q_load (v := (6, 468, 0)) (p2 := 58) rfl rfl rfl rfl ?_
    refine q_getv (v := (0, verd, 0)) (p2 := 59) rfl hJ.1 (by decide) rfl rfl ?_
    exact q_retv (v := (0, verd, 0)) rfl rfl (⟨rfl, ⟨by omega, by omega⟩, ⟨by omega, by omega⟩, _, _, _, _, _, rfl, by omega, hxm ▸ hJI, ⟨⟨_, _, hH, hhw⟩, hB, hTJ, hEJ, hN, ⟨_, ⟨_, _, _, _, _, _, _, _, _, _, hKS⟩, hco⟩, ⟨_, _, _, hPS, hLK0⟩, hSP, hV5, ⟨_, hSL⟩, hRW, hJ, hFJ, hWJ, ⟨_, _, hOV, hovn, hovh⟩⟩⟩)
  | succ k ih =>
    intro x n sl mi noted verd ins ver φ q3 q4 q5 hk hMd40 hG hJI hnb hsb hmb
    have hn0 : 486 ≤ n := by omega
    have hmi : mi + 100 ≤ 20000 := by omega
    rcases JI_cases hJI with ⟨hn1, hn2⟩ | ⟨hn1, hn2⟩
    · subst hn1 hn2
      have hG0 := hG
      obtain ⟨⟨hand, ie, hH, hhw⟩, hB, hTJ, hEJ, hN, hKJ, ⟨A, B, s9, hPS, hLK0⟩, hSP, hV5, ⟨slq, hSL⟩, hRW, hJ, hFJ, hWJ, ⟨ovn, ovh, hOV, hovn, hovh⟩⟩ := hG
      refine x_n_lt (fun hlt0 => ?_)
      have hmade := x_PS_lt hPS
      obtain ⟨co, ⟨top_, fr_, pc_, mm, st, lo, re, rs, fl, se, hKS⟩, hco⟩ := hKJ
      refine q_load (v := (0, x, 0)) (p2 := 5) rfl rfl rfl rfl ?_
      refine q_load (v := (6, 468, 0)) (p2 := 6) rfl rfl rfl rfl ?_
      refine q_getv (v := (6, 7, 0)) (p2 := 7) rfl hJ.1 (by decide) rfl rfl ?_
      refine q_getv (v := (0, made, 0)) (p2 := 8) rfl hPS.1.choose_spec.1 (by decide) hPS.1.choose_spec.2.2.2.1 rfl ?_
      refine q_icmp_s (p2 := 9) rfl (by decide) (by omega) (by omega) rfl (fun hb => absurd hb (show ¬ (¬ (x < made)) by omega)) (fun _ => ?_)
      refine q_const (p2 := 10) rfl rfl ?_
      refine q_store (loc2 := [(6, 468, 0), (0, 0, 0), (0, x, 0), (0, 1, 0), q4, q5]) (p2 := 11) rfl rfl rfl rfl rfl ?_
      refine q_const (p2 := 12) rfl rfl ?_
      refine q_store (loc2 := [(6, 468, 0), (0, 0, 0), (0, x, 0), (0, 1, 0), (0, 0, 0), q5]) (p2 := 13) rfl rfl rfl rfl rfl ?_
      refine q_load (v := (0, 0, 0)) (p2 := 14) rfl rfl rfl rfl ?_
      refine q_load (v := (6, 468, 0)) (p2 := 15) rfl rfl rfl rfl ?_
      refine q_getv (v := (6, 7, 0)) (p2 := 16) rfl hJ.1 (by decide) rfl rfl ?_
      refine q_getv (v := (6, 237, 0)) (p2 := 17) rfl hPS.1.choose_spec.1 (by decide) hPS.1.choose_spec.2.1 rfl ?_
      refine q_getv (v := (6, 448, 0)) (p2 := 18) rfl hKS.2.2.2.2.2.2.2.2.2.1.choose_spec.1 (by decide) hKS.2.2.2.2.2.2.2.2.2.1.choose_spec.2.2.2.2.2.2.2.2.2.2.2.1 rfl ?_
      refine q_load (v := (0, 0, 0)) (p2 := 19) rfl rfl rfl rfl ?_
      refine q_aldv (v := (0, 0, 0)) (p2 := 20) rfl (x_sc_448 hKS.2.2.2.2.2.2.2.2.2) (by omega) (by omega) rfl rfl ?_
      refine q_icmp_s (p2 := 21) rfl (by decide) (by omega) (by omega) rfl (fun _ => ?_) (fun hb => absurd (show ¬ (0 < 0) by omega) hb)
      refine q_load (v := (6, 468, 0)) (p2 := 52) rfl rfl rfl rfl ?_
      refine q_load (v := (0, x, 0)) (p2 := 53) rfl rfl rfl rfl ?_
      refine q_load (v := (0, 1, 0)) (p2 := 54) rfl rfl rfl rfl ?_
      refine q_callvE (xs := [(0, 1, 0), (0, x, 0), (6, 468, 0)]) (p2 := 55) rfl rfl rfl rfl (x_rcv_s 468 hJ.1) rfl (zc_j_note_11 hJ (by omega)) (Nat.le_refl _) (Nat.le_refl _) rfl (fun φ1 hR1 => ?_)
      obtain ⟨hs1_0, fr1⟩ := hR1
      refine q_iinc (z := x + 1) (loc2 := [(6, 468, 0), (0, 0, 0), (0, x + 1, 0), (0, 1, 0), (0, 0, 0), q5]) (p2 := 56) rfl rfl (Nat.mod_eq_of_lt (by omega)) rfl rfl ?_
      refine q_goto rfl ?_
      have hm2 := (zq_H_at hH (fr1 0 (by decide)))
      have hm3 := (zq_tp_at hB (fr1 1 (by decide)))
      have hm4 := (zTJ_at hTJ (fun j h1 h2 => (fr1 j (by omega))))
      have hm5 := (zEJ_at hEJ (fun j h1 h2 => (fr1 j (by omega))))
      have hm6 := (zq_nm_at hN (fr1 239 (by decide)) (fr1 242 (by decide)) (fr1 244 (by decide)))
      have hm7 := (x_KS_at2 hKS (fun j h1 h2 h3 h4 => (fr1 j (by omega))))
      refine x_n_lt (fun hlt9 => ?_)
      have hm8 := (x_PS_at hPS (fun j hj hne => by have hj2 := x_some_lt hlt0 hne; exact (fr1 j (by omega))))
      have hm10 := (x_LK_at2 hLK0 (fun j h1 h2 => (fr1 j (by omega))))
      have hm11 := (x_SP_at hSP (fun j hj hne => by have hj2 := x_some_lt hlt0 hne; exact (fr1 j (by omega))))
      have hm12 := (zq_V5_at hV5 (fr1 485 (by decide)))
      have hm13 := (zq_SL_at hSL (fr1 482 (by decide)))
      have hm14 := (zq_RW_at hRW (fr1 483 (by decide)))
      have hm15 := (zFJ_at hFJ (fun j h1 h2 => (fr1 j (by omega))))
      have hm16 := (zWJ_at hWJ (fun j h1 h2 => (fr1 j (by omega))))
      have hm17 := (zq_OV_at hOV (fr1 452 (by decide)) (fr1 453 (by decide)))
      exact ih (x + 1) _ _ _ _ _ _ _ _ _ _ _ (by omega) hMd40 ⟨⟨_, _, hm2, (x_hw_at hhw (fun j hj hne => by have hj2 := x_some_lt hlt0 hne; exact (fr1 j (by omega))))⟩, hm3, hm4, hm5, hm6, ⟨_, ⟨_, _, _, _, _, _, _, _, _, _, hm7⟩, hco⟩, ⟨_, _, _, hm8, hm10⟩, hm11, hm12, ⟨_, hm13⟩, hm14, hs1_0, hm15, hm16, ⟨_, _, hm17, hovn, hovh⟩⟩ (JI_out hJI (fun z => z.2)) (by omega) (by omega) (by omega)
    · exact absurd (JI_N hJI) hn1
set_option maxHeartbeats 2000000 in
theorem zc_jl_3 {d n0 sl0 mi0 : Nat} {tpd : Nat} {tp : Nat → Nat} {lf : Nat} {made : Nat} {sv : Nat} {svm : Nat} {comb : Nat → Nat} {hm : Nat → MV} {sc : Nat → Nat} {sm : Nat → MV} {mh : MV} {sz : Nat} {bw : Nat → Nat} (hpv : ∀ i, x_pv2 (hm i)) (hI0 : ∀ x, x < 40 → zI0 hm x) (hI1 : ∀ x, x < 40 → zI1 hm x) (hI3 : ∀ x, x < 40 → zI3 hm x) (hcb : ∀ x, x < made → comb x = 0 ∨ comb x = 3 ∨ comb x = 5) (h486 : 486 ≤ n0) (hmi0 : mi0 + 300 ≤ 20000) (hMd40 : made ≤ 40) (k : Nat) : ∀ (x n sl mi noted verd : Nat) (ins ver : Nat → Nat) (φ : FH), x + k = made → made ≤ 40 → zG φ tpd tp lf mi made sv svm comb hm sc sm mh noted verd ins ver sz bw → JI (qN made comb hm) x noted verd ins ver → (n0 ≤ n ∧ n ≤ n0 + 2 * x) → (sl0 ≤ sl ∧ sl ≤ sl0 + 14 * x) → (mi0 ≤ mi ∧ mi ≤ mi0 + 2 * x) → x_n x_P (d + 4) xc_67 4 [] [(6, 468, 0), (0, 1, 0), (0, x, 0)] φ n sl (x_bR n0 sl0 100 600 (fun zw φ2 => ∃ mi2 noted2 verd2 : Nat, ∃ ins2 ver2 : Nat → Nat, zw = (0, verd2, 0) ∧ mi2 ≤ mi0 + 100 ∧ JI (qN made comb hm) made noted2 verd2 ins2 ver2 ∧ zG φ2 tpd tp lf mi2 made sv svm comb hm sc sm mh noted2 verd2 ins2 ver2 sz bw)) := by
  induction k with
  | zero =>
    intro x n sl mi noted verd ins ver φ  hk hMd40 hG hJI hnb hsb hmb
    have hxm : x = made := hk
    have hn0 : 486 ≤ n := by omega
    have hmi : mi + 100 ≤ 20000 := by omega
    have hG0 := hG
    obtain ⟨⟨hand, ie, hH, hhw⟩, hB, hTJ, hEJ, hN, hKJ, ⟨A, B, s9, hPS, hLK0⟩, hSP, hV5, ⟨slq, hSL⟩, hRW, hJ, hFJ, hWJ, ⟨ovn, ovh, hOV, hovn, hovh⟩⟩ := hG
    refine x_n_lt (fun hlt0 => ?_)
    have hmade := x_PS_lt hPS
    obtain ⟨co, ⟨top_, fr_, pc_, mm, st, lo, re, rs, fl, se, hKS⟩, hco⟩ := hKJ
    refine q_load (v := (0, x, 0)) (p2 := 5) rfl rfl rfl rfl ?_
    refine q_load (v := (6, 468, 0)) (p2 := 6) rfl rfl rfl rfl ?_
    refine q_getv (v := (6, 7, 0)) (p2 := 7) rfl hJ.1 (by decide) rfl rfl ?_
    refine q_getv (v := (0, made, 0)) (p2 := 8) rfl hPS.1.choose_spec.1 (by decide) hPS.1.choose_spec.2.2.2.1 rfl ?_
    refine q_icmp_s (p2 := 9) rfl (by decide) (by omega) (by omega) rfl (fun _ => ?_) (fun hb => absurd (show ¬ (x < made) by omega) hb)
    refine q_load (v := (6, 468, 0)) (p2 := 29) rfl rfl rfl rfl ?_
    refine q_getv (v := (0, verd, 0)) (p2 := 30) rfl hJ.1 (by decide) rfl rfl ?_
    exact q_retv (v := (0, verd, 0)) rfl rfl (⟨rfl, ⟨by omega, by omega⟩, ⟨by omega, by omega⟩, _, _, _, _, _, rfl, by omega, hxm ▸ hJI, ⟨⟨_, _, hH, hhw⟩, hB, hTJ, hEJ, hN, ⟨_, ⟨_, _, _, _, _, _, _, _, _, _, hKS⟩, hco⟩, ⟨_, _, _, hPS, hLK0⟩, hSP, hV5, ⟨_, hSL⟩, hRW, hJ, hFJ, hWJ, ⟨_, _, hOV, hovn, hovh⟩⟩⟩)
  | succ k ih =>
    intro x n sl mi noted verd ins ver φ  hk hMd40 hG hJI hnb hsb hmb
    have hn0 : 486 ≤ n := by omega
    have hmi : mi + 100 ≤ 20000 := by omega
    rcases JI_cases hJI with ⟨hn1, hn2⟩ | ⟨hn1, hn2⟩
    · subst hn1 hn2
      have hG0 := hG
      obtain ⟨⟨hand, ie, hH, hhw⟩, hB, hTJ, hEJ, hN, hKJ, ⟨A, B, s9, hPS, hLK0⟩, hSP, hV5, ⟨slq, hSL⟩, hRW, hJ, hFJ, hWJ, ⟨ovn, ovh, hOV, hovn, hovh⟩⟩ := hG
      refine x_n_lt (fun hlt0 => ?_)
      have hmade := x_PS_lt hPS
      obtain ⟨co, ⟨top_, fr_, pc_, mm, st, lo, re, rs, fl, se, hKS⟩, hco⟩ := hKJ
      refine q_load (v := (0, x, 0)) (p2 := 5) rfl rfl rfl rfl ?_
      refine q_load (v := (6, 468, 0)) (p2 := 6) rfl rfl rfl rfl ?_
      refine q_getv (v := (6, 7, 0)) (p2 := 7) rfl hJ.1 (by decide) rfl rfl ?_
      refine q_getv (v := (0, made, 0)) (p2 := 8) rfl hPS.1.choose_spec.1 (by decide) hPS.1.choose_spec.2.2.2.1 rfl ?_
      refine q_icmp_s (p2 := 9) rfl (by decide) (by omega) (by omega) rfl (fun hb => absurd hb (show ¬ (¬ (x < made)) by omega)) (fun _ => ?_)
      refine q_load (v := (6, 468, 0)) (p2 := 10) rfl rfl rfl rfl ?_
      refine q_getv (v := (6, 7, 0)) (p2 := 11) rfl hJ.1 (by decide) rfl rfl ?_
      refine q_load (v := (0, x, 0)) (p2 := 12) rfl rfl rfl rfl ?_
      refine q_load (v := (0, 1, 0)) (p2 := 13) rfl rfl rfl rfl ?_
      refine q_callr (xs := [(0, 1, 0), (0, x, 0), (6, 7, 0)]) (p2 := 14) rfl rfl rfl rfl (x_rcv_s 7 hPS.1.choose_spec.1) rfl (e_isA hPS.1.choose_spec hPS.2.1 (by omega) (by omega)) (Nat.le_refl _) (Nat.le_refl _) rfl ?_
      by_cases hb1 : x_isA made comb x 1
      · rw [if_pos hb1]
        refine q_if0_s (p2 := 15) rfl (by decide) (by omega) rfl (fun hb => absurd hb (show ¬ (1 = 0) by omega)) (fun _ => ?_)
        refine q_load (v := (6, 468, 0)) (p2 := 16) rfl rfl rfl rfl ?_
        refine q_load (v := (0, x, 0)) (p2 := 17) rfl rfl rfl rfl ?_
        refine q_load (v := (6, 468, 0)) (p2 := 18) rfl rfl rfl rfl ?_
        refine q_load (v := (0, x, 0)) (p2 := 19) rfl rfl rfl rfl ?_
        refine q_load (v := (0, 1, 0)) (p2 := 20) rfl rfl rfl rfl ?_
        refine q_callr (xs := [(0, 1, 0), (0, x, 0), (6, 468, 0)]) (p2 := 21) rfl rfl rfl rfl (x_rcv_s 468 hJ.1) rfl (zc_jb1 hPS hKS.2.2.2.2.2.2.2.2.2 hJ (by omega) (by omega) (hI3 x (by omega))) (Nat.le_refl _) (Nat.le_refl _) rfl ?_
        refine q_if0_s (p2 := 22) rfl (by decide) (by omega) rfl (fun hb => absurd hb (show ¬ (1 = 0) by omega)) (fun _ => ?_)
        refine q_const (p2 := 23) rfl rfl ?_
        refine q_goto rfl ?_
        refine q_callvE (xs := [(0, 1, 0), (0, x, 0), (6, 468, 0)]) (p2 := 26) rfl rfl rfl rfl (x_rcv_s 468 hJ.1) rfl (zc_j_note_11 hJ (by omega)) (Nat.le_refl _) (Nat.le_refl _) rfl (fun φ2 hR2 => ?_)
        obtain ⟨hs2_0, fr2⟩ := hR2
        refine q_iinc (z := x + 1) (loc2 := [(6, 468, 0), (0, 1, 0), (0, x + 1, 0)]) (p2 := 27) rfl rfl (Nat.mod_eq_of_lt (by omega)) rfl rfl ?_
        refine q_goto rfl ?_
        have hm3 := (zq_H_at hH (fr2 0 (by decide)))
        have hm4 := (zq_tp_at hB (fr2 1 (by decide)))
        have hm5 := (zTJ_at hTJ (fun j h1 h2 => (fr2 j (by omega))))
        have hm6 := (zEJ_at hEJ (fun j h1 h2 => (fr2 j (by omega))))
        have hm7 := (zq_nm_at hN (fr2 239 (by decide)) (fr2 242 (by decide)) (fr2 244 (by decide)))
        have hm8 := (x_KS_at2 hKS (fun j h1 h2 h3 h4 => (fr2 j (by omega))))
        refine x_n_lt (fun hlt10 => ?_)
        have hm9 := (x_PS_at hPS (fun j hj hne => by have hj2 := x_some_lt hlt0 hne; exact (fr2 j (by omega))))
        have hm11 := (x_LK_at2 hLK0 (fun j h1 h2 => (fr2 j (by omega))))
        have hm12 := (x_SP_at hSP (fun j hj hne => by have hj2 := x_some_lt hlt0 hne; exact (fr2 j (by omega))))
        have hm13 := (zq_V5_at hV5 (fr2 485 (by decide)))
        have hm14 := (zq_SL_at hSL (fr2 482 (by decide)))
        have hm15 := (zq_RW_at hRW (fr2 483 (by decide)))
        have hm16 := (zFJ_at hFJ (fun j h1 h2 => (fr2 j (by omega))))
        have hm17 := (zWJ_at hWJ (fun j h1 h2 => (fr2 j (by omega))))
        have hm18 := (zq_OV_at hOV (fr2 452 (by decide)) (fr2 453 (by decide)))
        exact ih (x + 1) _ _ _ _ _ _ _ _ (by omega) hMd40 ⟨⟨_, _, hm3, (x_hw_at hhw (fun j hj hne => by have hj2 := x_some_lt hlt0 hne; exact (fr2 j (by omega))))⟩, hm4, hm5, hm6, hm7, ⟨_, ⟨_, _, _, _, _, _, _, _, _, _, hm8⟩, hco⟩, ⟨_, _, _, hm9, hm11⟩, hm12, hm13, ⟨_, hm14⟩, hm15, hs2_0, hm16, hm17, ⟨_, _, hm18, hovn, hovh⟩⟩ (JI_out hJI (fun z => z.2)) (by omega) (by omega) (by omega)
      · rw [if_neg hb1]
        refine q_if0_s (p2 := 15) rfl (by decide) (by omega) rfl (fun _ => ?_) (fun hb => absurd (show 0 = 0 by omega) hb)
        refine q_iinc (z := x + 1) (loc2 := [(6, 468, 0), (0, 1, 0), (0, x + 1, 0)]) (p2 := 27) rfl rfl (Nat.mod_eq_of_lt (by omega)) rfl rfl ?_
        refine q_goto rfl ?_
        exact ih (x + 1) _ _ _ _ _ _ _ _ (by omega) hMd40 ⟨⟨_, _, hH, hhw⟩, hB, hTJ, hEJ, hN, ⟨_, ⟨_, _, _, _, _, _, _, _, _, _, hKS⟩, hco⟩, ⟨_, _, _, hPS, hLK0⟩, hSP, hV5, ⟨_, hSL⟩, hRW, hJ, hFJ, hWJ, ⟨_, _, hOV, hovn, hovh⟩⟩ (JI_out hJI (fun z => z.2)) (by omega) (by omega) (by omega)
    · exact absurd (JI_N hJI) hn1
set_option maxHeartbeats 2000000 in
theorem zc_jl_4 {d n0 sl0 mi0 : Nat} {tpd : Nat} {tp : Nat → Nat} {lf : Nat} {made : Nat} {sv : Nat} {svm : Nat} {comb : Nat → Nat} {hm : Nat → MV} {sc : Nat → Nat} {sm : Nat → MV} {mh : MV} {sz : Nat} {bw : Nat → Nat} (hpv : ∀ i, x_pv2 (hm i)) (hI0 : ∀ x, x < 40 → zI0 hm x) (hI1 : ∀ x, x < 40 → zI1 hm x) (hI3 : ∀ x, x < 40 → zI3 hm x) (hcb : ∀ x, x < made → comb x = 0 ∨ comb x = 3 ∨ comb x = 5) (h486 : 486 ≤ n0) (hmi0 : mi0 + 300 ≤ 20000) (hMd40 : made ≤ 40) (k : Nat) : ∀ (x n sl mi noted verd : Nat) (ins ver : Nat → Nat) (φ : FH), x + k = made → made ≤ 40 → zG φ tpd tp lf mi made sv svm comb hm sc sm mh noted verd ins ver sz bw → JI (qN made comb hm) x noted verd ins ver → (n0 ≤ n ∧ n ≤ n0 + 2 * x) → (sl0 ≤ sl ∧ sl ≤ sl0 + 14 * x) → (mi0 ≤ mi ∧ mi ≤ mi0 + 2 * x) → x_n x_P (d + 3) xc_68 4 [] [(6, 468, 0), (0, 1, 0), (0, x, 0)] φ n sl (x_bR n0 sl0 100 600 (fun zw φ2 => ∃ mi2 noted2 verd2 : Nat, ∃ ins2 ver2 : Nat → Nat, zw = (0, verd2, 0) ∧ mi2 ≤ mi0 + 100 ∧ JI (qN made comb hm) made noted2 verd2 ins2 ver2 ∧ zG φ2 tpd tp lf mi2 made sv svm comb hm sc sm mh noted2 verd2 ins2 ver2 sz bw)) := by
  induction k with
  | zero =>
    intro x n sl mi noted verd ins ver φ  hk hMd40 hG hJI hnb hsb hmb
    have hxm : x = made := hk
    have hn0 : 486 ≤ n := by omega
    have hmi : mi + 100 ≤ 20000 := by omega
    have hG0 := hG
    obtain ⟨⟨hand, ie, hH, hhw⟩, hB, hTJ, hEJ, hN, hKJ, ⟨A, B, s9, hPS, hLK0⟩, hSP, hV5, ⟨slq, hSL⟩, hRW, hJ, hFJ, hWJ, ⟨ovn, ovh, hOV, hovn, hovh⟩⟩ := hG
    refine x_n_lt (fun hlt0 => ?_)
    have hmade := x_PS_lt hPS
    obtain ⟨co, ⟨top_, fr_, pc_, mm, st, lo, re, rs, fl, se, hKS⟩, hco⟩ := hKJ
    refine q_load (v := (0, x, 0)) (p2 := 5) rfl rfl rfl rfl ?_
    refine q_load (v := (6, 468, 0)) (p2 := 6) rfl rfl rfl rfl ?_
    refine q_getv (v := (6, 7, 0)) (p2 := 7) rfl hJ.1 (by decide) rfl rfl ?_
    refine q_getv (v := (0, made, 0)) (p2 := 8) rfl hPS.1.choose_spec.1 (by decide) hPS.1.choose_spec.2.2.2.1 rfl ?_
    refine q_icmp_s (p2 := 9) rfl (by decide) (by omega) (by omega) rfl (fun _ => ?_) (fun hb => absurd (show ¬ (x < made) by omega) hb)
    refine q_load (v := (6, 468, 0)) (p2 := 29) rfl rfl rfl rfl ?_
    refine q_getv (v := (0, verd, 0)) (p2 := 30) rfl hJ.1 (by decide) rfl rfl ?_
    exact q_retv (v := (0, verd, 0)) rfl rfl (⟨rfl, ⟨by omega, by omega⟩, ⟨by omega, by omega⟩, _, _, _, _, _, rfl, by omega, hxm ▸ hJI, ⟨⟨_, _, hH, hhw⟩, hB, hTJ, hEJ, hN, ⟨_, ⟨_, _, _, _, _, _, _, _, _, _, hKS⟩, hco⟩, ⟨_, _, _, hPS, hLK0⟩, hSP, hV5, ⟨_, hSL⟩, hRW, hJ, hFJ, hWJ, ⟨_, _, hOV, hovn, hovh⟩⟩⟩)
  | succ k ih =>
    intro x n sl mi noted verd ins ver φ  hk hMd40 hG hJI hnb hsb hmb
    have hn0 : 486 ≤ n := by omega
    have hmi : mi + 100 ≤ 20000 := by omega
    rcases JI_cases hJI with ⟨hn1, hn2⟩ | ⟨hn1, hn2⟩
    · subst hn1 hn2
      have hG0 := hG
      obtain ⟨⟨hand, ie, hH, hhw⟩, hB, hTJ, hEJ, hN, hKJ, ⟨A, B, s9, hPS, hLK0⟩, hSP, hV5, ⟨slq, hSL⟩, hRW, hJ, hFJ, hWJ, ⟨ovn, ovh, hOV, hovn, hovh⟩⟩ := hG
      refine x_n_lt (fun hlt0 => ?_)
      have hmade := x_PS_lt hPS
      obtain ⟨co, ⟨top_, fr_, pc_, mm, st, lo, re, rs, fl, se, hKS⟩, hco⟩ := hKJ
      refine q_load (v := (0, x, 0)) (p2 := 5) rfl rfl rfl rfl ?_
      refine q_load (v := (6, 468, 0)) (p2 := 6) rfl rfl rfl rfl ?_
      refine q_getv (v := (6, 7, 0)) (p2 := 7) rfl hJ.1 (by decide) rfl rfl ?_
      refine q_getv (v := (0, made, 0)) (p2 := 8) rfl hPS.1.choose_spec.1 (by decide) hPS.1.choose_spec.2.2.2.1 rfl ?_
      refine q_icmp_s (p2 := 9) rfl (by decide) (by omega) (by omega) rfl (fun hb => absurd hb (show ¬ (¬ (x < made)) by omega)) (fun _ => ?_)
      refine q_load (v := (6, 468, 0)) (p2 := 10) rfl rfl rfl rfl ?_
      refine q_getv (v := (6, 7, 0)) (p2 := 11) rfl hJ.1 (by decide) rfl rfl ?_
      refine q_load (v := (0, x, 0)) (p2 := 12) rfl rfl rfl rfl ?_
      refine q_load (v := (0, 1, 0)) (p2 := 13) rfl rfl rfl rfl ?_
      refine q_callr (xs := [(0, 1, 0), (0, x, 0), (6, 7, 0)]) (p2 := 14) rfl rfl rfl rfl (x_rcv_s 7 hPS.1.choose_spec.1) rfl (e_isA hPS.1.choose_spec hPS.2.1 (by omega) (by omega)) (Nat.le_refl _) (Nat.le_refl _) rfl ?_
      by_cases hb1 : x_isA made comb x 1
      · rw [if_pos hb1]
        refine q_if0_s (p2 := 15) rfl (by decide) (by omega) rfl (fun hb => absurd hb (show ¬ (1 = 0) by omega)) (fun _ => ?_)
        refine q_load (v := (6, 468, 0)) (p2 := 16) rfl rfl rfl rfl ?_
        refine q_load (v := (0, x, 0)) (p2 := 17) rfl rfl rfl rfl ?_
        refine q_load (v := (6, 468, 0)) (p2 := 18) rfl rfl rfl rfl ?_
        refine q_load (v := (0, x, 0)) (p2 := 19) rfl rfl rfl rfl ?_
        refine q_load (v := (0, 1, 0)) (p2 := 20) rfl rfl rfl rfl ?_
        refine q_callr (xs := [(0, 1, 0), (0, x, 0), (6, 468, 0)]) (p2 := 21) rfl rfl rfl rfl (x_rcv_s 468 hJ.1) rfl (zc_iu1 hPS hKS.2.2.2.2.2.2.2.2.2 hJ (by omega) (by omega)) (Nat.le_refl _) (Nat.le_refl _) rfl ?_
        refine q_if0_s (p2 := 22) rfl (by decide) (by omega) rfl (fun hb => absurd hb (show ¬ (1 = 0) by omega)) (fun _ => ?_)
        refine q_const (p2 := 23) rfl rfl ?_
        refine q_goto rfl ?_
        refine q_callvE (xs := [(0, 1, 0), (0, x, 0), (6, 468, 0)]) (p2 := 26) rfl rfl rfl rfl (x_rcv_s 468 hJ.1) rfl (zc_j_note_11 hJ (by omega)) (Nat.le_refl _) (Nat.le_refl _) rfl (fun φ2 hR2 => ?_)
        obtain ⟨hs2_0, fr2⟩ := hR2
        refine q_iinc (z := x + 1) (loc2 := [(6, 468, 0), (0, 1, 0), (0, x + 1, 0)]) (p2 := 27) rfl rfl (Nat.mod_eq_of_lt (by omega)) rfl rfl ?_
        refine q_goto rfl ?_
        have hm3 := (zq_H_at hH (fr2 0 (by decide)))
        have hm4 := (zq_tp_at hB (fr2 1 (by decide)))
        have hm5 := (zTJ_at hTJ (fun j h1 h2 => (fr2 j (by omega))))
        have hm6 := (zEJ_at hEJ (fun j h1 h2 => (fr2 j (by omega))))
        have hm7 := (zq_nm_at hN (fr2 239 (by decide)) (fr2 242 (by decide)) (fr2 244 (by decide)))
        have hm8 := (x_KS_at2 hKS (fun j h1 h2 h3 h4 => (fr2 j (by omega))))
        refine x_n_lt (fun hlt10 => ?_)
        have hm9 := (x_PS_at hPS (fun j hj hne => by have hj2 := x_some_lt hlt0 hne; exact (fr2 j (by omega))))
        have hm11 := (x_LK_at2 hLK0 (fun j h1 h2 => (fr2 j (by omega))))
        have hm12 := (x_SP_at hSP (fun j hj hne => by have hj2 := x_some_lt hlt0 hne; exact (fr2 j (by omega))))
        have hm13 := (zq_V5_at hV5 (fr2 485 (by decide)))
        have hm14 := (zq_SL_at hSL (fr2 482 (by decide)))
        have hm15 := (zq_RW_at hRW (fr2 483 (by decide)))
        have hm16 := (zFJ_at hFJ (fun j h1 h2 => (fr2 j (by omega))))
        have hm17 := (zWJ_at hWJ (fun j h1 h2 => (fr2 j (by omega))))
        have hm18 := (zq_OV_at hOV (fr2 452 (by decide)) (fr2 453 (by decide)))
        exact ih (x + 1) _ _ _ _ _ _ _ _ (by omega) hMd40 ⟨⟨_, _, hm3, (x_hw_at hhw (fun j hj hne => by have hj2 := x_some_lt hlt0 hne; exact (fr2 j (by omega))))⟩, hm4, hm5, hm6, hm7, ⟨_, ⟨_, _, _, _, _, _, _, _, _, _, hm8⟩, hco⟩, ⟨_, _, _, hm9, hm11⟩, hm12, hm13, ⟨_, hm14⟩, hm15, hs2_0, hm16, hm17, ⟨_, _, hm18, hovn, hovh⟩⟩ (JI_out hJI (fun z => z.2)) (by omega) (by omega) (by omega)
      · rw [if_neg hb1]
        refine q_if0_s (p2 := 15) rfl (by decide) (by omega) rfl (fun _ => ?_) (fun hb => absurd (show 0 = 0 by omega) hb)
        refine q_iinc (z := x + 1) (loc2 := [(6, 468, 0), (0, 1, 0), (0, x + 1, 0)]) (p2 := 27) rfl rfl (Nat.mod_eq_of_lt (by omega)) rfl rfl ?_
        refine q_goto rfl ?_
        exact ih (x + 1) _ _ _ _ _ _ _ _ (by omega) hMd40 ⟨⟨_, _, hH, hhw⟩, hB, hTJ, hEJ, hN, ⟨_, ⟨_, _, _, _, _, _, _, _, _, _, hKS⟩, hco⟩, ⟨_, _, _, hPS, hLK0⟩, hSP, hV5, ⟨_, hSL⟩, hRW, hJ, hFJ, hWJ, ⟨_, _, hOV, hovn, hovh⟩⟩ (JI_out hJI (fun z => z.2)) (by omega) (by omega) (by omega)
    · exact absurd (JI_N hJI) hn1
set_option maxHeartbeats 2000000 in
theorem zc_jl_5 {d n0 sl0 mi0 : Nat} {tpd : Nat} {tp : Nat → Nat} {lf : Nat} {made : Nat} {sv : Nat} {svm : Nat} {comb : Nat → Nat} {hm : Nat → MV} {sc : Nat → Nat} {sm : Nat → MV} {mh : MV} {sz : Nat} {bw : Nat → Nat} (hpv : ∀ i, x_pv2 (hm i)) (hI0 : ∀ x, x < 40 → zI0 hm x) (hI1 : ∀ x, x < 40 → zI1 hm x) (hI3 : ∀ x, x < 40 → zI3 hm x) (hcb : ∀ x, x < made → comb x = 0 ∨ comb x = 3 ∨ comb x = 5) (h486 : 486 ≤ n0) (hmi0 : mi0 + 300 ≤ 20000) (hMd40 : made ≤ 40) (k : Nat) : ∀ (x n sl mi noted verd : Nat) (ins ver : Nat → Nat) (φ : FH) (q3 q4 q5 : XV), x + k = made → made ≤ 40 → zG φ tpd tp lf mi made sv svm comb hm sc sm mh noted verd ins ver sz bw → JI (qN made comb hm) x noted verd ins ver → (n0 ≤ n ∧ n ≤ n0 + 2 * x) → (sl0 ≤ sl ∧ sl ≤ sl0 + 14 * x) → (mi0 ≤ mi ∧ mi ≤ mi0 + 2 * x) → x_n x_P (d + 3) xc_69 4 [] [(6, 468, 0), (0, 1, 0), (0, x, 0), q3, q4, q5] φ n sl (x_bR n0 sl0 100 600 (fun zw φ2 => ∃ mi2 noted2 verd2 : Nat, ∃ ins2 ver2 : Nat → Nat, zw = (0, verd2, 0) ∧ mi2 ≤ mi0 + 100 ∧ JI (qN made comb hm) made noted2 verd2 ins2 ver2 ∧ zG φ2 tpd tp lf mi2 made sv svm comb hm sc sm mh noted2 verd2 ins2 ver2 sz bw)) := by
  induction k with
  | zero =>
    intro x n sl mi noted verd ins ver φ q3 q4 q5 hk hMd40 hG hJI hnb hsb hmb
    have hxm : x = made := hk
    have hn0 : 486 ≤ n := by omega
    have hmi : mi + 100 ≤ 20000 := by omega
    have hG0 := hG
    obtain ⟨⟨hand, ie, hH, hhw⟩, hB, hTJ, hEJ, hN, hKJ, ⟨A, B, s9, hPS, hLK0⟩, hSP, hV5, ⟨slq, hSL⟩, hRW, hJ, hFJ, hWJ, ⟨ovn, ovh, hOV, hovn, hovh⟩⟩ := hG
    refine x_n_lt (fun hlt0 => ?_)
    have hmade := x_PS_lt hPS
    obtain ⟨co, ⟨top_, fr_, pc_, mm, st, lo, re, rs, fl, se, hKS⟩, hco⟩ := hKJ
    refine q_load (v := (0, x, 0)) (p2 := 5) rfl rfl rfl rfl ?_
    refine q_load (v := (6, 468, 0)) (p2 := 6) rfl rfl rfl rfl ?_
    refine q_getv (v := (6, 7, 0)) (p2 := 7) rfl hJ.1 (by decide) rfl rfl ?_
    refine q_getv (v := (0, made, 0)) (p2 := 8) rfl hPS.1.choose_spec.1 (by decide) hPS.1.choose_spec.2.2.2.1 rfl ?_
    refine q_icmp_s (p2 := 9) rfl (by decide) (by omega) (by omega) rfl (fun _ => ?_) (fun hb => absurd (show ¬ (x < made) by omega) hb)
    refine q_load (v := (6, 468, 0)) (p2 := 58) rfl rfl rfl rfl ?_
    refine q_getv (v := (0, verd, 0)) (p2 := 59) rfl hJ.1 (by decide) rfl rfl ?_
    exact q_retv (v := (0, verd, 0)) rfl rfl (⟨rfl, ⟨by omega, by omega⟩, ⟨by omega, by omega⟩, _, _, _, _, _, rfl, by omega, hxm ▸ hJI, ⟨⟨_, _, hH, hhw⟩, hB, hTJ, hEJ, hN, ⟨_, ⟨_, _, _, _, _, _, _, _, _, _, hKS⟩, hco⟩, ⟨_, _, _, hPS, hLK0⟩, hSP, hV5, ⟨_, hSL⟩, hRW, hJ, hFJ, hWJ, ⟨_, _, hOV, hovn, hovh⟩⟩⟩)
  | succ k ih =>
    intro x n sl mi noted verd ins ver φ q3 q4 q5 hk hMd40 hG hJI hnb hsb hmb
    have hn0 : 486 ≤ n := by omega
    have hmi : mi + 100 ≤ 20000 := by omega
    rcases JI_cases hJI with ⟨hn1, hn2⟩ | ⟨hn1, hn2⟩
    · subst hn1 hn2
      have hG0 := hG
      obtain ⟨⟨hand, ie, hH, hhw⟩, hB, hTJ, hEJ, hN, hKJ, ⟨A, B, s9, hPS, hLK0⟩, hSP, hV5, ⟨slq, hSL⟩, hRW, hJ, hFJ, hWJ, ⟨ovn, ovh, hOV, hovn, hovh⟩⟩ := hG
      refine x_n_lt (fun hlt0 => ?_)
      have hmade := x_PS_lt hPS
      obtain ⟨co, ⟨top_, fr_, pc_, mm, st, lo, re, rs, fl, se, hKS⟩, hco⟩ := hKJ
      refine q_load (v := (0, x, 0)) (p2 := 5) rfl rfl rfl rfl ?_
      refine q_load (v := (6, 468, 0)) (p2 := 6) rfl rfl rfl rfl ?_
      refine q_getv (v := (6, 7, 0)) (p2 := 7) rfl hJ.1 (by decide) rfl rfl ?_
      refine q_getv (v := (0, made, 0)) (p2 := 8) rfl hPS.1.choose_spec.1 (by decide) hPS.1.choose_spec.2.2.2.1 rfl ?_
      refine q_icmp_s (p2 := 9) rfl (by decide) (by omega) (by omega) rfl (fun hb => absurd hb (show ¬ (¬ (x < made)) by omega)) (fun _ => ?_)
      refine q_const (p2 := 10) rfl rfl ?_
      refine q_store (loc2 := [(6, 468, 0), (0, 1, 0), (0, x, 0), (0, 1, 0), q4, q5]) (p2 := 11) rfl rfl rfl rfl rfl ?_
      refine q_const (p2 := 12) rfl rfl ?_
      refine q_store (loc2 := [(6, 468, 0), (0, 1, 0), (0, x, 0), (0, 1, 0), (0, 0, 0), q5]) (p2 := 13) rfl rfl rfl rfl rfl ?_
      refine q_load (v := (0, 0, 0)) (p2 := 14) rfl rfl rfl rfl ?_
      refine q_load (v := (6, 468, 0)) (p2 := 15) rfl rfl rfl rfl ?_
      refine q_getv (v := (6, 7, 0)) (p2 := 16) rfl hJ.1 (by decide) rfl rfl ?_
      refine q_getv (v := (6, 237, 0)) (p2 := 17) rfl hPS.1.choose_spec.1 (by decide) hPS.1.choose_spec.2.1 rfl ?_
      refine q_getv (v := (6, 448, 0)) (p2 := 18) rfl hKS.2.2.2.2.2.2.2.2.2.1.choose_spec.1 (by decide) hKS.2.2.2.2.2.2.2.2.2.1.choose_spec.2.2.2.2.2.2.2.2.2.2.2.1 rfl ?_
      refine q_load (v := (0, 1, 0)) (p2 := 19) rfl rfl rfl rfl ?_
      refine q_aldv (v := (0, 0, 0)) (p2 := 20) rfl (x_sc_448 hKS.2.2.2.2.2.2.2.2.2) (by omega) (by omega) rfl rfl ?_
      refine q_icmp_s (p2 := 21) rfl (by decide) (by omega) (by omega) rfl (fun _ => ?_) (fun hb => absurd (show ¬ (0 < 0) by omega) hb)
      refine q_load (v := (6, 468, 0)) (p2 := 52) rfl rfl rfl rfl ?_
      refine q_load (v := (0, x, 0)) (p2 := 53) rfl rfl rfl rfl ?_
      refine q_load (v := (0, 1, 0)) (p2 := 54) rfl rfl rfl rfl ?_
      refine q_callvE (xs := [(0, 1, 0), (0, x, 0), (6, 468, 0)]) (p2 := 55) rfl rfl rfl rfl (x_rcv_s 468 hJ.1) rfl (zc_j_note_11 hJ (by omega)) (Nat.le_refl _) (Nat.le_refl _) rfl (fun φ1 hR1 => ?_)
      obtain ⟨hs1_0, fr1⟩ := hR1
      refine q_iinc (z := x + 1) (loc2 := [(6, 468, 0), (0, 1, 0), (0, x + 1, 0), (0, 1, 0), (0, 0, 0), q5]) (p2 := 56) rfl rfl (Nat.mod_eq_of_lt (by omega)) rfl rfl ?_
      refine q_goto rfl ?_
      have hm2 := (zq_H_at hH (fr1 0 (by decide)))
      have hm3 := (zq_tp_at hB (fr1 1 (by decide)))
      have hm4 := (zTJ_at hTJ (fun j h1 h2 => (fr1 j (by omega))))
      have hm5 := (zEJ_at hEJ (fun j h1 h2 => (fr1 j (by omega))))
      have hm6 := (zq_nm_at hN (fr1 239 (by decide)) (fr1 242 (by decide)) (fr1 244 (by decide)))
      have hm7 := (x_KS_at2 hKS (fun j h1 h2 h3 h4 => (fr1 j (by omega))))
      refine x_n_lt (fun hlt9 => ?_)
      have hm8 := (x_PS_at hPS (fun j hj hne => by have hj2 := x_some_lt hlt0 hne; exact (fr1 j (by omega))))
      have hm10 := (x_LK_at2 hLK0 (fun j h1 h2 => (fr1 j (by omega))))
      have hm11 := (x_SP_at hSP (fun j hj hne => by have hj2 := x_some_lt hlt0 hne; exact (fr1 j (by omega))))
      have hm12 := (zq_V5_at hV5 (fr1 485 (by decide)))
      have hm13 := (zq_SL_at hSL (fr1 482 (by decide)))
      have hm14 := (zq_RW_at hRW (fr1 483 (by decide)))
      have hm15 := (zFJ_at hFJ (fun j h1 h2 => (fr1 j (by omega))))
      have hm16 := (zWJ_at hWJ (fun j h1 h2 => (fr1 j (by omega))))
      have hm17 := (zq_OV_at hOV (fr1 452 (by decide)) (fr1 453 (by decide)))
      exact ih (x + 1) _ _ _ _ _ _ _ _ _ _ _ (by omega) hMd40 ⟨⟨_, _, hm2, (x_hw_at hhw (fun j hj hne => by have hj2 := x_some_lt hlt0 hne; exact (fr1 j (by omega))))⟩, hm3, hm4, hm5, hm6, ⟨_, ⟨_, _, _, _, _, _, _, _, _, _, hm7⟩, hco⟩, ⟨_, _, _, hm8, hm10⟩, hm11, hm12, ⟨_, hm13⟩, hm14, hs1_0, hm15, hm16, ⟨_, _, hm17, hovn, hovh⟩⟩ (JI_out hJI (fun z => z.2)) (by omega) (by omega) (by omega)
    · exact absurd (JI_N hJI) hn1
set_option maxHeartbeats 2000000 in
theorem zc_jl_6 {d n0 sl0 mi0 : Nat} {tpd : Nat} {tp : Nat → Nat} {lf : Nat} {made : Nat} {sv : Nat} {svm : Nat} {comb : Nat → Nat} {hm : Nat → MV} {sc : Nat → Nat} {sm : Nat → MV} {mh : MV} {sz : Nat} {bw : Nat → Nat} (hpv : ∀ i, x_pv2 (hm i)) (hI0 : ∀ x, x < 40 → zI0 hm x) (hI1 : ∀ x, x < 40 → zI1 hm x) (hI3 : ∀ x, x < 40 → zI3 hm x) (hcb : ∀ x, x < made → comb x = 0 ∨ comb x = 3 ∨ comb x = 5) (h486 : 486 ≤ n0) (hmi0 : mi0 + 300 ≤ 20000) (hMd40 : made ≤ 40) (k : Nat) : ∀ (x n sl mi noted verd : Nat) (ins ver : Nat → Nat) (φ : FH), x + k = made → made ≤ 40 → zG φ tpd tp lf mi made sv svm comb hm sc sm mh noted verd ins ver sz bw → JI (q6 made comb hm) x noted verd ins ver → (n0 ≤ n ∧ n ≤ n0 + 2 * x) → (sl0 ≤ sl ∧ sl ≤ sl0 + 14 * x) → (mi0 ≤ mi ∧ mi ≤ mi0 + 2 * x) → x_n x_P (d + 4) xc_67 4 [] [(6, 468, 0), (0, 2, 0), (0, x, 0)] φ n sl (x_bR n0 sl0 100 600 (fun zw φ2 => ∃ mi2 noted2 verd2 : Nat, ∃ ins2 ver2 : Nat → Nat, zw = (0, verd2, 0) ∧ mi2 ≤ mi0 + 100 ∧ JI (q6 made comb hm) made noted2 verd2 ins2 ver2 ∧ zG φ2 tpd tp lf mi2 made sv svm comb hm sc sm mh noted2 verd2 ins2 ver2 sz bw)) := by
  induction k with
  | zero =>
    intro x n sl mi noted verd ins ver φ  hk hMd40 hG hJI hnb hsb hmb
    have hxm : x = made := hk
    have hn0 : 486 ≤ n := by omega
    have hmi : mi + 100 ≤ 20000 := by omega
    have hG0 := hG
    obtain ⟨⟨hand, ie, hH, hhw⟩, hB, hTJ, hEJ, hN, hKJ, ⟨A, B, s9, hPS, hLK0⟩, hSP, hV5, ⟨slq, hSL⟩, hRW, hJ, hFJ, hWJ, ⟨ovn, ovh, hOV, hovn, hovh⟩⟩ := hG
    refine x_n_lt (fun hlt0 => ?_)
    have hmade := x_PS_lt hPS
    obtain ⟨co, ⟨top_, fr_, pc_, mm, st, lo, re, rs, fl, se, hKS⟩, hco⟩ := hKJ
    refine q_load (v := (0, x, 0)) (p2 := 5) rfl rfl rfl rfl ?_
    refine q_load (v := (6, 468, 0)) (p2 := 6) rfl rfl rfl rfl ?_
    refine q_getv (v := (6, 7, 0)) (p2 := 7) rfl hJ.1 (by decide) rfl rfl ?_
    refine q_getv (v := (0, made, 0)) (p2 := 8) rfl hPS.1.choose_spec.1 (by decide) hPS.1.choose_spec.2.2.2.1 rfl ?_
    refine q_icmp_s (p2 := 9) rfl (by decide) (by omega) (by omega) rfl (fun _ => ?_) (fun hb => absurd (show ¬ (x < made) by omega) hb)
    refine q_load (v := (6, 468, 0)) (p2 := 29) rfl rfl rfl rfl ?_
    refine q_getv (v := (0, verd, 0)) (p2 := 30) rfl hJ.1 (by decide) rfl rfl ?_
    exact q_retv (v := (0, verd, 0)) rfl rfl (⟨rfl, ⟨by omega, by omega⟩, ⟨by omega, by omega⟩, _, _, _, _, _, rfl, by omega, hxm ▸ hJI, ⟨⟨_, _, hH, hhw⟩, hB, hTJ, hEJ, hN, ⟨_, ⟨_, _, _, _, _, _, _, _, _, _, hKS⟩, hco⟩, ⟨_, _, _, hPS, hLK0⟩, hSP, hV5, ⟨_, hSL⟩, hRW, hJ, hFJ, hWJ, ⟨_, _, hOV, hovn, hovh⟩⟩⟩)
  | succ k ih =>
    intro x n sl mi noted verd ins ver φ  hk hMd40 hG hJI hnb hsb hmb
    have hn0 : 486 ≤ n := by omega
    have hmi : mi + 100 ≤ 20000 := by omega
    rcases JI_cases hJI with ⟨hn1, hn2⟩ | ⟨hn1, hn2⟩
    · subst hn1 hn2
      have hG0 := hG
      obtain ⟨⟨hand, ie, hH, hhw⟩, hB, hTJ, hEJ, hN, hKJ, ⟨A, B, s9, hPS, hLK0⟩, hSP, hV5, ⟨slq, hSL⟩, hRW, hJ, hFJ, hWJ, ⟨ovn, ovh, hOV, hovn, hovh⟩⟩ := hG
      refine x_n_lt (fun hlt0 => ?_)
      have hmade := x_PS_lt hPS
      obtain ⟨co, ⟨top_, fr_, pc_, mm, st, lo, re, rs, fl, se, hKS⟩, hco⟩ := hKJ
      refine q_load (v := (0, x, 0)) (p2 := 5) rfl rfl rfl rfl ?_
      refine q_load (v := (6, 468, 0)) (p2 := 6) rfl rfl rfl rfl ?_
      refine q_getv (v := (6, 7, 0)) (p2 := 7) rfl hJ.1 (by decide) rfl rfl ?_
      refine q_getv (v := (0, made, 0)) (p2 := 8) rfl hPS.1.choose_spec.1 (by decide) hPS.1.choose_spec.2.2.2.1 rfl ?_
      refine q_icmp_s (p2 := 9) rfl (by decide) (by omega) (by omega) rfl (fun hb => absurd hb (show ¬ (¬ (x < made)) by omega)) (fun _ => ?_)
      refine q_load (v := (6, 468, 0)) (p2 := 10) rfl rfl rfl rfl ?_
      refine q_getv (v := (6, 7, 0)) (p2 := 11) rfl hJ.1 (by decide) rfl rfl ?_
      refine q_load (v := (0, x, 0)) (p2 := 12) rfl rfl rfl rfl ?_
      refine q_load (v := (0, 2, 0)) (p2 := 13) rfl rfl rfl rfl ?_
      refine q_callr (xs := [(0, 2, 0), (0, x, 0), (6, 7, 0)]) (p2 := 14) rfl rfl rfl rfl (x_rcv_s 7 hPS.1.choose_spec.1) rfl (e_isA hPS.1.choose_spec hPS.2.1 (by omega) (by omega)) (Nat.le_refl _) (Nat.le_refl _) rfl ?_
      by_cases hb1 : x_isA made comb x 2
      · rw [if_pos hb1]
        refine q_if0_s (p2 := 15) rfl (by decide) (by omega) rfl (fun hb => absurd hb (show ¬ (1 = 0) by omega)) (fun _ => ?_)
        refine q_load (v := (6, 468, 0)) (p2 := 16) rfl rfl rfl rfl ?_
        refine q_load (v := (0, x, 0)) (p2 := 17) rfl rfl rfl rfl ?_
        refine q_load (v := (6, 468, 0)) (p2 := 18) rfl rfl rfl rfl ?_
        refine q_load (v := (0, x, 0)) (p2 := 19) rfl rfl rfl rfl ?_
        refine q_load (v := (0, 2, 0)) (p2 := 20) rfl rfl rfl rfl ?_
        refine q_callr (xs := [(0, 2, 0), (0, x, 0), (6, 468, 0)]) (p2 := 21) rfl rfl rfl rfl (x_rcv_s 468 hJ.1) rfl (zc_jb2 hPS hKS.2.2.2.2.2.2.2.2.2 hJ (by omega) (by omega) ) (Nat.le_refl _) (Nat.le_refl _) rfl ?_
        by_cases hb2 : (x_fl (fun y => comb y ≠ 0 ∧ x_ho (hm (y * 40 + 3)) x) made).length ≤ 1
        · rw [if_pos hb2]
          refine q_if0_s (p2 := 22) rfl (by decide) (by omega) rfl (fun hb => absurd hb (show ¬ (1 = 0) by omega)) (fun _ => ?_)
          refine q_const (p2 := 23) rfl rfl ?_
          refine q_goto rfl ?_
          refine q_callvE (xs := [(0, 1, 0), (0, x, 0), (6, 468, 0)]) (p2 := 26) rfl rfl rfl rfl (x_rcv_s 468 hJ.1) rfl (zc_j_note_11 hJ (by omega)) (Nat.le_refl _) (Nat.le_refl _) rfl (fun φ3 hR3 => ?_)
          obtain ⟨hs3_0, fr3⟩ := hR3
          refine q_iinc (z := x + 1) (loc2 := [(6, 468, 0), (0, 2, 0), (0, x + 1, 0)]) (p2 := 27) rfl rfl (Nat.mod_eq_of_lt (by omega)) rfl rfl ?_
          refine q_goto rfl ?_
          have hm4 := (zq_H_at hH (fr3 0 (by decide)))
          have hm5 := (zq_tp_at hB (fr3 1 (by decide)))
          have hm6 := (zTJ_at hTJ (fun j h1 h2 => (fr3 j (by omega))))
          have hm7 := (zEJ_at hEJ (fun j h1 h2 => (fr3 j (by omega))))
          have hm8 := (zq_nm_at hN (fr3 239 (by decide)) (fr3 242 (by decide)) (fr3 244 (by decide)))
          have hm9 := (x_KS_at2 hKS (fun j h1 h2 h3 h4 => (fr3 j (by omega))))
          refine x_n_lt (fun hlt11 => ?_)
          have hm10 := (x_PS_at hPS (fun j hj hne => by have hj2 := x_some_lt hlt0 hne; exact (fr3 j (by omega))))
          have hm12 := (x_LK_at2 hLK0 (fun j h1 h2 => (fr3 j (by omega))))
          have hm13 := (x_SP_at hSP (fun j hj hne => by have hj2 := x_some_lt hlt0 hne; exact (fr3 j (by omega))))
          have hm14 := (zq_V5_at hV5 (fr3 485 (by decide)))
          have hm15 := (zq_SL_at hSL (fr3 482 (by decide)))
          have hm16 := (zq_RW_at hRW (fr3 483 (by decide)))
          have hm17 := (zFJ_at hFJ (fun j h1 h2 => (fr3 j (by omega))))
          have hm18 := (zWJ_at hWJ (fun j h1 h2 => (fr3 j (by omega))))
          have hm19 := (zq_OV_at hOV (fr3 452 (by decide)) (fr3 453 (by decide)))
          exact ih (x + 1) _ _ _ _ _ _ _ _ (by omega) hMd40 ⟨⟨_, _, hm4, (x_hw_at hhw (fun j hj hne => by have hj2 := x_some_lt hlt0 hne; exact (fr3 j (by omega))))⟩, hm5, hm6, hm7, hm8, ⟨_, ⟨_, _, _, _, _, _, _, _, _, _, hm9⟩, hco⟩, ⟨_, _, _, hm10, hm12⟩, hm13, hm14, ⟨_, hm15⟩, hm16, hs3_0, hm17, hm18, ⟨_, _, hm19, hovn, hovh⟩⟩ (JI_out hJI (fun z => z.2 hb2)) (by omega) (by omega) (by omega)
        · rw [if_neg hb2]
          refine q_if0_s (p2 := 22) rfl (by decide) (by omega) rfl (fun _ => ?_) (fun hb => absurd (show 0 = 0 by omega) hb)
          refine q_const (p2 := 25) rfl rfl ?_
          refine q_callvE (xs := [(0, 0, 0), (0, x, 0), (6, 468, 0)]) (p2 := 26) rfl rfl rfl rfl (x_rcv_s 468 hJ.1) rfl (zc_j_note_10 hJ (by omega)) (Nat.le_refl _) (Nat.le_refl _) rfl (fun φ20 hR20 => ?_)
          obtain ⟨hs20_0, fr20⟩ := hR20
          refine q_iinc (z := x + 1) (loc2 := [(6, 468, 0), (0, 2, 0), (0, x + 1, 0)]) (p2 := 27) rfl rfl (Nat.mod_eq_of_lt (by omega)) rfl rfl ?_
          refine q_goto rfl ?_
          have hm21 := (zq_H_at hH (fr20 0 (by decide) (by decide) (by decide)))
          have hm22 := (zq_tp_at hB (fr20 1 (by decide) (by decide) (by decide)))
          have hm23 := (zTJ_at hTJ (fun j h1 h2 => (fr20 j (by omega) (by omega) (by omega))))
          have hm24 := (zEJ_at hEJ (fun j h1 h2 => (fr20 j (by omega) (by omega) (by omega))))
          have hm25 := (zq_nm_at hN (fr20 239 (by decide) (by decide) (by decide)) (fr20 242 (by decide) (by decide) (by decide)) (fr20 244 (by decide) (by decide) (by decide)))
          have hm26 := (x_KS_at2 hKS (fun j h1 h2 h3 h4 => (fr20 j (by omega) (by omega) (by omega))))
          refine x_n_lt (fun hlt28 => ?_)
          have hm27 := (x_PS_at hPS (fun j hj hne => by have hj2 := x_some_lt hlt0 hne; exact (fr20 j (by omega) (by omega) (by omega))))
          have hm29 := (x_LK_at2 hLK0 (fun j h1 h2 => (fr20 j (by omega) (by omega) (by omega))))
          have hm30 := (x_SP_at hSP (fun j hj hne => by have hj2 := x_some_lt hlt0 hne; exact (fr20 j (by omega) (by omega) (by omega))))
          have hm31 := (zq_V5_at hV5 (fr20 485 (by decide) (by decide) (by decide)))
          have hm32 := (zq_SL_at hSL (fr20 482 (by decide) (by decide) (by decide)))
          have hm33 := (zq_RW_at hRW (fr20 483 (by decide) (by decide) (by decide)))
          have hm34 := (zFJ_at hFJ (fun j h1 h2 => (fr20 j (by omega) (by omega) (by omega))))
          have hm35 := (zWJ_at hWJ (fun j h1 h2 => (fr20 j (by omega) (by omega) (by omega))))
          have hm36 := (zq_OV_at hOV (fr20 452 (by decide) (by decide) (by decide)) (fr20 453 (by decide) (by decide) (by decide)))
          exact ih (x + 1) _ _ _ _ _ _ _ _ (by omega) hMd40 ⟨⟨_, _, hm21, (x_hw_at hhw (fun j hj hne => by have hj2 := x_some_lt hlt0 hne; exact (fr20 j (by omega) (by omega) (by omega))))⟩, hm22, hm23, hm24, hm25, ⟨_, ⟨_, _, _, _, _, _, _, _, _, _, hm26⟩, hco⟩, ⟨_, _, _, hm27, hm29⟩, hm30, hm31, ⟨_, hm32⟩, hm33, hs20_0, hm34, hm35, ⟨_, _, hm36, hovn, hovh⟩⟩ (JI_in hJI ⟨hb1, hb2⟩) (by omega) (by omega) (by omega)
      · rw [if_neg hb1]
        refine q_if0_s (p2 := 15) rfl (by decide) (by omega) rfl (fun _ => ?_) (fun hb => absurd (show 0 = 0 by omega) hb)
        refine q_iinc (z := x + 1) (loc2 := [(6, 468, 0), (0, 2, 0), (0, x + 1, 0)]) (p2 := 27) rfl rfl (Nat.mod_eq_of_lt (by omega)) rfl rfl ?_
        refine q_goto rfl ?_
        exact ih (x + 1) _ _ _ _ _ _ _ _ (by omega) hMd40 ⟨⟨_, _, hH, hhw⟩, hB, hTJ, hEJ, hN, ⟨_, ⟨_, _, _, _, _, _, _, _, _, _, hKS⟩, hco⟩, ⟨_, _, _, hPS, hLK0⟩, hSP, hV5, ⟨_, hSL⟩, hRW, hJ, hFJ, hWJ, ⟨_, _, hOV, hovn, hovh⟩⟩ (JI_out hJI (fun z => hb1 z.1)) (by omega) (by omega) (by omega)
    · subst hn2
      have hnle := JI_le hJI
      have hG0 := hG
      obtain ⟨⟨hand, ie, hH, hhw⟩, hB, hTJ, hEJ, hN, hKJ, ⟨A, B, s9, hPS, hLK0⟩, hSP, hV5, ⟨slq, hSL⟩, hRW, hJ, hFJ, hWJ, ⟨ovn, ovh, hOV, hovn, hovh⟩⟩ := hG
      refine x_n_lt (fun hlt0 => ?_)
      have hmade := x_PS_lt hPS
      obtain ⟨co, ⟨top_, fr_, pc_, mm, st, lo, re, rs, fl, se, hKS⟩, hco⟩ := hKJ
      refine q_load (v := (0, x, 0)) (p2 := 5) rfl rfl rfl rfl ?_
      refine q_load (v := (6, 468, 0)) (p2 := 6) rfl rfl rfl rfl ?_
      refine q_getv (v := (6, 7, 0)) (p2 := 7) rfl hJ.1 (by decide) rfl rfl ?_
      refine q_getv (v := (0, made, 0)) (p2 := 8) rfl hPS.1.choose_spec.1 (by decide) hPS.1.choose_spec.2.2.2.1 rfl ?_
      refine q_icmp_s (p2 := 9) rfl (by decide) (by omega) (by omega) rfl (fun hb => absurd hb (show ¬ (¬ (x < made)) by omega)) (fun _ => ?_)
      refine q_load (v := (6, 468, 0)) (p2 := 10) rfl rfl rfl rfl ?_
      refine q_getv (v := (6, 7, 0)) (p2 := 11) rfl hJ.1 (by decide) rfl rfl ?_
      refine q_load (v := (0, x, 0)) (p2 := 12) rfl rfl rfl rfl ?_
      refine q_load (v := (0, 2, 0)) (p2 := 13) rfl rfl rfl rfl ?_
      refine q_callr (xs := [(0, 2, 0), (0, x, 0), (6, 7, 0)]) (p2 := 14) rfl rfl rfl rfl (x_rcv_s 7 hPS.1.choose_spec.1) rfl (e_isA hPS.1.choose_spec hPS.2.1 (by omega) (by omega)) (Nat.le_refl _) (Nat.le_refl _) rfl ?_
      by_cases hb1 : x_isA made comb x 2
      · rw [if_pos hb1]
        refine q_if0_s (p2 := 15) rfl (by decide) (by omega) rfl (fun hb => absurd hb (show ¬ (1 = 0) by omega)) (fun _ => ?_)
        refine q_load (v := (6, 468, 0)) (p2 := 16) rfl rfl rfl rfl ?_
        refine q_load (v := (0, x, 0)) (p2 := 17) rfl rfl rfl rfl ?_
        refine q_load (v := (6, 468, 0)) (p2 := 18) rfl rfl rfl rfl ?_
        refine q_load (v := (0, x, 0)) (p2 := 19) rfl rfl rfl rfl ?_
        refine q_load (v := (0, 2, 0)) (p2 := 20) rfl rfl rfl rfl ?_
        refine q_callr (xs := [(0, 2, 0), (0, x, 0), (6, 468, 0)]) (p2 := 21) rfl rfl rfl rfl (x_rcv_s 468 hJ.1) rfl (zc_jb2 hPS hKS.2.2.2.2.2.2.2.2.2 hJ (by omega) (by omega) ) (Nat.le_refl _) (Nat.le_refl _) rfl ?_
        by_cases hb2 : (x_fl (fun y => comb y ≠ 0 ∧ x_ho (hm (y * 40 + 3)) x) made).length ≤ 1
        · rw [if_pos hb2]
          refine q_if0_s (p2 := 22) rfl (by decide) (by omega) rfl (fun hb => absurd hb (show ¬ (1 = 0) by omega)) (fun _ => ?_)
          refine q_const (p2 := 23) rfl rfl ?_
          refine q_goto rfl ?_
          refine q_callvE (xs := [(0, 1, 0), (0, x, 0), (6, 468, 0)]) (p2 := 26) rfl rfl rfl rfl (x_rcv_s 468 hJ.1) rfl (zc_j_note_01 hJ (by omega)) (Nat.le_refl _) (Nat.le_refl _) rfl (fun φ3 hR3 => ?_)
          obtain ⟨hs3_0, fr3⟩ := hR3
          refine q_iinc (z := x + 1) (loc2 := [(6, 468, 0), (0, 2, 0), (0, x + 1, 0)]) (p2 := 27) rfl rfl (Nat.mod_eq_of_lt (by omega)) rfl rfl ?_
          refine q_goto rfl ?_
          have hm4 := (zq_H_at hH (fr3 0 (by decide)))
          have hm5 := (zq_tp_at hB (fr3 1 (by decide)))
          have hm6 := (zTJ_at hTJ (fun j h1 h2 => (fr3 j (by omega))))
          have hm7 := (zEJ_at hEJ (fun j h1 h2 => (fr3 j (by omega))))
          have hm8 := (zq_nm_at hN (fr3 239 (by decide)) (fr3 242 (by decide)) (fr3 244 (by decide)))
          have hm9 := (x_KS_at2 hKS (fun j h1 h2 h3 h4 => (fr3 j (by omega))))
          refine x_n_lt (fun hlt11 => ?_)
          have hm10 := (x_PS_at hPS (fun j hj hne => by have hj2 := x_some_lt hlt0 hne; exact (fr3 j (by omega))))
          have hm12 := (x_LK_at2 hLK0 (fun j h1 h2 => (fr3 j (by omega))))
          have hm13 := (x_SP_at hSP (fun j hj hne => by have hj2 := x_some_lt hlt0 hne; exact (fr3 j (by omega))))
          have hm14 := (zq_V5_at hV5 (fr3 485 (by decide)))
          have hm15 := (zq_SL_at hSL (fr3 482 (by decide)))
          have hm16 := (zq_RW_at hRW (fr3 483 (by decide)))
          have hm17 := (zFJ_at hFJ (fun j h1 h2 => (fr3 j (by omega))))
          have hm18 := (zWJ_at hWJ (fun j h1 h2 => (fr3 j (by omega))))
          have hm19 := (zq_OV_at hOV (fr3 452 (by decide)) (fr3 453 (by decide)))
          exact ih (x + 1) _ _ _ _ _ _ _ _ (by omega) hMd40 ⟨⟨_, _, hm4, (x_hw_at hhw (fun j hj hne => by have hj2 := x_some_lt hlt0 hne; exact (fr3 j (by omega))))⟩, hm5, hm6, hm7, hm8, ⟨_, ⟨_, _, _, _, _, _, _, _, _, _, hm9⟩, hco⟩, ⟨_, _, _, hm10, hm12⟩, hm13, hm14, ⟨_, hm15⟩, hm16, hs3_0, hm17, hm18, ⟨_, _, hm19, hovn, hovh⟩⟩ (JI_out hJI (fun z => z.2 hb2)) (by omega) (by omega) (by omega)
        · rw [if_neg hb2]
          refine q_if0_s (p2 := 22) rfl (by decide) (by omega) rfl (fun _ => ?_) (fun hb => absurd (show 0 = 0 by omega) hb)
          refine q_const (p2 := 25) rfl rfl ?_
          refine q_callvE (xs := [(0, 0, 0), (0, x, 0), (6, 468, 0)]) (p2 := 26) rfl rfl rfl rfl (x_rcv_s 468 hJ.1) rfl (zc_j_note_00 hJ (by omega)) (Nat.le_refl _) (Nat.le_refl _) rfl (fun φ20 hR20 => ?_)
          obtain ⟨hs20_0, fr20⟩ := hR20
          refine q_iinc (z := x + 1) (loc2 := [(6, 468, 0), (0, 2, 0), (0, x + 1, 0)]) (p2 := 27) rfl rfl (Nat.mod_eq_of_lt (by omega)) rfl rfl ?_
          refine q_goto rfl ?_
          have hm21 := (zq_H_at hH (fr20 0 (by decide) (by decide) (by decide)))
          have hm22 := (zq_tp_at hB (fr20 1 (by decide) (by decide) (by decide)))
          have hm23 := (zTJ_at hTJ (fun j h1 h2 => (fr20 j (by omega) (by omega) (by omega))))
          have hm24 := (zEJ_at hEJ (fun j h1 h2 => (fr20 j (by omega) (by omega) (by omega))))
          have hm25 := (zq_nm_at hN (fr20 239 (by decide) (by decide) (by decide)) (fr20 242 (by decide) (by decide) (by decide)) (fr20 244 (by decide) (by decide) (by decide)))
          have hm26 := (x_KS_at2 hKS (fun j h1 h2 h3 h4 => (fr20 j (by omega) (by omega) (by omega))))
          refine x_n_lt (fun hlt28 => ?_)
          have hm27 := (x_PS_at hPS (fun j hj hne => by have hj2 := x_some_lt hlt0 hne; exact (fr20 j (by omega) (by omega) (by omega))))
          have hm29 := (x_LK_at2 hLK0 (fun j h1 h2 => (fr20 j (by omega) (by omega) (by omega))))
          have hm30 := (x_SP_at hSP (fun j hj hne => by have hj2 := x_some_lt hlt0 hne; exact (fr20 j (by omega) (by omega) (by omega))))
          have hm31 := (zq_V5_at hV5 (fr20 485 (by decide) (by decide) (by decide)))
          have hm32 := (zq_SL_at hSL (fr20 482 (by decide) (by decide) (by decide)))
          have hm33 := (zq_RW_at hRW (fr20 483 (by decide) (by decide) (by decide)))
          have hm34 := (zFJ_at hFJ (fun j h1 h2 => (fr20 j (by omega) (by omega) (by omega))))
          have hm35 := (zWJ_at hWJ (fun j h1 h2 => (fr20 j (by omega) (by omega) (by omega))))
          have hm36 := (zq_OV_at hOV (fr20 452 (by decide) (by decide) (by decide)) (fr20 453 (by decide) (by decide) (by decide)))
          exact ih (x + 1) _ _ _ _ _ _ _ _ (by omega) hMd40 ⟨⟨_, _, hm21, (x_hw_at hhw (fun j hj hne => by have hj2 := x_some_lt hlt0 hne; exact (fr20 j (by omega) (by omega) (by omega))))⟩, hm22, hm23, hm24, hm25, ⟨_, ⟨_, _, _, _, _, _, _, _, _, _, hm26⟩, hco⟩, ⟨_, _, _, hm27, hm29⟩, hm30, hm31, ⟨_, hm32⟩, hm33, hs20_0, hm34, hm35, ⟨_, _, hm36, hovn, hovh⟩⟩ (JI_in hJI ⟨hb1, hb2⟩) (by omega) (by omega) (by omega)
      · rw [if_neg hb1]
        refine q_if0_s (p2 := 15) rfl (by decide) (by omega) rfl (fun _ => ?_) (fun hb => absurd (show 0 = 0 by omega) hb)
        refine q_iinc (z := x + 1) (loc2 := [(6, 468, 0), (0, 2, 0), (0, x + 1, 0)]) (p2 := 27) rfl rfl (Nat.mod_eq_of_lt (by omega)) rfl rfl ?_
        refine q_goto rfl ?_
        exact ih (x + 1) _ _ _ _ _ _ _ _ (by omega) hMd40 ⟨⟨_, _, hH, hhw⟩, hB, hTJ, hEJ, hN, ⟨_, ⟨_, _, _, _, _, _, _, _, _, _, hKS⟩, hco⟩, ⟨_, _, _, hPS, hLK0⟩, hSP, hV5, ⟨_, hSL⟩, hRW, hJ, hFJ, hWJ, ⟨_, _, hOV, hovn, hovh⟩⟩ (JI_out hJI (fun z => hb1 z.1)) (by omega) (by omega) (by omega)
set_option maxHeartbeats 2000000 in
theorem zc_jl_7 {d n0 sl0 mi0 : Nat} {tpd : Nat} {tp : Nat → Nat} {lf : Nat} {made : Nat} {sv : Nat} {svm : Nat} {comb : Nat → Nat} {hm : Nat → MV} {sc : Nat → Nat} {sm : Nat → MV} {mh : MV} {sz : Nat} {bw : Nat → Nat} (hpv : ∀ i, x_pv2 (hm i)) (hI0 : ∀ x, x < 40 → zI0 hm x) (hI1 : ∀ x, x < 40 → zI1 hm x) (hI3 : ∀ x, x < 40 → zI3 hm x) (hcb : ∀ x, x < made → comb x = 0 ∨ comb x = 3 ∨ comb x = 5) (h486 : 486 ≤ n0) (hmi0 : mi0 + 300 ≤ 20000) (hMd40 : made ≤ 40) (k : Nat) : ∀ (x n sl mi noted verd : Nat) (ins ver : Nat → Nat) (φ : FH), x + k = made → made ≤ 40 → zG φ tpd tp lf mi made sv svm comb hm sc sm mh noted verd ins ver sz bw → JI (qN made comb hm) x noted verd ins ver → (n0 ≤ n ∧ n ≤ n0 + 2 * x) → (sl0 ≤ sl ∧ sl ≤ sl0 + 14 * x) → (mi0 ≤ mi ∧ mi ≤ mi0 + 2 * x) → x_n x_P (d + 3) xc_68 4 [] [(6, 468, 0), (0, 2, 0), (0, x, 0)] φ n sl (x_bR n0 sl0 100 600 (fun zw φ2 => ∃ mi2 noted2 verd2 : Nat, ∃ ins2 ver2 : Nat → Nat, zw = (0, verd2, 0) ∧ mi2 ≤ mi0 + 100 ∧ JI (qN made comb hm) made noted2 verd2 ins2 ver2 ∧ zG φ2 tpd tp lf mi2 made sv svm comb hm sc sm mh noted2 verd2 ins2 ver2 sz bw)) := by
  induction k with
  | zero =>
    intro x n sl mi noted verd ins ver φ  hk hMd40 hG hJI hnb hsb hmb
    have hxm : x = made := hk
    have hn0 : 486 ≤ n := by omega
    have hmi : mi + 100 ≤ 20000 := by omega
    have hG0 := hG
    obtain ⟨⟨hand, ie, hH, hhw⟩, hB, hTJ, hEJ, hN, hKJ, ⟨A, B, s9, hPS, hLK0⟩, hSP, hV5, ⟨slq, hSL⟩, hRW, hJ, hFJ, hWJ, ⟨ovn, ovh, hOV, hovn, hovh⟩⟩ := hG
    refine x_n_lt (fun hlt0 => ?_)
    have hmade := x_PS_lt hPS
    obtain ⟨co, ⟨top_, fr_, pc_, mm, st, lo, re, rs, fl, se, hKS⟩, hco⟩ := hKJ
    refine q_load (v := (0, x, 0)) (p2 := 5) rfl rfl rfl rfl ?_
    refine q_load (v := (6, 468, 0)) (p2 := 6) rfl rfl rfl rfl ?_
    refine q_getv (v := (6, 7, 0)) (p2 := 7) rfl hJ.1 (by decide) rfl rfl ?_
    refine q_getv (v := (0, made, 0)) (p2 := 8) rfl hPS.1.choose_spec.1 (by decide) hPS.1.choose_spec.2.2.2.1 rfl ?_
    refine q_icmp_s (p2 := 9) rfl (by decide) (by omega) (by omega) rfl (fun _ => ?_) (fun hb => absurd (show ¬ (x < made) by omega) hb)
    refine q_load (v := (6, 468, 0)) (p2 := 29) rfl rfl rfl rfl ?_
    refine q_getv (v := (0, verd, 0)) (p2 := 30) rfl hJ.1 (by decide) rfl rfl ?_
    exact q_retv (v := (0, verd, 0)) rfl rfl (⟨rfl, ⟨by omega, by omega⟩, ⟨by omega, by omega⟩, _, _, _, _, _, rfl, by omega, hxm ▸ hJI, ⟨⟨_, _, hH, hhw⟩, hB, hTJ, hEJ, hN, ⟨_, ⟨_, _, _, _, _, _, _, _, _, _, hKS⟩, hco⟩, ⟨_, _, _, hPS, hLK0⟩, hSP, hV5, ⟨_, hSL⟩, hRW, hJ, hFJ, hWJ, ⟨_, _, hOV, hovn, hovh⟩⟩⟩)
  | succ k ih =>
    intro x n sl mi noted verd ins ver φ  hk hMd40 hG hJI hnb hsb hmb
    have hn0 : 486 ≤ n := by omega
    have hmi : mi + 100 ≤ 20000 := by omega
    rcases JI_cases hJI with ⟨hn1, hn2⟩ | ⟨hn1, hn2⟩
    · subst hn1 hn2
      have hG0 := hG
      obtain ⟨⟨hand, ie, hH, hhw⟩, hB, hTJ, hEJ, hN, hKJ, ⟨A, B, s9, hPS, hLK0⟩, hSP, hV5, ⟨slq, hSL⟩, hRW, hJ, hFJ, hWJ, ⟨ovn, ovh, hOV, hovn, hovh⟩⟩ := hG
      refine x_n_lt (fun hlt0 => ?_)
      have hmade := x_PS_lt hPS
      obtain ⟨co, ⟨top_, fr_, pc_, mm, st, lo, re, rs, fl, se, hKS⟩, hco⟩ := hKJ
      refine q_load (v := (0, x, 0)) (p2 := 5) rfl rfl rfl rfl ?_
      refine q_load (v := (6, 468, 0)) (p2 := 6) rfl rfl rfl rfl ?_
      refine q_getv (v := (6, 7, 0)) (p2 := 7) rfl hJ.1 (by decide) rfl rfl ?_
      refine q_getv (v := (0, made, 0)) (p2 := 8) rfl hPS.1.choose_spec.1 (by decide) hPS.1.choose_spec.2.2.2.1 rfl ?_
      refine q_icmp_s (p2 := 9) rfl (by decide) (by omega) (by omega) rfl (fun hb => absurd hb (show ¬ (¬ (x < made)) by omega)) (fun _ => ?_)
      refine q_load (v := (6, 468, 0)) (p2 := 10) rfl rfl rfl rfl ?_
      refine q_getv (v := (6, 7, 0)) (p2 := 11) rfl hJ.1 (by decide) rfl rfl ?_
      refine q_load (v := (0, x, 0)) (p2 := 12) rfl rfl rfl rfl ?_
      refine q_load (v := (0, 2, 0)) (p2 := 13) rfl rfl rfl rfl ?_
      refine q_callr (xs := [(0, 2, 0), (0, x, 0), (6, 7, 0)]) (p2 := 14) rfl rfl rfl rfl (x_rcv_s 7 hPS.1.choose_spec.1) rfl (e_isA hPS.1.choose_spec hPS.2.1 (by omega) (by omega)) (Nat.le_refl _) (Nat.le_refl _) rfl ?_
      by_cases hb1 : x_isA made comb x 2
      · rw [if_pos hb1]
        refine q_if0_s (p2 := 15) rfl (by decide) (by omega) rfl (fun hb => absurd hb (show ¬ (1 = 0) by omega)) (fun _ => ?_)
        refine q_load (v := (6, 468, 0)) (p2 := 16) rfl rfl rfl rfl ?_
        refine q_load (v := (0, x, 0)) (p2 := 17) rfl rfl rfl rfl ?_
        refine q_load (v := (6, 468, 0)) (p2 := 18) rfl rfl rfl rfl ?_
        refine q_load (v := (0, x, 0)) (p2 := 19) rfl rfl rfl rfl ?_
        refine q_load (v := (0, 2, 0)) (p2 := 20) rfl rfl rfl rfl ?_
        refine q_callr (xs := [(0, 2, 0), (0, x, 0), (6, 468, 0)]) (p2 := 21) rfl rfl rfl rfl (x_rcv_s 468 hJ.1) rfl (zc_iu2 hPS hKS.2.2.2.2.2.2.2.2.2 hJ (by omega) (by omega)) (Nat.le_refl _) (Nat.le_refl _) rfl ?_
        refine q_if0_s (p2 := 22) rfl (by decide) (by omega) rfl (fun hb => absurd hb (show ¬ (1 = 0) by omega)) (fun _ => ?_)
        refine q_const (p2 := 23) rfl rfl ?_
        refine q_goto rfl ?_
        refine q_callvE (xs := [(0, 1, 0), (0, x, 0), (6, 468, 0)]) (p2 := 26) rfl rfl rfl rfl (x_rcv_s 468 hJ.1) rfl (zc_j_note_11 hJ (by omega)) (Nat.le_refl _) (Nat.le_refl _) rfl (fun φ2 hR2 => ?_)
        obtain ⟨hs2_0, fr2⟩ := hR2
        refine q_iinc (z := x + 1) (loc2 := [(6, 468, 0), (0, 2, 0), (0, x + 1, 0)]) (p2 := 27) rfl rfl (Nat.mod_eq_of_lt (by omega)) rfl rfl ?_
        refine q_goto rfl ?_
        have hm3 := (zq_H_at hH (fr2 0 (by decide)))
        have hm4 := (zq_tp_at hB (fr2 1 (by decide)))
        have hm5 := (zTJ_at hTJ (fun j h1 h2 => (fr2 j (by omega))))
        have hm6 := (zEJ_at hEJ (fun j h1 h2 => (fr2 j (by omega))))
        have hm7 := (zq_nm_at hN (fr2 239 (by decide)) (fr2 242 (by decide)) (fr2 244 (by decide)))
        have hm8 := (x_KS_at2 hKS (fun j h1 h2 h3 h4 => (fr2 j (by omega))))
        refine x_n_lt (fun hlt10 => ?_)
        have hm9 := (x_PS_at hPS (fun j hj hne => by have hj2 := x_some_lt hlt0 hne; exact (fr2 j (by omega))))
        have hm11 := (x_LK_at2 hLK0 (fun j h1 h2 => (fr2 j (by omega))))
        have hm12 := (x_SP_at hSP (fun j hj hne => by have hj2 := x_some_lt hlt0 hne; exact (fr2 j (by omega))))
        have hm13 := (zq_V5_at hV5 (fr2 485 (by decide)))
        have hm14 := (zq_SL_at hSL (fr2 482 (by decide)))
        have hm15 := (zq_RW_at hRW (fr2 483 (by decide)))
        have hm16 := (zFJ_at hFJ (fun j h1 h2 => (fr2 j (by omega))))
        have hm17 := (zWJ_at hWJ (fun j h1 h2 => (fr2 j (by omega))))
        have hm18 := (zq_OV_at hOV (fr2 452 (by decide)) (fr2 453 (by decide)))
        exact ih (x + 1) _ _ _ _ _ _ _ _ (by omega) hMd40 ⟨⟨_, _, hm3, (x_hw_at hhw (fun j hj hne => by have hj2 := x_some_lt hlt0 hne; exact (fr2 j (by omega))))⟩, hm4, hm5, hm6, hm7, ⟨_, ⟨_, _, _, _, _, _, _, _, _, _, hm8⟩, hco⟩, ⟨_, _, _, hm9, hm11⟩, hm12, hm13, ⟨_, hm14⟩, hm15, hs2_0, hm16, hm17, ⟨_, _, hm18, hovn, hovh⟩⟩ (JI_out hJI (fun z => z.2)) (by omega) (by omega) (by omega)
      · rw [if_neg hb1]
        refine q_if0_s (p2 := 15) rfl (by decide) (by omega) rfl (fun _ => ?_) (fun hb => absurd (show 0 = 0 by omega) hb)
        refine q_iinc (z := x + 1) (loc2 := [(6, 468, 0), (0, 2, 0), (0, x + 1, 0)]) (p2 := 27) rfl rfl (Nat.mod_eq_of_lt (by omega)) rfl rfl ?_
        refine q_goto rfl ?_
        exact ih (x + 1) _ _ _ _ _ _ _ _ (by omega) hMd40 ⟨⟨_, _, hH, hhw⟩, hB, hTJ, hEJ, hN, ⟨_, ⟨_, _, _, _, _, _, _, _, _, _, hKS⟩, hco⟩, ⟨_, _, _, hPS, hLK0⟩, hSP, hV5, ⟨_, hSL⟩, hRW, hJ, hFJ, hWJ, ⟨_, _, hOV, hovn, hovh⟩⟩ (JI_out hJI (fun z => z.2)) (by omega) (by omega) (by omega)
    · exact absurd (JI_N hJI) hn1
set_option maxHeartbeats 2000000 in
theorem zc_jl_8 {d n0 sl0 mi0 : Nat} {tpd : Nat} {tp : Nat → Nat} {lf : Nat} {made : Nat} {sv : Nat} {svm : Nat} {comb : Nat → Nat} {hm : Nat → MV} {sc : Nat → Nat} {sm : Nat → MV} {mh : MV} {sz : Nat} {bw : Nat → Nat} (hpv : ∀ i, x_pv2 (hm i)) (hI0 : ∀ x, x < 40 → zI0 hm x) (hI1 : ∀ x, x < 40 → zI1 hm x) (hI3 : ∀ x, x < 40 → zI3 hm x) (hcb : ∀ x, x < made → comb x = 0 ∨ comb x = 3 ∨ comb x = 5) (h486 : 486 ≤ n0) (hmi0 : mi0 + 300 ≤ 20000) (hMd40 : made ≤ 40) (k : Nat) : ∀ (x n sl mi noted verd : Nat) (ins ver : Nat → Nat) (φ : FH) (q3 q4 q5 : XV), x + k = made → made ≤ 40 → zG φ tpd tp lf mi made sv svm comb hm sc sm mh noted verd ins ver sz bw → JI (q8 made comb hm) x noted verd ins ver → (n0 ≤ n ∧ n ≤ n0 + 2 * x) → (sl0 ≤ sl ∧ sl ≤ sl0 + 14 * x) → (mi0 ≤ mi ∧ mi ≤ mi0 + 2 * x) → x_n x_P (d + 6) xc_69 4 [] [(6, 468, 0), (0, 2, 0), (0, x, 0), q3, q4, q5] φ n sl (x_bR n0 sl0 100 600 (fun zw φ2 => ∃ mi2 noted2 verd2 : Nat, ∃ ins2 ver2 : Nat → Nat, zw = (0, verd2, 0) ∧ mi2 ≤ mi0 + 100 ∧ JI (q8 made comb hm) made noted2 verd2 ins2 ver2 ∧ zG φ2 tpd tp lf mi2 made sv svm comb hm sc sm mh noted2 verd2 ins2 ver2 sz bw)) := by
  induction k with
  | zero =>
    intro x n sl mi noted verd ins ver φ q3 q4 q5 hk hMd40 hG hJI hnb hsb hmb
    have hxm : x = made := hk
    have hn0 : 486 ≤ n := by omega
    have hmi : mi + 100 ≤ 20000 := by omega
    have hG0 := hG
    obtain ⟨⟨hand, ie, hH, hhw⟩, hB, hTJ, hEJ, hN, hKJ, ⟨A, B, s9, hPS, hLK0⟩, hSP, hV5, ⟨slq, hSL⟩, hRW, hJ, hFJ, hWJ, ⟨ovn, ovh, hOV, hovn, hovh⟩⟩ := hG
    refine x_n_lt (fun hlt0 => ?_)
    have hmade := x_PS_lt hPS
    obtain ⟨co, ⟨top_, fr_, pc_, mm, st, lo, re, rs, fl, se, hKS⟩, hco⟩ := hKJ
    refine q_load (v := (0, x, 0)) (p2 := 5) rfl rfl rfl rfl ?_
    refine q_load (v := (6, 468, 0)) (p2 := 6) rfl rfl rfl rfl ?_
    refine q_getv (v := (6, 7, 0)) (p2 := 7) rfl hJ.1 (by decide) rfl rfl ?_
    refine q_getv (v := (0, made, 0)) (p2 := 8) rfl hPS.1.choose_spec.1 (by decide) hPS.1.choose_spec.2.2.2.1 rfl ?_
    refine q_icmp_s (p2 := 9) rfl (by decide) (by omega) (by omega) rfl (fun _ => ?_) (fun hb => absurd (show ¬ (x < made) by omega) hb)
    refine q_load (v := (6, 468, 0)) (p2 := 58) rfl rfl rfl rfl ?_
    refine q_getv (v := (0, verd, 0)) (p2 := 59) rfl hJ.1 (by decide) rfl rfl ?_
    exact q_retv (v := (0, verd, 0)) rfl rfl (⟨rfl, ⟨by omega, by omega⟩, ⟨by omega, by omega⟩, _, _, _, _, _, rfl, by omega, hxm ▸ hJI, ⟨⟨_, _, hH, hhw⟩, hB, hTJ, hEJ, hN, ⟨_, ⟨_, _, _, _, _, _, _, _, _, _, hKS⟩, hco⟩, ⟨_, _, _, hPS, hLK0⟩, hSP, hV5, ⟨_, hSL⟩, hRW, hJ, hFJ, hWJ, ⟨_, _, hOV, hovn, hovh⟩⟩⟩)
  | succ k ih =>
    intro x n sl mi noted verd ins ver φ q3 q4 q5 hk hMd40 hG hJI hnb hsb hmb
    have hn0 : 486 ≤ n := by omega
    have hmi : mi + 100 ≤ 20000 := by omega
    rcases JI_cases hJI with ⟨hn1, hn2⟩ | ⟨hn1, hn2⟩
    · subst hn1 hn2
      by_cases hz : (hm (x * 40 + 0)).1 = 0
      · skip
        have hG0 := hG
        obtain ⟨⟨hand, ie, hH, hhw⟩, hB, hTJ, hEJ, hN, hKJ, ⟨A, B, s9, hPS, hLK0⟩, hSP, hV5, ⟨slq, hSL⟩, hRW, hJ, hFJ, hWJ, ⟨ovn, ovh, hOV, hovn, hovh⟩⟩ := hG
        refine x_n_lt (fun hlt0 => ?_)
        have hmade := x_PS_lt hPS
        obtain ⟨co, ⟨top_, fr_, pc_, mm, st, lo, re, rs, fl, se, hKS⟩, hco⟩ := hKJ
        refine q_load (v := (0, x, 0)) (p2 := 5) rfl rfl rfl rfl ?_
        refine q_load (v := (6, 468, 0)) (p2 := 6) rfl rfl rfl rfl ?_
        refine q_getv (v := (6, 7, 0)) (p2 := 7) rfl hJ.1 (by decide) rfl rfl ?_
        refine q_getv (v := (0, made, 0)) (p2 := 8) rfl hPS.1.choose_spec.1 (by decide) hPS.1.choose_spec.2.2.2.1 rfl ?_
        refine q_icmp_s (p2 := 9) rfl (by decide) (by omega) (by omega) rfl (fun hb => absurd hb (show ¬ (¬ (x < made)) by omega)) (fun _ => ?_)
        refine q_const (p2 := 10) rfl rfl ?_
        refine q_store (loc2 := [(6, 468, 0), (0, 2, 0), (0, x, 0), (0, 1, 0), q4, q5]) (p2 := 11) rfl rfl rfl rfl rfl ?_
        refine q_const (p2 := 12) rfl rfl ?_
        refine q_store (loc2 := [(6, 468, 0), (0, 2, 0), (0, x, 0), (0, 1, 0), (0, 0, 0), q5]) (p2 := 13) rfl rfl rfl rfl rfl ?_
        refine q_load (v := (0, 0, 0)) (p2 := 14) rfl rfl rfl rfl ?_
        refine q_load (v := (6, 468, 0)) (p2 := 15) rfl rfl rfl rfl ?_
        refine q_getv (v := (6, 7, 0)) (p2 := 16) rfl hJ.1 (by decide) rfl rfl ?_
        refine q_getv (v := (6, 237, 0)) (p2 := 17) rfl hPS.1.choose_spec.1 (by decide) hPS.1.choose_spec.2.1 rfl ?_
        refine q_getv (v := (6, 448, 0)) (p2 := 18) rfl hKS.2.2.2.2.2.2.2.2.2.1.choose_spec.1 (by decide) hKS.2.2.2.2.2.2.2.2.2.1.choose_spec.2.2.2.2.2.2.2.2.2.2.2.1 rfl ?_
        refine q_load (v := (0, 2, 0)) (p2 := 19) rfl rfl rfl rfl ?_
        refine q_aldv (v := (0, 1, 0)) (p2 := 20) rfl (x_sc_448 hKS.2.2.2.2.2.2.2.2.2) (by omega) (by omega) rfl rfl ?_
        refine q_icmp_s (p2 := 21) rfl (by decide) (by omega) (by omega) rfl (fun hb => absurd hb (show ¬ (¬ (0 < 1)) by omega)) (fun _ => ?_)
        refine q_load (v := (6, 468, 0)) (p2 := 22) rfl rfl rfl rfl ?_
        refine q_getv (v := (6, 7, 0)) (p2 := 23) rfl hJ.1 (by decide) rfl rfl ?_
        refine q_load (v := (0, x, 0)) (p2 := 24) rfl rfl rfl rfl ?_
        refine q_load (v := (0, 2, 0)) (p2 := 25) rfl rfl rfl rfl ?_
        refine q_callr (xs := [(0, 2, 0), (0, x, 0), (6, 7, 0)]) (p2 := 26) rfl rfl rfl rfl (x_rcv_s 7 hPS.1.choose_spec.1) rfl (e_isA hPS.1.choose_spec hPS.2.1 (by omega) (by omega)) (Nat.le_refl _) (Nat.le_refl _) rfl ?_
        by_cases hb1 : x_isA made comb x 2
        · rw [if_pos hb1]
          refine q_if0_s (p2 := 27) rfl (by decide) (by omega) rfl (fun hb => absurd hb (show ¬ (1 = 0) by omega)) (fun _ => ?_)
          refine q_load (v := (6, 468, 0)) (p2 := 28) rfl rfl rfl rfl ?_
          refine q_getv (v := (6, 455, 0)) (p2 := 29) rfl hJ.1 (by decide) rfl rfl ?_
          refine q_load (v := (6, 468, 0)) (p2 := 30) rfl rfl rfl rfl ?_
          refine q_getv (v := (6, 7, 0)) (p2 := 31) rfl hJ.1 (by decide) rfl rfl ?_
          refine q_getv (v := (6, 237, 0)) (p2 := 32) rfl hPS.1.choose_spec.1 (by decide) hPS.1.choose_spec.2.1 rfl ?_
          refine q_load (v := (0, 2, 0)) (p2 := 33) rfl rfl rfl rfl ?_
          refine q_load (v := (0, 0, 0)) (p2 := 34) rfl rfl rfl rfl ?_
          refine q_callK (xs := [(0, 0, 0), (0, 2, 0), (6, 237, 0)]) (p2 := 35) rfl rfl rfl rfl (x_rcv_s 237 hKS.2.2.2.2.2.2.2.2.2.1.choose_spec.1) rfl rfl ?_
          refine x_f_of rfl ?_
          refine q_load (v := (0, 2, 0)) (p2 := 1) rfl rfl rfl rfl ?_
          refine q_const (p2 := 2) rfl rfl ?_
          refine q_iop (w := 2 * 6) (z := 12) (p2 := 3) rfl (xo_mul 2 6) (by decide) rfl ?_
          refine q_load (v := (0, 0, 0)) (p2 := 4) rfl rfl rfl rfl ?_
          refine q_iop (w := 12 + 0) (z := 12) (p2 := 5) rfl (xo_add 12 0) (by decide) rfl ?_
          refine q_store (loc2 := [(6, 237, 0), (0, 2, 0), (0, 0, 0), (0, 12, 0)]) (p2 := 6) rfl rfl rfl rfl rfl ?_
          refine q_load (v := (0, 12, 0)) (p2 := 7) rfl rfl rfl rfl ?_
          refine q_if0_s (p2 := 8) rfl (by decide) (by omega) rfl (fun hb => absurd hb (show ¬ (12 < 0) by omega)) (fun _ => ?_)
          refine q_load (v := (0, 12, 0)) (p2 := 9) rfl rfl rfl rfl ?_
          refine q_load (v := (6, 237, 0)) (p2 := 10) rfl rfl rfl rfl ?_
          refine q_getv (v := (6, 449, 0)) (p2 := 11) rfl hKS.2.2.2.2.2.2.2.2.2.1.choose_spec.1 (by decide) hKS.2.2.2.2.2.2.2.2.2.1.choose_spec.2.2.2.2.2.2.2.2.2.2.2.2.1 rfl ?_
          refine q_alen (p2 := 12) rfl (x_sc_449 hKS.2.2.2.2.2.2.2.2.2) rfl (by omega) rfl ?_
          refine q_icmp_s (p2 := 13) rfl (by decide) (by omega) (by omega) rfl (fun hb => absurd hb (show ¬ (¬ (12 < 144)) by omega)) (fun _ => ?_)
          refine q_load (v := (6, 237, 0)) (p2 := 14) rfl rfl rfl rfl ?_
          refine q_getv (v := (6, 449, 0)) (p2 := 15) rfl hKS.2.2.2.2.2.2.2.2.2.1.choose_spec.1 (by decide) hKS.2.2.2.2.2.2.2.2.2.1.choose_spec.2.2.2.2.2.2.2.2.2.2.2.2.1 rfl ?_
          refine q_load (v := (0, 12, 0)) (p2 := 16) rfl rfl rfl rfl ?_
          refine q_aldv (v := (0, 20, 0)) (p2 := 17) rfl (x_sc_449 hKS.2.2.2.2.2.2.2.2.2) (by omega) (by omega) rfl rfl ?_
          refine q_goto rfl ?_
          refine q_retv (v := (0, 20, 0)) rfl rfl ⟨rfl, by omega, by omega, ?_⟩
          refine q_newE (p2 := 36) (len := 7) (g := x_gV) rfl rfl x_gV_ok rfl (fun φ2 hh2 frn2 => ?_)
          refine q_dup (p2 := 37) rfl rfl rfl ?_
          refine q_const (p2 := 38) rfl rfl ?_
          refine q_load (v := (0, x, 0)) (p2 := 39) rfl rfl rfl rfl ?_
          refine q_i2l (p2 := 40) rfl (by omega) rfl ?_
          refine q_callvE (xs := [(2, x, 0), (0, 5, 0), (6, n, 0)]) (p2 := 41) rfl rfl rfl rfl (x_rcv_s n hh2) rfl (e_new2 hh2) (Nat.le_refl _) (Nat.le_refl _) rfl (fun φ3 hR3 => ?_)
          obtain ⟨⟨fv3, hV3, hg3⟩, fr3⟩ := hR3
          have frn3 := fr3
          refine x_n_lt (fun hlt4 => ?_)
          have hz5 := x_mv_lt (x_mv_sc (by omega) (by omega) (by decide) hV3 hg3) hlt4
          have hy5 := (x_mv_sc (by omega) (by omega) (by decide) hV3 hg3).1
          have hm6 := (x_PS_at hPS (fun j hj hne => by have hj2 := x_some_lt hlt0 hne; exact ((frn3 j (by omega)).trans (frn2 j (by omega)))))
          have hm7 := (x_KS_at2 hKS (fun j h1 h2 h3 h4 => ((frn3 j (by omega)).trans (frn2 j (by omega)))))
          refine q_callrB (xs := [(6, n, 0), (0, 20, 0), (6, 455, 0)]) (p2 := 42) rfl rfl rfl rfl (x_rcv_s 455 (x_KS_455 hm7)) rfl (zc_run_where hm6 hm7 (by omega) (by omega) (show co 20 = 1 from hco 20 (by decide)) (show co 21 = 1 from hco 21 (by decide)) (show co 22 = 1 from hco 22 (by decide)) (show co 23 = 1 from hco 23 (by decide)) (show co 24 = 9 from hco 24 (by decide)) (show co 25 = 11 from hco 25 (by decide)) (show co 26 = 0 from hco 26 (by decide)) (show co 27 = 19 from hco 27 (by decide)) (show co 28 = 8 from hco 28 (by decide)) (show co 29 = 31 from hco 29 (by decide)) (x_mv_sc (by omega) (by omega) (by decide) hV3 hg3) (by omega) (zA0 hcb hb1)) rfl (fun w8 φ8 n8 sl8 hn8 hN8 hs8 hT8 hR8 => ?_)
          obtain ⟨v8, hwv8, ⟨ka8, kb8, kc8, kd8, ke8, kf8, kg8, kh8, ki8, kj8, hK8⟩, hV8, frn8⟩ := hR8
          subst hwv8
          refine x_n_lt (fun hlt9 => ?_)
          have hz10 := x_mv_lt hV8 hlt9
          have hy10 := hV8.1
          rw [if_pos hz] at hV8
          refine q_store (loc2 := [(6, 468, 0), (0, 2, 0), (0, x, 0), (0, 1, 0), (0, 0, 0), (6, v8, 0)]) (p2 := 43) rfl rfl rfl rfl rfl ?_
          refine q_load (v := (0, 1, 0)) (p2 := 44) rfl rfl rfl rfl ?_
          refine q_load (v := (6, 468, 0)) (p2 := 45) rfl rfl rfl rfl ?_
          refine q_load (v := (6, v8, 0)) (p2 := 46) rfl rfl rfl rfl ?_
          have hm11 := (zq_J_at hJ ((frn8 468 (by omega) (by omega)).trans ((frn3 468 (by omega)).trans (frn2 468 (by omega)))) ((frn8 469 (by omega) (by omega)).trans ((frn3 469 (by omega)).trans (frn2 469 (by omega)))) ((frn8 470 (by omega) (by omega)).trans ((frn3 470 (by omega)).trans (frn2 470 (by omega)))))
          refine q_callK (xs := [(6, v8, 0), (6, 468, 0)]) (p2 := 47) rfl rfl rfl rfl (x_rcv_s 468 hm11.1) rfl rfl ?_
          refine x_f_of rfl ?_
          refine q_load (v := (6, 468, 0)) (p2 := 1) rfl rfl rfl rfl ?_
          refine q_getv (v := (6, 455, 0)) (p2 := 2) rfl hm11.1 (by decide) rfl rfl ?_
          refine q_getv (v := (0, 0, 0)) (p2 := 3) rfl (x_KS_455 hK8) (by decide) hK8.1.choose_spec.2.2.2.2.2.2.2.2.2.2.2.2.2.2.2.2.2.1 rfl ?_
          refine q_if0_s (p2 := 4) rfl (by decide) (by omega) rfl (fun _ => ?_) (fun hb => absurd (show 0 = 0 by omega) hb)
          refine q_load (v := (6, v8, 0)) (p2 := 7) rfl rfl rfl rfl ?_
          obtain ⟨fV12, hW12, hg12⟩ := x_mv_gS hV8 (by decide)
          have hl12 := hlt9 _ _ hW12
          have h6_12 := hV8.1
          refine q_getv (v := (0, 3, 0)) (p2 := 8) rfl hW12 (by decide) hg12.1 rfl ?_
          refine q_const (p2 := 9) rfl rfl ?_
          refine q_icmp_s (p2 := 10) rfl (by decide) (by omega) (by omega) rfl (fun hb => absurd hb (show ¬ (¬ (3 = 3)) by omega)) (fun _ => ?_)
          refine q_load (v := (6, v8, 0)) (p2 := 11) rfl rfl rfl rfl ?_
          refine q_getv (v := (2, 0, 0)) (p2 := 12) rfl hW12 (by decide) hg12.2.1 rfl ?_
          refine q_const (p2 := 13) rfl rfl ?_
          refine q_lcif (p2 := 15) rfl rfl (by decide) (by omega) (by omega) rfl (fun _ => ?_) (fun hb => absurd (show ¬ (0 = 1) by omega) hb)
          refine q_load (v := (6, v8, 0)) (p2 := 18) rfl rfl rfl rfl ?_
          refine q_callK (xs := [(6, v8, 0)]) (p2 := 19) rfl rfl rfl rfl (x_rcv_s v8 hW12) rfl rfl ?_
          refine x_f_of rfl ?_
          refine q_load (v := (6, v8, 0)) (p2 := 1) rfl rfl rfl rfl ?_
          refine q_getv (v := (0, 3, 0)) (p2 := 2) rfl hW12 (by decide) hg12.1 rfl ?_
          refine q_const (p2 := 3) rfl rfl ?_
          refine q_icmp_s (p2 := 4) rfl (by decide) (by omega) (by omega) rfl (fun hb => absurd hb (show ¬ (¬ (3 = 3)) by omega)) (fun _ => ?_)
          refine q_load (v := (6, v8, 0)) (p2 := 5) rfl rfl rfl rfl ?_
          refine q_getv (v := (2, 0, 0)) (p2 := 6) rfl hW12 (by decide) hg12.2.1 rfl ?_
          refine q_const (p2 := 7) rfl rfl ?_
          refine q_lcif (p2 := 9) rfl rfl (by decide) (by omega) (by omega) rfl (fun _ => ?_) (fun hb => absurd (show ¬ (0 = 2) by omega) hb)
          refine q_const (p2 := 12) rfl rfl ?_
          refine q_retv (v := (0, 0, 0)) rfl rfl ⟨rfl, by omega, by omega, ?_⟩
          refine q_if0_s (p2 := 20) rfl (by decide) (by omega) rfl (fun _ => ?_) (fun hb => absurd (show 0 = 0 by omega) hb)
          refine q_const (p2 := 23) rfl rfl ?_
          refine q_retv (v := (0, 0, 0)) rfl rfl ⟨rfl, by omega, by omega, ?_⟩
          refine q_callr (xs := [(0, 0, 0), (0, 1, 0)]) (p2 := 48) rfl rfl rfl rfl (fun _ _ => rfl) rfl (zc_a_126_1_0 ) (Nat.le_refl _) (Nat.le_refl _) rfl ?_
          refine q_store (loc2 := [(6, 468, 0), (0, 2, 0), (0, x, 0), (0, 0, 0), (0, 0, 0), (6, v8, 0)]) (p2 := 49) rfl rfl rfl rfl rfl ?_
          refine q_iinc (z := 1) (loc2 := [(6, 468, 0), (0, 2, 0), (0, x, 0), (0, 0, 0), (0, 1, 0), (6, v8, 0)]) (p2 := 50) rfl rfl (by decide) rfl rfl ?_
          refine q_goto rfl ?_
          refine q_load (v := (0, 1, 0)) (p2 := 14) rfl rfl rfl rfl ?_
          refine q_load (v := (6, 468, 0)) (p2 := 15) rfl rfl rfl rfl ?_
          refine q_getv (v := (6, 7, 0)) (p2 := 16) rfl hm11.1 (by decide) rfl rfl ?_
          have hm13 := (x_PS_at hm6 (fun j hj hne => by have hj2 := x_some_lt hlt4 hne; exact (frn8 j (by omega) (by omega))))
          refine q_getv (v := (6, 237, 0)) (p2 := 17) rfl hm13.1.choose_spec.1 (by decide) hm13.1.choose_spec.2.1 rfl ?_
          refine q_getv (v := (6, 448, 0)) (p2 := 18) rfl hK8.2.2.2.2.2.2.2.2.2.1.choose_spec.1 (by decide) hK8.2.2.2.2.2.2.2.2.2.1.choose_spec.2.2.2.2.2.2.2.2.2.2.2.1 rfl ?_
          refine q_load (v := (0, 2, 0)) (p2 := 19) rfl rfl rfl rfl ?_
          refine q_aldv (v := (0, 1, 0)) (p2 := 20) rfl (x_sc_448 hK8.2.2.2.2.2.2.2.2.2) (by omega) (by omega) rfl rfl ?_
          refine q_icmp_s (p2 := 21) rfl (by decide) (by omega) (by omega) rfl (fun _ => ?_) (fun hb => absurd (show ¬ (1 < 1) by omega) hb)
          refine q_load (v := (6, 468, 0)) (p2 := 52) rfl rfl rfl rfl ?_
          refine q_load (v := (0, x, 0)) (p2 := 53) rfl rfl rfl rfl ?_
          refine q_load (v := (0, 0, 0)) (p2 := 54) rfl rfl rfl rfl ?_
          refine q_callvE (xs := [(0, 0, 0), (0, x, 0), (6, 468, 0)]) (p2 := 55) rfl rfl rfl rfl (x_rcv_s 468 hm11.1) rfl (zc_j_note_10 hm11 (by omega)) (Nat.le_refl _) (Nat.le_refl _) rfl (fun φ14 hR14 => ?_)
          obtain ⟨hs14_0, fr14⟩ := hR14
          refine q_iinc (z := x + 1) (loc2 := [(6, 468, 0), (0, 2, 0), (0, x + 1, 0), (0, 0, 0), (0, 1, 0), (6, v8, 0)]) (p2 := 56) rfl rfl (Nat.mod_eq_of_lt (by omega)) rfl rfl ?_
          refine q_goto rfl ?_
          have hm15 := (zq_H_at hH ((fr14 0 (by decide) (by decide) (by decide)).trans ((frn8 0 (by omega) (by omega)).trans ((frn3 0 (by omega)).trans (frn2 0 (by omega))))))
          have hm16 := (zq_tp_at hB ((fr14 1 (by decide) (by decide) (by decide)).trans ((frn8 1 (by omega) (by omega)).trans ((frn3 1 (by omega)).trans (frn2 1 (by omega))))))
          have hm17 := (zTJ_at hTJ (fun j h1 h2 => ((fr14 j (by omega) (by omega) (by omega)).trans ((frn8 j (by omega) (by omega)).trans ((frn3 j (by omega)).trans (frn2 j (by omega)))))))
          have hm18 := (zEJ_at hEJ (fun j h1 h2 => ((fr14 j (by omega) (by omega) (by omega)).trans ((frn8 j (by omega) (by omega)).trans ((frn3 j (by omega)).trans (frn2 j (by omega)))))))
          have hm19 := (zq_nm_at hN ((fr14 239 (by decide) (by decide) (by decide)).trans ((frn8 239 (by omega) (by omega)).trans ((frn3 239 (by omega)).trans (frn2 239 (by omega))))) ((fr14 242 (by decide) (by decide) (by decide)).trans ((frn8 242 (by omega) (by omega)).trans ((frn3 242 (by omega)).trans (frn2 242 (by omega))))) ((fr14 244 (by decide) (by decide) (by decide)).trans ((frn8 244 (by omega) (by omega)).trans ((frn3 244 (by omega)).trans (frn2 244 (by omega))))))
          have hm20 := (x_KS_at2 hK8 (fun j h1 h2 h3 h4 => (fr14 j (by omega) (by omega) (by omega))))
          refine x_n_lt (fun hlt22 => ?_)
          have hm21 := (x_PS_at hm13 (fun j hj hne => by have hj2 := x_some_lt hlt9 hne; exact (fr14 j (by omega) (by omega) (by omega))))
          have hm23 := (x_LK_at2 hLK0 (fun j h1 h2 => ((fr14 j (by omega) (by omega) (by omega)).trans ((frn8 j (by omega) (by omega)).trans ((frn3 j (by omega)).trans (frn2 j (by omega)))))))
          have hm24 := (x_SP_at hSP (fun j hj hne => by have hj2 := x_some_lt hlt0 hne; exact ((fr14 j (by omega) (by omega) (by omega)).trans ((frn8 j (by omega) (by omega)).trans ((frn3 j (by omega)).trans (frn2 j (by omega)))))))
          have hm25 := (zq_V5_at hV5 ((fr14 485 (by decide) (by decide) (by decide)).trans ((frn8 485 (by omega) (by omega)).trans ((frn3 485 (by omega)).trans (frn2 485 (by omega))))))
          have hm26 := (zq_SL_at hSL ((fr14 482 (by decide) (by decide) (by decide)).trans ((frn8 482 (by omega) (by omega)).trans ((frn3 482 (by omega)).trans (frn2 482 (by omega))))))
          have hm27 := (zq_RW_at hRW ((fr14 483 (by decide) (by decide) (by decide)).trans ((frn8 483 (by omega) (by omega)).trans ((frn3 483 (by omega)).trans (frn2 483 (by omega))))))
          have hm28 := (zFJ_at hFJ (fun j h1 h2 => ((fr14 j (by omega) (by omega) (by omega)).trans ((frn8 j (by omega) (by omega)).trans ((frn3 j (by omega)).trans (frn2 j (by omega)))))))
          have hm29 := (zWJ_at hWJ (fun j h1 h2 => ((fr14 j (by omega) (by omega) (by omega)).trans ((frn8 j (by omega) (by omega)).trans ((frn3 j (by omega)).trans (frn2 j (by omega)))))))
          have hm30 := (zq_OV_at hOV ((fr14 452 (by decide) (by decide) (by decide)).trans ((frn8 452 (by omega) (by omega)).trans ((frn3 452 (by omega)).trans (frn2 452 (by omega))))) ((fr14 453 (by decide) (by decide) (by decide)).trans ((frn8 453 (by omega) (by omega)).trans ((frn3 453 (by omega)).trans (frn2 453 (by omega))))))
          exact ih (x + 1) _ _ _ _ _ _ _ _ _ _ _ (by omega) hMd40 ⟨⟨_, _, hm15, (x_hw_at hhw (fun j hj hne => by have hj2 := x_some_lt hlt0 hne; exact ((fr14 j (by omega) (by omega) (by omega)).trans ((frn8 j (by omega) (by omega)).trans ((frn3 j (by omega)).trans (frn2 j (by omega)))))))⟩, hm16, hm17, hm18, hm19, ⟨_, ⟨_, _, _, _, _, _, _, _, _, _, hm20⟩, hco⟩, ⟨_, _, _, hm21, hm23⟩, hm24, hm25, ⟨_, hm26⟩, hm27, hs14_0, hm28, hm29, ⟨_, _, hm30, hovn, hovh⟩⟩ (JI_in hJI ⟨hb1, hz⟩) (by omega) (by omega) (by omega)
        · rw [if_neg hb1]
          refine q_if0_s (p2 := 27) rfl (by decide) (by omega) rfl (fun _ => ?_) (fun hb => absurd (show 0 = 0 by omega) hb)
          refine q_load (v := (6, 468, 0)) (p2 := 52) rfl rfl rfl rfl ?_
          refine q_load (v := (0, x, 0)) (p2 := 53) rfl rfl rfl rfl ?_
          refine q_load (v := (0, 1, 0)) (p2 := 54) rfl rfl rfl rfl ?_
          refine q_callvE (xs := [(0, 1, 0), (0, x, 0), (6, 468, 0)]) (p2 := 55) rfl rfl rfl rfl (x_rcv_s 468 hJ.1) rfl (zc_j_note_11 hJ (by omega)) (Nat.le_refl _) (Nat.le_refl _) rfl (fun φ31 hR31 => ?_)
          obtain ⟨hs31_0, fr31⟩ := hR31
          refine q_iinc (z := x + 1) (loc2 := [(6, 468, 0), (0, 2, 0), (0, x + 1, 0), (0, 1, 0), (0, 0, 0), q5]) (p2 := 56) rfl rfl (Nat.mod_eq_of_lt (by omega)) rfl rfl ?_
          refine q_goto rfl ?_
          have hm32 := (zq_H_at hH (fr31 0 (by decide)))
          have hm33 := (zq_tp_at hB (fr31 1 (by decide)))
          have hm34 := (zTJ_at hTJ (fun j h1 h2 => (fr31 j (by omega))))
          have hm35 := (zEJ_at hEJ (fun j h1 h2 => (fr31 j (by omega))))
          have hm36 := (zq_nm_at hN (fr31 239 (by decide)) (fr31 242 (by decide)) (fr31 244 (by decide)))
          have hm37 := (x_KS_at2 hKS (fun j h1 h2 h3 h4 => (fr31 j (by omega))))
          refine x_n_lt (fun hlt39 => ?_)
          have hm38 := (x_PS_at hPS (fun j hj hne => by have hj2 := x_some_lt hlt0 hne; exact (fr31 j (by omega))))
          have hm40 := (x_LK_at2 hLK0 (fun j h1 h2 => (fr31 j (by omega))))
          have hm41 := (x_SP_at hSP (fun j hj hne => by have hj2 := x_some_lt hlt0 hne; exact (fr31 j (by omega))))
          have hm42 := (zq_V5_at hV5 (fr31 485 (by decide)))
          have hm43 := (zq_SL_at hSL (fr31 482 (by decide)))
          have hm44 := (zq_RW_at hRW (fr31 483 (by decide)))
          have hm45 := (zFJ_at hFJ (fun j h1 h2 => (fr31 j (by omega))))
          have hm46 := (zWJ_at hWJ (fun j h1 h2 => (fr31 j (by omega))))
          have hm47 := (zq_OV_at hOV (fr31 452 (by decide)) (fr31 453 (by decide)))
          exact ih (x + 1) _ _ _ _ _ _ _ _ _ _ _ (by omega) hMd40 ⟨⟨_, _, hm32, (x_hw_at hhw (fun j hj hne => by have hj2 := x_some_lt hlt0 hne; exact (fr31 j (by omega))))⟩, hm33, hm34, hm35, hm36, ⟨_, ⟨_, _, _, _, _, _, _, _, _, _, hm37⟩, hco⟩, ⟨_, _, _, hm38, hm40⟩, hm41, hm42, ⟨_, hm43⟩, hm44, hs31_0, hm45, hm46, ⟨_, _, hm47, hovn, hovh⟩⟩ (JI_out hJI (fun z => hb1 z.1)) (by omega) (by omega) (by omega)
      · skip
        have hG0 := hG
        obtain ⟨⟨hand, ie, hH, hhw⟩, hB, hTJ, hEJ, hN, hKJ, ⟨A, B, s9, hPS, hLK0⟩, hSP, hV5, ⟨slq, hSL⟩, hRW, hJ, hFJ, hWJ, ⟨ovn, ovh, hOV, hovn, hovh⟩⟩ := hG
        refine x_n_lt (fun hlt0 => ?_)
        have hmade := x_PS_lt hPS
        obtain ⟨co, ⟨top_, fr_, pc_, mm, st, lo, re, rs, fl, se, hKS⟩, hco⟩ := hKJ
        refine q_load (v := (0, x, 0)) (p2 := 5) rfl rfl rfl rfl ?_
        refine q_load (v := (6, 468, 0)) (p2 := 6) rfl rfl rfl rfl ?_
        refine q_getv (v := (6, 7, 0)) (p2 := 7) rfl hJ.1 (by decide) rfl rfl ?_
        refine q_getv (v := (0, made, 0)) (p2 := 8) rfl hPS.1.choose_spec.1 (by decide) hPS.1.choose_spec.2.2.2.1 rfl ?_
        refine q_icmp_s (p2 := 9) rfl (by decide) (by omega) (by omega) rfl (fun hb => absurd hb (show ¬ (¬ (x < made)) by omega)) (fun _ => ?_)
        refine q_const (p2 := 10) rfl rfl ?_
        refine q_store (loc2 := [(6, 468, 0), (0, 2, 0), (0, x, 0), (0, 1, 0), q4, q5]) (p2 := 11) rfl rfl rfl rfl rfl ?_
        refine q_const (p2 := 12) rfl rfl ?_
        refine q_store (loc2 := [(6, 468, 0), (0, 2, 0), (0, x, 0), (0, 1, 0), (0, 0, 0), q5]) (p2 := 13) rfl rfl rfl rfl rfl ?_
        refine q_load (v := (0, 0, 0)) (p2 := 14) rfl rfl rfl rfl ?_
        refine q_load (v := (6, 468, 0)) (p2 := 15) rfl rfl rfl rfl ?_
        refine q_getv (v := (6, 7, 0)) (p2 := 16) rfl hJ.1 (by decide) rfl rfl ?_
        refine q_getv (v := (6, 237, 0)) (p2 := 17) rfl hPS.1.choose_spec.1 (by decide) hPS.1.choose_spec.2.1 rfl ?_
        refine q_getv (v := (6, 448, 0)) (p2 := 18) rfl hKS.2.2.2.2.2.2.2.2.2.1.choose_spec.1 (by decide) hKS.2.2.2.2.2.2.2.2.2.1.choose_spec.2.2.2.2.2.2.2.2.2.2.2.1 rfl ?_
        refine q_load (v := (0, 2, 0)) (p2 := 19) rfl rfl rfl rfl ?_
        refine q_aldv (v := (0, 1, 0)) (p2 := 20) rfl (x_sc_448 hKS.2.2.2.2.2.2.2.2.2) (by omega) (by omega) rfl rfl ?_
        refine q_icmp_s (p2 := 21) rfl (by decide) (by omega) (by omega) rfl (fun hb => absurd hb (show ¬ (¬ (0 < 1)) by omega)) (fun _ => ?_)
        refine q_load (v := (6, 468, 0)) (p2 := 22) rfl rfl rfl rfl ?_
        refine q_getv (v := (6, 7, 0)) (p2 := 23) rfl hJ.1 (by decide) rfl rfl ?_
        refine q_load (v := (0, x, 0)) (p2 := 24) rfl rfl rfl rfl ?_
        refine q_load (v := (0, 2, 0)) (p2 := 25) rfl rfl rfl rfl ?_
        refine q_callr (xs := [(0, 2, 0), (0, x, 0), (6, 7, 0)]) (p2 := 26) rfl rfl rfl rfl (x_rcv_s 7 hPS.1.choose_spec.1) rfl (e_isA hPS.1.choose_spec hPS.2.1 (by omega) (by omega)) (Nat.le_refl _) (Nat.le_refl _) rfl ?_
        by_cases hb1 : x_isA made comb x 2
        · rw [if_pos hb1]
          refine q_if0_s (p2 := 27) rfl (by decide) (by omega) rfl (fun hb => absurd hb (show ¬ (1 = 0) by omega)) (fun _ => ?_)
          refine q_load (v := (6, 468, 0)) (p2 := 28) rfl rfl rfl rfl ?_
          refine q_getv (v := (6, 455, 0)) (p2 := 29) rfl hJ.1 (by decide) rfl rfl ?_
          refine q_load (v := (6, 468, 0)) (p2 := 30) rfl rfl rfl rfl ?_
          refine q_getv (v := (6, 7, 0)) (p2 := 31) rfl hJ.1 (by decide) rfl rfl ?_
          refine q_getv (v := (6, 237, 0)) (p2 := 32) rfl hPS.1.choose_spec.1 (by decide) hPS.1.choose_spec.2.1 rfl ?_
          refine q_load (v := (0, 2, 0)) (p2 := 33) rfl rfl rfl rfl ?_
          refine q_load (v := (0, 0, 0)) (p2 := 34) rfl rfl rfl rfl ?_
          refine q_callK (xs := [(0, 0, 0), (0, 2, 0), (6, 237, 0)]) (p2 := 35) rfl rfl rfl rfl (x_rcv_s 237 hKS.2.2.2.2.2.2.2.2.2.1.choose_spec.1) rfl rfl ?_
          refine x_f_of rfl ?_
          refine q_load (v := (0, 2, 0)) (p2 := 1) rfl rfl rfl rfl ?_
          refine q_const (p2 := 2) rfl rfl ?_
          refine q_iop (w := 2 * 6) (z := 12) (p2 := 3) rfl (xo_mul 2 6) (by decide) rfl ?_
          refine q_load (v := (0, 0, 0)) (p2 := 4) rfl rfl rfl rfl ?_
          refine q_iop (w := 12 + 0) (z := 12) (p2 := 5) rfl (xo_add 12 0) (by decide) rfl ?_
          refine q_store (loc2 := [(6, 237, 0), (0, 2, 0), (0, 0, 0), (0, 12, 0)]) (p2 := 6) rfl rfl rfl rfl rfl ?_
          refine q_load (v := (0, 12, 0)) (p2 := 7) rfl rfl rfl rfl ?_
          refine q_if0_s (p2 := 8) rfl (by decide) (by omega) rfl (fun hb => absurd hb (show ¬ (12 < 0) by omega)) (fun _ => ?_)
          refine q_load (v := (0, 12, 0)) (p2 := 9) rfl rfl rfl rfl ?_
          refine q_load (v := (6, 237, 0)) (p2 := 10) rfl rfl rfl rfl ?_
          refine q_getv (v := (6, 449, 0)) (p2 := 11) rfl hKS.2.2.2.2.2.2.2.2.2.1.choose_spec.1 (by decide) hKS.2.2.2.2.2.2.2.2.2.1.choose_spec.2.2.2.2.2.2.2.2.2.2.2.2.1 rfl ?_
          refine q_alen (p2 := 12) rfl (x_sc_449 hKS.2.2.2.2.2.2.2.2.2) rfl (by omega) rfl ?_
          refine q_icmp_s (p2 := 13) rfl (by decide) (by omega) (by omega) rfl (fun hb => absurd hb (show ¬ (¬ (12 < 144)) by omega)) (fun _ => ?_)
          refine q_load (v := (6, 237, 0)) (p2 := 14) rfl rfl rfl rfl ?_
          refine q_getv (v := (6, 449, 0)) (p2 := 15) rfl hKS.2.2.2.2.2.2.2.2.2.1.choose_spec.1 (by decide) hKS.2.2.2.2.2.2.2.2.2.1.choose_spec.2.2.2.2.2.2.2.2.2.2.2.2.1 rfl ?_
          refine q_load (v := (0, 12, 0)) (p2 := 16) rfl rfl rfl rfl ?_
          refine q_aldv (v := (0, 20, 0)) (p2 := 17) rfl (x_sc_449 hKS.2.2.2.2.2.2.2.2.2) (by omega) (by omega) rfl rfl ?_
          refine q_goto rfl ?_
          refine q_retv (v := (0, 20, 0)) rfl rfl ⟨rfl, by omega, by omega, ?_⟩
          refine q_newE (p2 := 36) (len := 7) (g := x_gV) rfl rfl x_gV_ok rfl (fun φ2 hh2 frn2 => ?_)
          refine q_dup (p2 := 37) rfl rfl rfl ?_
          refine q_const (p2 := 38) rfl rfl ?_
          refine q_load (v := (0, x, 0)) (p2 := 39) rfl rfl rfl rfl ?_
          refine q_i2l (p2 := 40) rfl (by omega) rfl ?_
          refine q_callvE (xs := [(2, x, 0), (0, 5, 0), (6, n, 0)]) (p2 := 41) rfl rfl rfl rfl (x_rcv_s n hh2) rfl (e_new2 hh2) (Nat.le_refl _) (Nat.le_refl _) rfl (fun φ3 hR3 => ?_)
          obtain ⟨⟨fv3, hV3, hg3⟩, fr3⟩ := hR3
          have frn3 := fr3
          refine x_n_lt (fun hlt4 => ?_)
          have hz5 := x_mv_lt (x_mv_sc (by omega) (by omega) (by decide) hV3 hg3) hlt4
          have hy5 := (x_mv_sc (by omega) (by omega) (by decide) hV3 hg3).1
          have hm6 := (x_PS_at hPS (fun j hj hne => by have hj2 := x_some_lt hlt0 hne; exact ((frn3 j (by omega)).trans (frn2 j (by omega)))))
          have hm7 := (x_KS_at2 hKS (fun j h1 h2 h3 h4 => ((frn3 j (by omega)).trans (frn2 j (by omega)))))
          refine q_callrB (xs := [(6, n, 0), (0, 20, 0), (6, 455, 0)]) (p2 := 42) rfl rfl rfl rfl (x_rcv_s 455 (x_KS_455 hm7)) rfl (zc_run_where hm6 hm7 (by omega) (by omega) (show co 20 = 1 from hco 20 (by decide)) (show co 21 = 1 from hco 21 (by decide)) (show co 22 = 1 from hco 22 (by decide)) (show co 23 = 1 from hco 23 (by decide)) (show co 24 = 9 from hco 24 (by decide)) (show co 25 = 11 from hco 25 (by decide)) (show co 26 = 0 from hco 26 (by decide)) (show co 27 = 19 from hco 27 (by decide)) (show co 28 = 8 from hco 28 (by decide)) (show co 29 = 31 from hco 29 (by decide)) (x_mv_sc (by omega) (by omega) (by decide) hV3 hg3) (by omega) (zA0 hcb hb1)) rfl (fun w8 φ8 n8 sl8 hn8 hN8 hs8 hT8 hR8 => ?_)
          obtain ⟨v8, hwv8, ⟨ka8, kb8, kc8, kd8, ke8, kf8, kg8, kh8, ki8, kj8, hK8⟩, hV8, frn8⟩ := hR8
          subst hwv8
          refine x_n_lt (fun hlt9 => ?_)
          have hz10 := x_mv_lt hV8 hlt9
          have hy10 := hV8.1
          rw [if_neg hz] at hV8
          refine q_store (loc2 := [(6, 468, 0), (0, 2, 0), (0, x, 0), (0, 1, 0), (0, 0, 0), (6, v8, 0)]) (p2 := 43) rfl rfl rfl rfl rfl ?_
          refine q_load (v := (0, 1, 0)) (p2 := 44) rfl rfl rfl rfl ?_
          refine q_load (v := (6, 468, 0)) (p2 := 45) rfl rfl rfl rfl ?_
          refine q_load (v := (6, v8, 0)) (p2 := 46) rfl rfl rfl rfl ?_
          have hm11 := (zq_J_at hJ ((frn8 468 (by omega) (by omega)).trans ((frn3 468 (by omega)).trans (frn2 468 (by omega)))) ((frn8 469 (by omega) (by omega)).trans ((frn3 469 (by omega)).trans (frn2 469 (by omega)))) ((frn8 470 (by omega) (by omega)).trans ((frn3 470 (by omega)).trans (frn2 470 (by omega)))))
          refine q_callK (xs := [(6, v8, 0), (6, 468, 0)]) (p2 := 47) rfl rfl rfl rfl (x_rcv_s 468 hm11.1) rfl rfl ?_
          refine x_f_of rfl ?_
          refine q_load (v := (6, 468, 0)) (p2 := 1) rfl rfl rfl rfl ?_
          refine q_getv (v := (6, 455, 0)) (p2 := 2) rfl hm11.1 (by decide) rfl rfl ?_
          refine q_getv (v := (0, 0, 0)) (p2 := 3) rfl (x_KS_455 hK8) (by decide) hK8.1.choose_spec.2.2.2.2.2.2.2.2.2.2.2.2.2.2.2.2.2.1 rfl ?_
          refine q_if0_s (p2 := 4) rfl (by decide) (by omega) rfl (fun _ => ?_) (fun hb => absurd (show 0 = 0 by omega) hb)
          refine q_load (v := (6, v8, 0)) (p2 := 7) rfl rfl rfl rfl ?_
          obtain ⟨fV12, hW12, hg12⟩ := x_mv_gS hV8 (by decide)
          have hl12 := hlt9 _ _ hW12
          have h6_12 := hV8.1
          refine q_getv (v := (0, 3, 0)) (p2 := 8) rfl hW12 (by decide) hg12.1 rfl ?_
          refine q_const (p2 := 9) rfl rfl ?_
          refine q_icmp_s (p2 := 10) rfl (by decide) (by omega) (by omega) rfl (fun hb => absurd hb (show ¬ (¬ (3 = 3)) by omega)) (fun _ => ?_)
          refine q_load (v := (6, v8, 0)) (p2 := 11) rfl rfl rfl rfl ?_
          refine q_getv (v := (2, 2, 0)) (p2 := 12) rfl hW12 (by decide) hg12.2.1 rfl ?_
          refine q_const (p2 := 13) rfl rfl ?_
          refine q_lcif (p2 := 15) rfl rfl (by decide) (by omega) (by omega) rfl (fun _ => ?_) (fun hb => absurd (show ¬ (2 = 1) by omega) hb)
          refine q_load (v := (6, v8, 0)) (p2 := 18) rfl rfl rfl rfl ?_
          refine q_callK (xs := [(6, v8, 0)]) (p2 := 19) rfl rfl rfl rfl (x_rcv_s v8 hW12) rfl rfl ?_
          refine x_f_of rfl ?_
          refine q_load (v := (6, v8, 0)) (p2 := 1) rfl rfl rfl rfl ?_
          refine q_getv (v := (0, 3, 0)) (p2 := 2) rfl hW12 (by decide) hg12.1 rfl ?_
          refine q_const (p2 := 3) rfl rfl ?_
          refine q_icmp_s (p2 := 4) rfl (by decide) (by omega) (by omega) rfl (fun hb => absurd hb (show ¬ (¬ (3 = 3)) by omega)) (fun _ => ?_)
          refine q_load (v := (6, v8, 0)) (p2 := 5) rfl rfl rfl rfl ?_
          refine q_getv (v := (2, 2, 0)) (p2 := 6) rfl hW12 (by decide) hg12.2.1 rfl ?_
          refine q_const (p2 := 7) rfl rfl ?_
          refine q_lcif (p2 := 9) rfl rfl (by decide) (by omega) (by omega) rfl (fun hb => absurd hb (show ¬ (¬ (2 = 2)) by omega)) (fun _ => ?_)
          refine q_const (p2 := 10) rfl rfl ?_
          refine q_goto rfl ?_
          refine q_retv (v := (0, 1, 0)) rfl rfl ⟨rfl, by omega, by omega, ?_⟩
          refine q_if0_s (p2 := 20) rfl (by decide) (by omega) rfl (fun hb => absurd hb (show ¬ (1 = 0) by omega)) (fun _ => ?_)
          refine q_const (p2 := 21) rfl rfl ?_
          refine q_goto rfl ?_
          refine q_retv (v := (0, 1, 0)) rfl rfl ⟨rfl, by omega, by omega, ?_⟩
          refine q_callr (xs := [(0, 1, 0), (0, 1, 0)]) (p2 := 48) rfl rfl rfl rfl (fun _ _ => rfl) rfl (zc_a_126_1_1 ) (Nat.le_refl _) (Nat.le_refl _) rfl ?_
          refine q_store (loc2 := [(6, 468, 0), (0, 2, 0), (0, x, 0), (0, 1, 0), (0, 0, 0), (6, v8, 0)]) (p2 := 49) rfl rfl rfl rfl rfl ?_
          refine q_iinc (z := 1) (loc2 := [(6, 468, 0), (0, 2, 0), (0, x, 0), (0, 1, 0), (0, 1, 0), (6, v8, 0)]) (p2 := 50) rfl rfl (by decide) rfl rfl ?_
          refine q_goto rfl ?_
          refine q_load (v := (0, 1, 0)) (p2 := 14) rfl rfl rfl rfl ?_
          refine q_load (v := (6, 468, 0)) (p2 := 15) rfl rfl rfl rfl ?_
          refine q_getv (v := (6, 7, 0)) (p2 := 16) rfl hm11.1 (by decide) rfl rfl ?_
          have hm13 := (x_PS_at hm6 (fun j hj hne => by have hj2 := x_some_lt hlt4 hne; exact (frn8 j (by omega) (by omega))))
          refine q_getv (v := (6, 237, 0)) (p2 := 17) rfl hm13.1.choose_spec.1 (by decide) hm13.1.choose_spec.2.1 rfl ?_
          refine q_getv (v := (6, 448, 0)) (p2 := 18) rfl hK8.2.2.2.2.2.2.2.2.2.1.choose_spec.1 (by decide) hK8.2.2.2.2.2.2.2.2.2.1.choose_spec.2.2.2.2.2.2.2.2.2.2.2.1 rfl ?_
          refine q_load (v := (0, 2, 0)) (p2 := 19) rfl rfl rfl rfl ?_
          refine q_aldv (v := (0, 1, 0)) (p2 := 20) rfl (x_sc_448 hK8.2.2.2.2.2.2.2.2.2) (by omega) (by omega) rfl rfl ?_
          refine q_icmp_s (p2 := 21) rfl (by decide) (by omega) (by omega) rfl (fun _ => ?_) (fun hb => absurd (show ¬ (1 < 1) by omega) hb)
          refine q_load (v := (6, 468, 0)) (p2 := 52) rfl rfl rfl rfl ?_
          refine q_load (v := (0, x, 0)) (p2 := 53) rfl rfl rfl rfl ?_
          refine q_load (v := (0, 1, 0)) (p2 := 54) rfl rfl rfl rfl ?_
          refine q_callvE (xs := [(0, 1, 0), (0, x, 0), (6, 468, 0)]) (p2 := 55) rfl rfl rfl rfl (x_rcv_s 468 hm11.1) rfl (zc_j_note_11 hm11 (by omega)) (Nat.le_refl _) (Nat.le_refl _) rfl (fun φ14 hR14 => ?_)
          obtain ⟨hs14_0, fr14⟩ := hR14
          refine q_iinc (z := x + 1) (loc2 := [(6, 468, 0), (0, 2, 0), (0, x + 1, 0), (0, 1, 0), (0, 1, 0), (6, v8, 0)]) (p2 := 56) rfl rfl (Nat.mod_eq_of_lt (by omega)) rfl rfl ?_
          refine q_goto rfl ?_
          have hm15 := (zq_H_at hH ((fr14 0 (by decide)).trans ((frn8 0 (by omega) (by omega)).trans ((frn3 0 (by omega)).trans (frn2 0 (by omega))))))
          have hm16 := (zq_tp_at hB ((fr14 1 (by decide)).trans ((frn8 1 (by omega) (by omega)).trans ((frn3 1 (by omega)).trans (frn2 1 (by omega))))))
          have hm17 := (zTJ_at hTJ (fun j h1 h2 => ((fr14 j (by omega)).trans ((frn8 j (by omega) (by omega)).trans ((frn3 j (by omega)).trans (frn2 j (by omega)))))))
          have hm18 := (zEJ_at hEJ (fun j h1 h2 => ((fr14 j (by omega)).trans ((frn8 j (by omega) (by omega)).trans ((frn3 j (by omega)).trans (frn2 j (by omega)))))))
          have hm19 := (zq_nm_at hN ((fr14 239 (by decide)).trans ((frn8 239 (by omega) (by omega)).trans ((frn3 239 (by omega)).trans (frn2 239 (by omega))))) ((fr14 242 (by decide)).trans ((frn8 242 (by omega) (by omega)).trans ((frn3 242 (by omega)).trans (frn2 242 (by omega))))) ((fr14 244 (by decide)).trans ((frn8 244 (by omega) (by omega)).trans ((frn3 244 (by omega)).trans (frn2 244 (by omega))))))
          have hm20 := (x_KS_at2 hK8 (fun j h1 h2 h3 h4 => (fr14 j (by omega))))
          refine x_n_lt (fun hlt22 => ?_)
          have hm21 := (x_PS_at hm13 (fun j hj hne => by have hj2 := x_some_lt hlt9 hne; exact (fr14 j (by omega))))
          have hm23 := (x_LK_at2 hLK0 (fun j h1 h2 => ((fr14 j (by omega)).trans ((frn8 j (by omega) (by omega)).trans ((frn3 j (by omega)).trans (frn2 j (by omega)))))))
          have hm24 := (x_SP_at hSP (fun j hj hne => by have hj2 := x_some_lt hlt0 hne; exact ((fr14 j (by omega)).trans ((frn8 j (by omega) (by omega)).trans ((frn3 j (by omega)).trans (frn2 j (by omega)))))))
          have hm25 := (zq_V5_at hV5 ((fr14 485 (by decide)).trans ((frn8 485 (by omega) (by omega)).trans ((frn3 485 (by omega)).trans (frn2 485 (by omega))))))
          have hm26 := (zq_SL_at hSL ((fr14 482 (by decide)).trans ((frn8 482 (by omega) (by omega)).trans ((frn3 482 (by omega)).trans (frn2 482 (by omega))))))
          have hm27 := (zq_RW_at hRW ((fr14 483 (by decide)).trans ((frn8 483 (by omega) (by omega)).trans ((frn3 483 (by omega)).trans (frn2 483 (by omega))))))
          have hm28 := (zFJ_at hFJ (fun j h1 h2 => ((fr14 j (by omega)).trans ((frn8 j (by omega) (by omega)).trans ((frn3 j (by omega)).trans (frn2 j (by omega)))))))
          have hm29 := (zWJ_at hWJ (fun j h1 h2 => ((fr14 j (by omega)).trans ((frn8 j (by omega) (by omega)).trans ((frn3 j (by omega)).trans (frn2 j (by omega)))))))
          have hm30 := (zq_OV_at hOV ((fr14 452 (by decide)).trans ((frn8 452 (by omega) (by omega)).trans ((frn3 452 (by omega)).trans (frn2 452 (by omega))))) ((fr14 453 (by decide)).trans ((frn8 453 (by omega) (by omega)).trans ((frn3 453 (by omega)).trans (frn2 453 (by omega))))))
          exact ih (x + 1) _ _ _ _ _ _ _ _ _ _ _ (by omega) hMd40 ⟨⟨_, _, hm15, (x_hw_at hhw (fun j hj hne => by have hj2 := x_some_lt hlt0 hne; exact ((fr14 j (by omega)).trans ((frn8 j (by omega) (by omega)).trans ((frn3 j (by omega)).trans (frn2 j (by omega)))))))⟩, hm16, hm17, hm18, hm19, ⟨_, ⟨_, _, _, _, _, _, _, _, _, _, hm20⟩, hco⟩, ⟨_, _, _, hm21, hm23⟩, hm24, hm25, ⟨_, hm26⟩, hm27, hs14_0, hm28, hm29, ⟨_, _, hm30, hovn, hovh⟩⟩ (JI_out hJI (fun z => hz z.2)) (by omega) (by omega) (by omega)
        · rw [if_neg hb1]
          refine q_if0_s (p2 := 27) rfl (by decide) (by omega) rfl (fun _ => ?_) (fun hb => absurd (show 0 = 0 by omega) hb)
          refine q_load (v := (6, 468, 0)) (p2 := 52) rfl rfl rfl rfl ?_
          refine q_load (v := (0, x, 0)) (p2 := 53) rfl rfl rfl rfl ?_
          refine q_load (v := (0, 1, 0)) (p2 := 54) rfl rfl rfl rfl ?_
          refine q_callvE (xs := [(0, 1, 0), (0, x, 0), (6, 468, 0)]) (p2 := 55) rfl rfl rfl rfl (x_rcv_s 468 hJ.1) rfl (zc_j_note_11 hJ (by omega)) (Nat.le_refl _) (Nat.le_refl _) rfl (fun φ31 hR31 => ?_)
          obtain ⟨hs31_0, fr31⟩ := hR31
          refine q_iinc (z := x + 1) (loc2 := [(6, 468, 0), (0, 2, 0), (0, x + 1, 0), (0, 1, 0), (0, 0, 0), q5]) (p2 := 56) rfl rfl (Nat.mod_eq_of_lt (by omega)) rfl rfl ?_
          refine q_goto rfl ?_
          have hm32 := (zq_H_at hH (fr31 0 (by decide)))
          have hm33 := (zq_tp_at hB (fr31 1 (by decide)))
          have hm34 := (zTJ_at hTJ (fun j h1 h2 => (fr31 j (by omega))))
          have hm35 := (zEJ_at hEJ (fun j h1 h2 => (fr31 j (by omega))))
          have hm36 := (zq_nm_at hN (fr31 239 (by decide)) (fr31 242 (by decide)) (fr31 244 (by decide)))
          have hm37 := (x_KS_at2 hKS (fun j h1 h2 h3 h4 => (fr31 j (by omega))))
          refine x_n_lt (fun hlt39 => ?_)
          have hm38 := (x_PS_at hPS (fun j hj hne => by have hj2 := x_some_lt hlt0 hne; exact (fr31 j (by omega))))
          have hm40 := (x_LK_at2 hLK0 (fun j h1 h2 => (fr31 j (by omega))))
          have hm41 := (x_SP_at hSP (fun j hj hne => by have hj2 := x_some_lt hlt0 hne; exact (fr31 j (by omega))))
          have hm42 := (zq_V5_at hV5 (fr31 485 (by decide)))
          have hm43 := (zq_SL_at hSL (fr31 482 (by decide)))
          have hm44 := (zq_RW_at hRW (fr31 483 (by decide)))
          have hm45 := (zFJ_at hFJ (fun j h1 h2 => (fr31 j (by omega))))
          have hm46 := (zWJ_at hWJ (fun j h1 h2 => (fr31 j (by omega))))
          have hm47 := (zq_OV_at hOV (fr31 452 (by decide)) (fr31 453 (by decide)))
          exact ih (x + 1) _ _ _ _ _ _ _ _ _ _ _ (by omega) hMd40 ⟨⟨_, _, hm32, (x_hw_at hhw (fun j hj hne => by have hj2 := x_some_lt hlt0 hne; exact (fr31 j (by omega))))⟩, hm33, hm34, hm35, hm36, ⟨_, ⟨_, _, _, _, _, _, _, _, _, _, hm37⟩, hco⟩, ⟨_, _, _, hm38, hm40⟩, hm41, hm42, ⟨_, hm43⟩, hm44, hs31_0, hm45, hm46, ⟨_, _, hm47, hovn, hovh⟩⟩ (JI_out hJI (fun z => hb1 z.1)) (by omega) (by omega) (by omega)
    · subst hn2
      have hnle := JI_le hJI
      by_cases hz : (hm (x * 40 + 0)).1 = 0
      · skip
        have hG0 := hG
        obtain ⟨⟨hand, ie, hH, hhw⟩, hB, hTJ, hEJ, hN, hKJ, ⟨A, B, s9, hPS, hLK0⟩, hSP, hV5, ⟨slq, hSL⟩, hRW, hJ, hFJ, hWJ, ⟨ovn, ovh, hOV, hovn, hovh⟩⟩ := hG
        refine x_n_lt (fun hlt0 => ?_)
        have hmade := x_PS_lt hPS
        obtain ⟨co, ⟨top_, fr_, pc_, mm, st, lo, re, rs, fl, se, hKS⟩, hco⟩ := hKJ
        refine q_load (v := (0, x, 0)) (p2 := 5) rfl rfl rfl rfl ?_
        refine q_load (v := (6, 468, 0)) (p2 := 6) rfl rfl rfl rfl ?_
        refine q_getv (v := (6, 7, 0)) (p2 := 7) rfl hJ.1 (by decide) rfl rfl ?_
        refine q_getv (v := (0, made, 0)) (p2 := 8) rfl hPS.1.choose_spec.1 (by decide) hPS.1.choose_spec.2.2.2.1 rfl ?_
        refine q_icmp_s (p2 := 9) rfl (by decide) (by omega) (by omega) rfl (fun hb => absurd hb (show ¬ (¬ (x < made)) by omega)) (fun _ => ?_)
        refine q_const (p2 := 10) rfl rfl ?_
        refine q_store (loc2 := [(6, 468, 0), (0, 2, 0), (0, x, 0), (0, 1, 0), q4, q5]) (p2 := 11) rfl rfl rfl rfl rfl ?_
        refine q_const (p2 := 12) rfl rfl ?_
        refine q_store (loc2 := [(6, 468, 0), (0, 2, 0), (0, x, 0), (0, 1, 0), (0, 0, 0), q5]) (p2 := 13) rfl rfl rfl rfl rfl ?_
        refine q_load (v := (0, 0, 0)) (p2 := 14) rfl rfl rfl rfl ?_
        refine q_load (v := (6, 468, 0)) (p2 := 15) rfl rfl rfl rfl ?_
        refine q_getv (v := (6, 7, 0)) (p2 := 16) rfl hJ.1 (by decide) rfl rfl ?_
        refine q_getv (v := (6, 237, 0)) (p2 := 17) rfl hPS.1.choose_spec.1 (by decide) hPS.1.choose_spec.2.1 rfl ?_
        refine q_getv (v := (6, 448, 0)) (p2 := 18) rfl hKS.2.2.2.2.2.2.2.2.2.1.choose_spec.1 (by decide) hKS.2.2.2.2.2.2.2.2.2.1.choose_spec.2.2.2.2.2.2.2.2.2.2.2.1 rfl ?_
        refine q_load (v := (0, 2, 0)) (p2 := 19) rfl rfl rfl rfl ?_
        refine q_aldv (v := (0, 1, 0)) (p2 := 20) rfl (x_sc_448 hKS.2.2.2.2.2.2.2.2.2) (by omega) (by omega) rfl rfl ?_
        refine q_icmp_s (p2 := 21) rfl (by decide) (by omega) (by omega) rfl (fun hb => absurd hb (show ¬ (¬ (0 < 1)) by omega)) (fun _ => ?_)
        refine q_load (v := (6, 468, 0)) (p2 := 22) rfl rfl rfl rfl ?_
        refine q_getv (v := (6, 7, 0)) (p2 := 23) rfl hJ.1 (by decide) rfl rfl ?_
        refine q_load (v := (0, x, 0)) (p2 := 24) rfl rfl rfl rfl ?_
        refine q_load (v := (0, 2, 0)) (p2 := 25) rfl rfl rfl rfl ?_
        refine q_callr (xs := [(0, 2, 0), (0, x, 0), (6, 7, 0)]) (p2 := 26) rfl rfl rfl rfl (x_rcv_s 7 hPS.1.choose_spec.1) rfl (e_isA hPS.1.choose_spec hPS.2.1 (by omega) (by omega)) (Nat.le_refl _) (Nat.le_refl _) rfl ?_
        by_cases hb1 : x_isA made comb x 2
        · rw [if_pos hb1]
          refine q_if0_s (p2 := 27) rfl (by decide) (by omega) rfl (fun hb => absurd hb (show ¬ (1 = 0) by omega)) (fun _ => ?_)
          refine q_load (v := (6, 468, 0)) (p2 := 28) rfl rfl rfl rfl ?_
          refine q_getv (v := (6, 455, 0)) (p2 := 29) rfl hJ.1 (by decide) rfl rfl ?_
          refine q_load (v := (6, 468, 0)) (p2 := 30) rfl rfl rfl rfl ?_
          refine q_getv (v := (6, 7, 0)) (p2 := 31) rfl hJ.1 (by decide) rfl rfl ?_
          refine q_getv (v := (6, 237, 0)) (p2 := 32) rfl hPS.1.choose_spec.1 (by decide) hPS.1.choose_spec.2.1 rfl ?_
          refine q_load (v := (0, 2, 0)) (p2 := 33) rfl rfl rfl rfl ?_
          refine q_load (v := (0, 0, 0)) (p2 := 34) rfl rfl rfl rfl ?_
          refine q_callK (xs := [(0, 0, 0), (0, 2, 0), (6, 237, 0)]) (p2 := 35) rfl rfl rfl rfl (x_rcv_s 237 hKS.2.2.2.2.2.2.2.2.2.1.choose_spec.1) rfl rfl ?_
          refine x_f_of rfl ?_
          refine q_load (v := (0, 2, 0)) (p2 := 1) rfl rfl rfl rfl ?_
          refine q_const (p2 := 2) rfl rfl ?_
          refine q_iop (w := 2 * 6) (z := 12) (p2 := 3) rfl (xo_mul 2 6) (by decide) rfl ?_
          refine q_load (v := (0, 0, 0)) (p2 := 4) rfl rfl rfl rfl ?_
          refine q_iop (w := 12 + 0) (z := 12) (p2 := 5) rfl (xo_add 12 0) (by decide) rfl ?_
          refine q_store (loc2 := [(6, 237, 0), (0, 2, 0), (0, 0, 0), (0, 12, 0)]) (p2 := 6) rfl rfl rfl rfl rfl ?_
          refine q_load (v := (0, 12, 0)) (p2 := 7) rfl rfl rfl rfl ?_
          refine q_if0_s (p2 := 8) rfl (by decide) (by omega) rfl (fun hb => absurd hb (show ¬ (12 < 0) by omega)) (fun _ => ?_)
          refine q_load (v := (0, 12, 0)) (p2 := 9) rfl rfl rfl rfl ?_
          refine q_load (v := (6, 237, 0)) (p2 := 10) rfl rfl rfl rfl ?_
          refine q_getv (v := (6, 449, 0)) (p2 := 11) rfl hKS.2.2.2.2.2.2.2.2.2.1.choose_spec.1 (by decide) hKS.2.2.2.2.2.2.2.2.2.1.choose_spec.2.2.2.2.2.2.2.2.2.2.2.2.1 rfl ?_
          refine q_alen (p2 := 12) rfl (x_sc_449 hKS.2.2.2.2.2.2.2.2.2) rfl (by omega) rfl ?_
          refine q_icmp_s (p2 := 13) rfl (by decide) (by omega) (by omega) rfl (fun hb => absurd hb (show ¬ (¬ (12 < 144)) by omega)) (fun _ => ?_)
          refine q_load (v := (6, 237, 0)) (p2 := 14) rfl rfl rfl rfl ?_
          refine q_getv (v := (6, 449, 0)) (p2 := 15) rfl hKS.2.2.2.2.2.2.2.2.2.1.choose_spec.1 (by decide) hKS.2.2.2.2.2.2.2.2.2.1.choose_spec.2.2.2.2.2.2.2.2.2.2.2.2.1 rfl ?_
          refine q_load (v := (0, 12, 0)) (p2 := 16) rfl rfl rfl rfl ?_
          refine q_aldv (v := (0, 20, 0)) (p2 := 17) rfl (x_sc_449 hKS.2.2.2.2.2.2.2.2.2) (by omega) (by omega) rfl rfl ?_
          refine q_goto rfl ?_
          refine q_retv (v := (0, 20, 0)) rfl rfl ⟨rfl, by omega, by omega, ?_⟩
          refine q_newE (p2 := 36) (len := 7) (g := x_gV) rfl rfl x_gV_ok rfl (fun φ2 hh2 frn2 => ?_)
          refine q_dup (p2 := 37) rfl rfl rfl ?_
          refine q_const (p2 := 38) rfl rfl ?_
          refine q_load (v := (0, x, 0)) (p2 := 39) rfl rfl rfl rfl ?_
          refine q_i2l (p2 := 40) rfl (by omega) rfl ?_
          refine q_callvE (xs := [(2, x, 0), (0, 5, 0), (6, n, 0)]) (p2 := 41) rfl rfl rfl rfl (x_rcv_s n hh2) rfl (e_new2 hh2) (Nat.le_refl _) (Nat.le_refl _) rfl (fun φ3 hR3 => ?_)
          obtain ⟨⟨fv3, hV3, hg3⟩, fr3⟩ := hR3
          have frn3 := fr3
          refine x_n_lt (fun hlt4 => ?_)
          have hz5 := x_mv_lt (x_mv_sc (by omega) (by omega) (by decide) hV3 hg3) hlt4
          have hy5 := (x_mv_sc (by omega) (by omega) (by decide) hV3 hg3).1
          have hm6 := (x_PS_at hPS (fun j hj hne => by have hj2 := x_some_lt hlt0 hne; exact ((frn3 j (by omega)).trans (frn2 j (by omega)))))
          have hm7 := (x_KS_at2 hKS (fun j h1 h2 h3 h4 => ((frn3 j (by omega)).trans (frn2 j (by omega)))))
          refine q_callrB (xs := [(6, n, 0), (0, 20, 0), (6, 455, 0)]) (p2 := 42) rfl rfl rfl rfl (x_rcv_s 455 (x_KS_455 hm7)) rfl (zc_run_where hm6 hm7 (by omega) (by omega) (show co 20 = 1 from hco 20 (by decide)) (show co 21 = 1 from hco 21 (by decide)) (show co 22 = 1 from hco 22 (by decide)) (show co 23 = 1 from hco 23 (by decide)) (show co 24 = 9 from hco 24 (by decide)) (show co 25 = 11 from hco 25 (by decide)) (show co 26 = 0 from hco 26 (by decide)) (show co 27 = 19 from hco 27 (by decide)) (show co 28 = 8 from hco 28 (by decide)) (show co 29 = 31 from hco 29 (by decide)) (x_mv_sc (by omega) (by omega) (by decide) hV3 hg3) (by omega) (zA0 hcb hb1)) rfl (fun w8 φ8 n8 sl8 hn8 hN8 hs8 hT8 hR8 => ?_)
          obtain ⟨v8, hwv8, ⟨ka8, kb8, kc8, kd8, ke8, kf8, kg8, kh8, ki8, kj8, hK8⟩, hV8, frn8⟩ := hR8
          subst hwv8
          refine x_n_lt (fun hlt9 => ?_)
          have hz10 := x_mv_lt hV8 hlt9
          have hy10 := hV8.1
          rw [if_pos hz] at hV8
          refine q_store (loc2 := [(6, 468, 0), (0, 2, 0), (0, x, 0), (0, 1, 0), (0, 0, 0), (6, v8, 0)]) (p2 := 43) rfl rfl rfl rfl rfl ?_
          refine q_load (v := (0, 1, 0)) (p2 := 44) rfl rfl rfl rfl ?_
          refine q_load (v := (6, 468, 0)) (p2 := 45) rfl rfl rfl rfl ?_
          refine q_load (v := (6, v8, 0)) (p2 := 46) rfl rfl rfl rfl ?_
          have hm11 := (zq_J_at hJ ((frn8 468 (by omega) (by omega)).trans ((frn3 468 (by omega)).trans (frn2 468 (by omega)))) ((frn8 469 (by omega) (by omega)).trans ((frn3 469 (by omega)).trans (frn2 469 (by omega)))) ((frn8 470 (by omega) (by omega)).trans ((frn3 470 (by omega)).trans (frn2 470 (by omega)))))
          refine q_callK (xs := [(6, v8, 0), (6, 468, 0)]) (p2 := 47) rfl rfl rfl rfl (x_rcv_s 468 hm11.1) rfl rfl ?_
          refine x_f_of rfl ?_
          refine q_load (v := (6, 468, 0)) (p2 := 1) rfl rfl rfl rfl ?_
          refine q_getv (v := (6, 455, 0)) (p2 := 2) rfl hm11.1 (by decide) rfl rfl ?_
          refine q_getv (v := (0, 0, 0)) (p2 := 3) rfl (x_KS_455 hK8) (by decide) hK8.1.choose_spec.2.2.2.2.2.2.2.2.2.2.2.2.2.2.2.2.2.1 rfl ?_
          refine q_if0_s (p2 := 4) rfl (by decide) (by omega) rfl (fun _ => ?_) (fun hb => absurd (show 0 = 0 by omega) hb)
          refine q_load (v := (6, v8, 0)) (p2 := 7) rfl rfl rfl rfl ?_
          obtain ⟨fV12, hW12, hg12⟩ := x_mv_gS hV8 (by decide)
          have hl12 := hlt9 _ _ hW12
          have h6_12 := hV8.1
          refine q_getv (v := (0, 3, 0)) (p2 := 8) rfl hW12 (by decide) hg12.1 rfl ?_
          refine q_const (p2 := 9) rfl rfl ?_
          refine q_icmp_s (p2 := 10) rfl (by decide) (by omega) (by omega) rfl (fun hb => absurd hb (show ¬ (¬ (3 = 3)) by omega)) (fun _ => ?_)
          refine q_load (v := (6, v8, 0)) (p2 := 11) rfl rfl rfl rfl ?_
          refine q_getv (v := (2, 0, 0)) (p2 := 12) rfl hW12 (by decide) hg12.2.1 rfl ?_
          refine q_const (p2 := 13) rfl rfl ?_
          refine q_lcif (p2 := 15) rfl rfl (by decide) (by omega) (by omega) rfl (fun _ => ?_) (fun hb => absurd (show ¬ (0 = 1) by omega) hb)
          refine q_load (v := (6, v8, 0)) (p2 := 18) rfl rfl rfl rfl ?_
          refine q_callK (xs := [(6, v8, 0)]) (p2 := 19) rfl rfl rfl rfl (x_rcv_s v8 hW12) rfl rfl ?_
          refine x_f_of rfl ?_
          refine q_load (v := (6, v8, 0)) (p2 := 1) rfl rfl rfl rfl ?_
          refine q_getv (v := (0, 3, 0)) (p2 := 2) rfl hW12 (by decide) hg12.1 rfl ?_
          refine q_const (p2 := 3) rfl rfl ?_
          refine q_icmp_s (p2 := 4) rfl (by decide) (by omega) (by omega) rfl (fun hb => absurd hb (show ¬ (¬ (3 = 3)) by omega)) (fun _ => ?_)
          refine q_load (v := (6, v8, 0)) (p2 := 5) rfl rfl rfl rfl ?_
          refine q_getv (v := (2, 0, 0)) (p2 := 6) rfl hW12 (by decide) hg12.2.1 rfl ?_
          refine q_const (p2 := 7) rfl rfl ?_
          refine q_lcif (p2 := 9) rfl rfl (by decide) (by omega) (by omega) rfl (fun _ => ?_) (fun hb => absurd (show ¬ (0 = 2) by omega) hb)
          refine q_const (p2 := 12) rfl rfl ?_
          refine q_retv (v := (0, 0, 0)) rfl rfl ⟨rfl, by omega, by omega, ?_⟩
          refine q_if0_s (p2 := 20) rfl (by decide) (by omega) rfl (fun _ => ?_) (fun hb => absurd (show 0 = 0 by omega) hb)
          refine q_const (p2 := 23) rfl rfl ?_
          refine q_retv (v := (0, 0, 0)) rfl rfl ⟨rfl, by omega, by omega, ?_⟩
          refine q_callr (xs := [(0, 0, 0), (0, 1, 0)]) (p2 := 48) rfl rfl rfl rfl (fun _ _ => rfl) rfl (zc_a_126_1_0 ) (Nat.le_refl _) (Nat.le_refl _) rfl ?_
          refine q_store (loc2 := [(6, 468, 0), (0, 2, 0), (0, x, 0), (0, 0, 0), (0, 0, 0), (6, v8, 0)]) (p2 := 49) rfl rfl rfl rfl rfl ?_
          refine q_iinc (z := 1) (loc2 := [(6, 468, 0), (0, 2, 0), (0, x, 0), (0, 0, 0), (0, 1, 0), (6, v8, 0)]) (p2 := 50) rfl rfl (by decide) rfl rfl ?_
          refine q_goto rfl ?_
          refine q_load (v := (0, 1, 0)) (p2 := 14) rfl rfl rfl rfl ?_
          refine q_load (v := (6, 468, 0)) (p2 := 15) rfl rfl rfl rfl ?_
          refine q_getv (v := (6, 7, 0)) (p2 := 16) rfl hm11.1 (by decide) rfl rfl ?_
          have hm13 := (x_PS_at hm6 (fun j hj hne => by have hj2 := x_some_lt hlt4 hne; exact (frn8 j (by omega) (by omega))))
          refine q_getv (v := (6, 237, 0)) (p2 := 17) rfl hm13.1.choose_spec.1 (by decide) hm13.1.choose_spec.2.1 rfl ?_
          refine q_getv (v := (6, 448, 0)) (p2 := 18) rfl hK8.2.2.2.2.2.2.2.2.2.1.choose_spec.1 (by decide) hK8.2.2.2.2.2.2.2.2.2.1.choose_spec.2.2.2.2.2.2.2.2.2.2.2.1 rfl ?_
          refine q_load (v := (0, 2, 0)) (p2 := 19) rfl rfl rfl rfl ?_
          refine q_aldv (v := (0, 1, 0)) (p2 := 20) rfl (x_sc_448 hK8.2.2.2.2.2.2.2.2.2) (by omega) (by omega) rfl rfl ?_
          refine q_icmp_s (p2 := 21) rfl (by decide) (by omega) (by omega) rfl (fun _ => ?_) (fun hb => absurd (show ¬ (1 < 1) by omega) hb)
          refine q_load (v := (6, 468, 0)) (p2 := 52) rfl rfl rfl rfl ?_
          refine q_load (v := (0, x, 0)) (p2 := 53) rfl rfl rfl rfl ?_
          refine q_load (v := (0, 0, 0)) (p2 := 54) rfl rfl rfl rfl ?_
          refine q_callvE (xs := [(0, 0, 0), (0, x, 0), (6, 468, 0)]) (p2 := 55) rfl rfl rfl rfl (x_rcv_s 468 hm11.1) rfl (zc_j_note_00 hm11 (by omega)) (Nat.le_refl _) (Nat.le_refl _) rfl (fun φ14 hR14 => ?_)
          obtain ⟨hs14_0, fr14⟩ := hR14
          refine q_iinc (z := x + 1) (loc2 := [(6, 468, 0), (0, 2, 0), (0, x + 1, 0), (0, 0, 0), (0, 1, 0), (6, v8, 0)]) (p2 := 56) rfl rfl (Nat.mod_eq_of_lt (by omega)) rfl rfl ?_
          refine q_goto rfl ?_
          have hm15 := (zq_H_at hH ((fr14 0 (by decide) (by decide) (by decide)).trans ((frn8 0 (by omega) (by omega)).trans ((frn3 0 (by omega)).trans (frn2 0 (by omega))))))
          have hm16 := (zq_tp_at hB ((fr14 1 (by decide) (by decide) (by decide)).trans ((frn8 1 (by omega) (by omega)).trans ((frn3 1 (by omega)).trans (frn2 1 (by omega))))))
          have hm17 := (zTJ_at hTJ (fun j h1 h2 => ((fr14 j (by omega) (by omega) (by omega)).trans ((frn8 j (by omega) (by omega)).trans ((frn3 j (by omega)).trans (frn2 j (by omega)))))))
          have hm18 := (zEJ_at hEJ (fun j h1 h2 => ((fr14 j (by omega) (by omega) (by omega)).trans ((frn8 j (by omega) (by omega)).trans ((frn3 j (by omega)).trans (frn2 j (by omega)))))))
          have hm19 := (zq_nm_at hN ((fr14 239 (by decide) (by decide) (by decide)).trans ((frn8 239 (by omega) (by omega)).trans ((frn3 239 (by omega)).trans (frn2 239 (by omega))))) ((fr14 242 (by decide) (by decide) (by decide)).trans ((frn8 242 (by omega) (by omega)).trans ((frn3 242 (by omega)).trans (frn2 242 (by omega))))) ((fr14 244 (by decide) (by decide) (by decide)).trans ((frn8 244 (by omega) (by omega)).trans ((frn3 244 (by omega)).trans (frn2 244 (by omega))))))
          have hm20 := (x_KS_at2 hK8 (fun j h1 h2 h3 h4 => (fr14 j (by omega) (by omega) (by omega))))
          refine x_n_lt (fun hlt22 => ?_)
          have hm21 := (x_PS_at hm13 (fun j hj hne => by have hj2 := x_some_lt hlt9 hne; exact (fr14 j (by omega) (by omega) (by omega))))
          have hm23 := (x_LK_at2 hLK0 (fun j h1 h2 => ((fr14 j (by omega) (by omega) (by omega)).trans ((frn8 j (by omega) (by omega)).trans ((frn3 j (by omega)).trans (frn2 j (by omega)))))))
          have hm24 := (x_SP_at hSP (fun j hj hne => by have hj2 := x_some_lt hlt0 hne; exact ((fr14 j (by omega) (by omega) (by omega)).trans ((frn8 j (by omega) (by omega)).trans ((frn3 j (by omega)).trans (frn2 j (by omega)))))))
          have hm25 := (zq_V5_at hV5 ((fr14 485 (by decide) (by decide) (by decide)).trans ((frn8 485 (by omega) (by omega)).trans ((frn3 485 (by omega)).trans (frn2 485 (by omega))))))
          have hm26 := (zq_SL_at hSL ((fr14 482 (by decide) (by decide) (by decide)).trans ((frn8 482 (by omega) (by omega)).trans ((frn3 482 (by omega)).trans (frn2 482 (by omega))))))
          have hm27 := (zq_RW_at hRW ((fr14 483 (by decide) (by decide) (by decide)).trans ((frn8 483 (by omega) (by omega)).trans ((frn3 483 (by omega)).trans (frn2 483 (by omega))))))
          have hm28 := (zFJ_at hFJ (fun j h1 h2 => ((fr14 j (by omega) (by omega) (by omega)).trans ((frn8 j (by omega) (by omega)).trans ((frn3 j (by omega)).trans (frn2 j (by omega)))))))
          have hm29 := (zWJ_at hWJ (fun j h1 h2 => ((fr14 j (by omega) (by omega) (by omega)).trans ((frn8 j (by omega) (by omega)).trans ((frn3 j (by omega)).trans (frn2 j (by omega)))))))
          have hm30 := (zq_OV_at hOV ((fr14 452 (by decide) (by decide) (by decide)).trans ((frn8 452 (by omega) (by omega)).trans ((frn3 452 (by omega)).trans (frn2 452 (by omega))))) ((fr14 453 (by decide) (by decide) (by decide)).trans ((frn8 453 (by omega) (by omega)).trans ((frn3 453 (by omega)).trans (frn2 453 (by omega))))))
          exact ih (x + 1) _ _ _ _ _ _ _ _ _ _ _ (by omega) hMd40 ⟨⟨_, _, hm15, (x_hw_at hhw (fun j hj hne => by have hj2 := x_some_lt hlt0 hne; exact ((fr14 j (by omega) (by omega) (by omega)).trans ((frn8 j (by omega) (by omega)).trans ((frn3 j (by omega)).trans (frn2 j (by omega)))))))⟩, hm16, hm17, hm18, hm19, ⟨_, ⟨_, _, _, _, _, _, _, _, _, _, hm20⟩, hco⟩, ⟨_, _, _, hm21, hm23⟩, hm24, hm25, ⟨_, hm26⟩, hm27, hs14_0, hm28, hm29, ⟨_, _, hm30, hovn, hovh⟩⟩ (JI_in hJI ⟨hb1, hz⟩) (by omega) (by omega) (by omega)
        · rw [if_neg hb1]
          refine q_if0_s (p2 := 27) rfl (by decide) (by omega) rfl (fun _ => ?_) (fun hb => absurd (show 0 = 0 by omega) hb)
          refine q_load (v := (6, 468, 0)) (p2 := 52) rfl rfl rfl rfl ?_
          refine q_load (v := (0, x, 0)) (p2 := 53) rfl rfl rfl rfl ?_
          refine q_load (v := (0, 1, 0)) (p2 := 54) rfl rfl rfl rfl ?_
          refine q_callvE (xs := [(0, 1, 0), (0, x, 0), (6, 468, 0)]) (p2 := 55) rfl rfl rfl rfl (x_rcv_s 468 hJ.1) rfl (zc_j_note_01 hJ (by omega)) (Nat.le_refl _) (Nat.le_refl _) rfl (fun φ31 hR31 => ?_)
          obtain ⟨hs31_0, fr31⟩ := hR31
          refine q_iinc (z := x + 1) (loc2 := [(6, 468, 0), (0, 2, 0), (0, x + 1, 0), (0, 1, 0), (0, 0, 0), q5]) (p2 := 56) rfl rfl (Nat.mod_eq_of_lt (by omega)) rfl rfl ?_
          refine q_goto rfl ?_
          have hm32 := (zq_H_at hH (fr31 0 (by decide)))
          have hm33 := (zq_tp_at hB (fr31 1 (by decide)))
          have hm34 := (zTJ_at hTJ (fun j h1 h2 => (fr31 j (by omega))))
          have hm35 := (zEJ_at hEJ (fun j h1 h2 => (fr31 j (by omega))))
          have hm36 := (zq_nm_at hN (fr31 239 (by decide)) (fr31 242 (by decide)) (fr31 244 (by decide)))
          have hm37 := (x_KS_at2 hKS (fun j h1 h2 h3 h4 => (fr31 j (by omega))))
          refine x_n_lt (fun hlt39 => ?_)
          have hm38 := (x_PS_at hPS (fun j hj hne => by have hj2 := x_some_lt hlt0 hne; exact (fr31 j (by omega))))
          have hm40 := (x_LK_at2 hLK0 (fun j h1 h2 => (fr31 j (by omega))))
          have hm41 := (x_SP_at hSP (fun j hj hne => by have hj2 := x_some_lt hlt0 hne; exact (fr31 j (by omega))))
          have hm42 := (zq_V5_at hV5 (fr31 485 (by decide)))
          have hm43 := (zq_SL_at hSL (fr31 482 (by decide)))
          have hm44 := (zq_RW_at hRW (fr31 483 (by decide)))
          have hm45 := (zFJ_at hFJ (fun j h1 h2 => (fr31 j (by omega))))
          have hm46 := (zWJ_at hWJ (fun j h1 h2 => (fr31 j (by omega))))
          have hm47 := (zq_OV_at hOV (fr31 452 (by decide)) (fr31 453 (by decide)))
          exact ih (x + 1) _ _ _ _ _ _ _ _ _ _ _ (by omega) hMd40 ⟨⟨_, _, hm32, (x_hw_at hhw (fun j hj hne => by have hj2 := x_some_lt hlt0 hne; exact (fr31 j (by omega))))⟩, hm33, hm34, hm35, hm36, ⟨_, ⟨_, _, _, _, _, _, _, _, _, _, hm37⟩, hco⟩, ⟨_, _, _, hm38, hm40⟩, hm41, hm42, ⟨_, hm43⟩, hm44, hs31_0, hm45, hm46, ⟨_, _, hm47, hovn, hovh⟩⟩ (JI_out hJI (fun z => hb1 z.1)) (by omega) (by omega) (by omega)
      · skip
        have hG0 := hG
        obtain ⟨⟨hand, ie, hH, hhw⟩, hB, hTJ, hEJ, hN, hKJ, ⟨A, B, s9, hPS, hLK0⟩, hSP, hV5, ⟨slq, hSL⟩, hRW, hJ, hFJ, hWJ, ⟨ovn, ovh, hOV, hovn, hovh⟩⟩ := hG
        refine x_n_lt (fun hlt0 => ?_)
        have hmade := x_PS_lt hPS
        obtain ⟨co, ⟨top_, fr_, pc_, mm, st, lo, re, rs, fl, se, hKS⟩, hco⟩ := hKJ
        refine q_load (v := (0, x, 0)) (p2 := 5) rfl rfl rfl rfl ?_
        refine q_load (v := (6, 468, 0)) (p2 := 6) rfl rfl rfl rfl ?_
        refine q_getv (v := (6, 7, 0)) (p2 := 7) rfl hJ.1 (by decide) rfl rfl ?_
        refine q_getv (v := (0, made, 0)) (p2 := 8) rfl hPS.1.choose_spec.1 (by decide) hPS.1.choose_spec.2.2.2.1 rfl ?_
        refine q_icmp_s (p2 := 9) rfl (by decide) (by omega) (by omega) rfl (fun hb => absurd hb (show ¬ (¬ (x < made)) by omega)) (fun _ => ?_)
        refine q_const (p2 := 10) rfl rfl ?_
        refine q_store (loc2 := [(6, 468, 0), (0, 2, 0), (0, x, 0), (0, 1, 0), q4, q5]) (p2 := 11) rfl rfl rfl rfl rfl ?_
        refine q_const (p2 := 12) rfl rfl ?_
        refine q_store (loc2 := [(6, 468, 0), (0, 2, 0), (0, x, 0), (0, 1, 0), (0, 0, 0), q5]) (p2 := 13) rfl rfl rfl rfl rfl ?_
        refine q_load (v := (0, 0, 0)) (p2 := 14) rfl rfl rfl rfl ?_
        refine q_load (v := (6, 468, 0)) (p2 := 15) rfl rfl rfl rfl ?_
        refine q_getv (v := (6, 7, 0)) (p2 := 16) rfl hJ.1 (by decide) rfl rfl ?_
        refine q_getv (v := (6, 237, 0)) (p2 := 17) rfl hPS.1.choose_spec.1 (by decide) hPS.1.choose_spec.2.1 rfl ?_
        refine q_getv (v := (6, 448, 0)) (p2 := 18) rfl hKS.2.2.2.2.2.2.2.2.2.1.choose_spec.1 (by decide) hKS.2.2.2.2.2.2.2.2.2.1.choose_spec.2.2.2.2.2.2.2.2.2.2.2.1 rfl ?_
        refine q_load (v := (0, 2, 0)) (p2 := 19) rfl rfl rfl rfl ?_
        refine q_aldv (v := (0, 1, 0)) (p2 := 20) rfl (x_sc_448 hKS.2.2.2.2.2.2.2.2.2) (by omega) (by omega) rfl rfl ?_
        refine q_icmp_s (p2 := 21) rfl (by decide) (by omega) (by omega) rfl (fun hb => absurd hb (show ¬ (¬ (0 < 1)) by omega)) (fun _ => ?_)
        refine q_load (v := (6, 468, 0)) (p2 := 22) rfl rfl rfl rfl ?_
        refine q_getv (v := (6, 7, 0)) (p2 := 23) rfl hJ.1 (by decide) rfl rfl ?_
        refine q_load (v := (0, x, 0)) (p2 := 24) rfl rfl rfl rfl ?_
        refine q_load (v := (0, 2, 0)) (p2 := 25) rfl rfl rfl rfl ?_
        refine q_callr (xs := [(0, 2, 0), (0, x, 0), (6, 7, 0)]) (p2 := 26) rfl rfl rfl rfl (x_rcv_s 7 hPS.1.choose_spec.1) rfl (e_isA hPS.1.choose_spec hPS.2.1 (by omega) (by omega)) (Nat.le_refl _) (Nat.le_refl _) rfl ?_
        by_cases hb1 : x_isA made comb x 2
        · rw [if_pos hb1]
          refine q_if0_s (p2 := 27) rfl (by decide) (by omega) rfl (fun hb => absurd hb (show ¬ (1 = 0) by omega)) (fun _ => ?_)
          refine q_load (v := (6, 468, 0)) (p2 := 28) rfl rfl rfl rfl ?_
          refine q_getv (v := (6, 455, 0)) (p2 := 29) rfl hJ.1 (by decide) rfl rfl ?_
          refine q_load (v := (6, 468, 0)) (p2 := 30) rfl rfl rfl rfl ?_
          refine q_getv (v := (6, 7, 0)) (p2 := 31) rfl hJ.1 (by decide) rfl rfl ?_
          refine q_getv (v := (6, 237, 0)) (p2 := 32) rfl hPS.1.choose_spec.1 (by decide) hPS.1.choose_spec.2.1 rfl ?_
          refine q_load (v := (0, 2, 0)) (p2 := 33) rfl rfl rfl rfl ?_
          refine q_load (v := (0, 0, 0)) (p2 := 34) rfl rfl rfl rfl ?_
          refine q_callK (xs := [(0, 0, 0), (0, 2, 0), (6, 237, 0)]) (p2 := 35) rfl rfl rfl rfl (x_rcv_s 237 hKS.2.2.2.2.2.2.2.2.2.1.choose_spec.1) rfl rfl ?_
          refine x_f_of rfl ?_
          refine q_load (v := (0, 2, 0)) (p2 := 1) rfl rfl rfl rfl ?_
          refine q_const (p2 := 2) rfl rfl ?_
          refine q_iop (w := 2 * 6) (z := 12) (p2 := 3) rfl (xo_mul 2 6) (by decide) rfl ?_
          refine q_load (v := (0, 0, 0)) (p2 := 4) rfl rfl rfl rfl ?_
          refine q_iop (w := 12 + 0) (z := 12) (p2 := 5) rfl (xo_add 12 0) (by decide) rfl ?_
          refine q_store (loc2 := [(6, 237, 0), (0, 2, 0), (0, 0, 0), (0, 12, 0)]) (p2 := 6) rfl rfl rfl rfl rfl ?_
          refine q_load (v := (0, 12, 0)) (p2 := 7) rfl rfl rfl rfl ?_
          refine q_if0_s (p2 := 8) rfl (by decide) (by omega) rfl (fun hb => absurd hb (show ¬ (12 < 0) by omega)) (fun _ => ?_)
          refine q_load (v := (0, 12, 0)) (p2 := 9) rfl rfl rfl rfl ?_
          refine q_load (v := (6, 237, 0)) (p2 := 10) rfl rfl rfl rfl ?_
          refine q_getv (v := (6, 449, 0)) (p2 := 11) rfl hKS.2.2.2.2.2.2.2.2.2.1.choose_spec.1 (by decide) hKS.2.2.2.2.2.2.2.2.2.1.choose_spec.2.2.2.2.2.2.2.2.2.2.2.2.1 rfl ?_
          refine q_alen (p2 := 12) rfl (x_sc_449 hKS.2.2.2.2.2.2.2.2.2) rfl (by omega) rfl ?_
          refine q_icmp_s (p2 := 13) rfl (by decide) (by omega) (by omega) rfl (fun hb => absurd hb (show ¬ (¬ (12 < 144)) by omega)) (fun _ => ?_)
          refine q_load (v := (6, 237, 0)) (p2 := 14) rfl rfl rfl rfl ?_
          refine q_getv (v := (6, 449, 0)) (p2 := 15) rfl hKS.2.2.2.2.2.2.2.2.2.1.choose_spec.1 (by decide) hKS.2.2.2.2.2.2.2.2.2.1.choose_spec.2.2.2.2.2.2.2.2.2.2.2.2.1 rfl ?_
          refine q_load (v := (0, 12, 0)) (p2 := 16) rfl rfl rfl rfl ?_
          refine q_aldv (v := (0, 20, 0)) (p2 := 17) rfl (x_sc_449 hKS.2.2.2.2.2.2.2.2.2) (by omega) (by omega) rfl rfl ?_
          refine q_goto rfl ?_
          refine q_retv (v := (0, 20, 0)) rfl rfl ⟨rfl, by omega, by omega, ?_⟩
          refine q_newE (p2 := 36) (len := 7) (g := x_gV) rfl rfl x_gV_ok rfl (fun φ2 hh2 frn2 => ?_)
          refine q_dup (p2 := 37) rfl rfl rfl ?_
          refine q_const (p2 := 38) rfl rfl ?_
          refine q_load (v := (0, x, 0)) (p2 := 39) rfl rfl rfl rfl ?_
          refine q_i2l (p2 := 40) rfl (by omega) rfl ?_
          refine q_callvE (xs := [(2, x, 0), (0, 5, 0), (6, n, 0)]) (p2 := 41) rfl rfl rfl rfl (x_rcv_s n hh2) rfl (e_new2 hh2) (Nat.le_refl _) (Nat.le_refl _) rfl (fun φ3 hR3 => ?_)
          obtain ⟨⟨fv3, hV3, hg3⟩, fr3⟩ := hR3
          have frn3 := fr3
          refine x_n_lt (fun hlt4 => ?_)
          have hz5 := x_mv_lt (x_mv_sc (by omega) (by omega) (by decide) hV3 hg3) hlt4
          have hy5 := (x_mv_sc (by omega) (by omega) (by decide) hV3 hg3).1
          have hm6 := (x_PS_at hPS (fun j hj hne => by have hj2 := x_some_lt hlt0 hne; exact ((frn3 j (by omega)).trans (frn2 j (by omega)))))
          have hm7 := (x_KS_at2 hKS (fun j h1 h2 h3 h4 => ((frn3 j (by omega)).trans (frn2 j (by omega)))))
          refine q_callrB (xs := [(6, n, 0), (0, 20, 0), (6, 455, 0)]) (p2 := 42) rfl rfl rfl rfl (x_rcv_s 455 (x_KS_455 hm7)) rfl (zc_run_where hm6 hm7 (by omega) (by omega) (show co 20 = 1 from hco 20 (by decide)) (show co 21 = 1 from hco 21 (by decide)) (show co 22 = 1 from hco 22 (by decide)) (show co 23 = 1 from hco 23 (by decide)) (show co 24 = 9 from hco 24 (by decide)) (show co 25 = 11 from hco 25 (by decide)) (show co 26 = 0 from hco 26 (by decide)) (show co 27 = 19 from hco 27 (by decide)) (show co 28 = 8 from hco 28 (by decide)) (show co 29 = 31 from hco 29 (by decide)) (x_mv_sc (by omega) (by omega) (by decide) hV3 hg3) (by omega) (zA0 hcb hb1)) rfl (fun w8 φ8 n8 sl8 hn8 hN8 hs8 hT8 hR8 => ?_)
          obtain ⟨v8, hwv8, ⟨ka8, kb8, kc8, kd8, ke8, kf8, kg8, kh8, ki8, kj8, hK8⟩, hV8, frn8⟩ := hR8
          subst hwv8
          refine x_n_lt (fun hlt9 => ?_)
          have hz10 := x_mv_lt hV8 hlt9
          have hy10 := hV8.1
          rw [if_neg hz] at hV8
          refine q_store (loc2 := [(6, 468, 0), (0, 2, 0), (0, x, 0), (0, 1, 0), (0, 0, 0), (6, v8, 0)]) (p2 := 43) rfl rfl rfl rfl rfl ?_
          refine q_load (v := (0, 1, 0)) (p2 := 44) rfl rfl rfl rfl ?_
          refine q_load (v := (6, 468, 0)) (p2 := 45) rfl rfl rfl rfl ?_
          refine q_load (v := (6, v8, 0)) (p2 := 46) rfl rfl rfl rfl ?_
          have hm11 := (zq_J_at hJ ((frn8 468 (by omega) (by omega)).trans ((frn3 468 (by omega)).trans (frn2 468 (by omega)))) ((frn8 469 (by omega) (by omega)).trans ((frn3 469 (by omega)).trans (frn2 469 (by omega)))) ((frn8 470 (by omega) (by omega)).trans ((frn3 470 (by omega)).trans (frn2 470 (by omega)))))
          refine q_callK (xs := [(6, v8, 0), (6, 468, 0)]) (p2 := 47) rfl rfl rfl rfl (x_rcv_s 468 hm11.1) rfl rfl ?_
          refine x_f_of rfl ?_
          refine q_load (v := (6, 468, 0)) (p2 := 1) rfl rfl rfl rfl ?_
          refine q_getv (v := (6, 455, 0)) (p2 := 2) rfl hm11.1 (by decide) rfl rfl ?_
          refine q_getv (v := (0, 0, 0)) (p2 := 3) rfl (x_KS_455 hK8) (by decide) hK8.1.choose_spec.2.2.2.2.2.2.2.2.2.2.2.2.2.2.2.2.2.1 rfl ?_
          refine q_if0_s (p2 := 4) rfl (by decide) (by omega) rfl (fun _ => ?_) (fun hb => absurd (show 0 = 0 by omega) hb)
          refine q_load (v := (6, v8, 0)) (p2 := 7) rfl rfl rfl rfl ?_
          obtain ⟨fV12, hW12, hg12⟩ := x_mv_gS hV8 (by decide)
          have hl12 := hlt9 _ _ hW12
          have h6_12 := hV8.1
          refine q_getv (v := (0, 3, 0)) (p2 := 8) rfl hW12 (by decide) hg12.1 rfl ?_
          refine q_const (p2 := 9) rfl rfl ?_
          refine q_icmp_s (p2 := 10) rfl (by decide) (by omega) (by omega) rfl (fun hb => absurd hb (show ¬ (¬ (3 = 3)) by omega)) (fun _ => ?_)
          refine q_load (v := (6, v8, 0)) (p2 := 11) rfl rfl rfl rfl ?_
          refine q_getv (v := (2, 2, 0)) (p2 := 12) rfl hW12 (by decide) hg12.2.1 rfl ?_
          refine q_const (p2 := 13) rfl rfl ?_
          refine q_lcif (p2 := 15) rfl rfl (by decide) (by omega) (by omega) rfl (fun _ => ?_) (fun hb => absurd (show ¬ (2 = 1) by omega) hb)
          refine q_load (v := (6, v8, 0)) (p2 := 18) rfl rfl rfl rfl ?_
          refine q_callK (xs := [(6, v8, 0)]) (p2 := 19) rfl rfl rfl rfl (x_rcv_s v8 hW12) rfl rfl ?_
          refine x_f_of rfl ?_
          refine q_load (v := (6, v8, 0)) (p2 := 1) rfl rfl rfl rfl ?_
          refine q_getv (v := (0, 3, 0)) (p2 := 2) rfl hW12 (by decide) hg12.1 rfl ?_
          refine q_const (p2 := 3) rfl rfl ?_
          refine q_icmp_s (p2 := 4) rfl (by decide) (by omega) (by omega) rfl (fun hb => absurd hb (show ¬ (¬ (3 = 3)) by omega)) (fun _ => ?_)
          refine q_load (v := (6, v8, 0)) (p2 := 5) rfl rfl rfl rfl ?_
          refine q_getv (v := (2, 2, 0)) (p2 := 6) rfl hW12 (by decide) hg12.2.1 rfl ?_
          refine q_const (p2 := 7) rfl rfl ?_
          refine q_lcif (p2 := 9) rfl rfl (by decide) (by omega) (by omega) rfl (fun hb => absurd hb (show ¬ (¬ (2 = 2)) by omega)) (fun _ => ?_)
          refine q_const (p2 := 10) rfl rfl ?_
          refine q_goto rfl ?_
          refine q_retv (v := (0, 1, 0)) rfl rfl ⟨rfl, by omega, by omega, ?_⟩
          refine q_if0_s (p2 := 20) rfl (by decide) (by omega) rfl (fun hb => absurd hb (show ¬ (1 = 0) by omega)) (fun _ => ?_)
          refine q_const (p2 := 21) rfl rfl ?_
          refine q_goto rfl ?_
          refine q_retv (v := (0, 1, 0)) rfl rfl ⟨rfl, by omega, by omega, ?_⟩
          refine q_callr (xs := [(0, 1, 0), (0, 1, 0)]) (p2 := 48) rfl rfl rfl rfl (fun _ _ => rfl) rfl (zc_a_126_1_1 ) (Nat.le_refl _) (Nat.le_refl _) rfl ?_
          refine q_store (loc2 := [(6, 468, 0), (0, 2, 0), (0, x, 0), (0, 1, 0), (0, 0, 0), (6, v8, 0)]) (p2 := 49) rfl rfl rfl rfl rfl ?_
          refine q_iinc (z := 1) (loc2 := [(6, 468, 0), (0, 2, 0), (0, x, 0), (0, 1, 0), (0, 1, 0), (6, v8, 0)]) (p2 := 50) rfl rfl (by decide) rfl rfl ?_
          refine q_goto rfl ?_
          refine q_load (v := (0, 1, 0)) (p2 := 14) rfl rfl rfl rfl ?_
          refine q_load (v := (6, 468, 0)) (p2 := 15) rfl rfl rfl rfl ?_
          refine q_getv (v := (6, 7, 0)) (p2 := 16) rfl hm11.1 (by decide) rfl rfl ?_
          have hm13 := (x_PS_at hm6 (fun j hj hne => by have hj2 := x_some_lt hlt4 hne; exact (frn8 j (by omega) (by omega))))
          refine q_getv (v := (6, 237, 0)) (p2 := 17) rfl hm13.1.choose_spec.1 (by decide) hm13.1.choose_spec.2.1 rfl ?_
          refine q_getv (v := (6, 448, 0)) (p2 := 18) rfl hK8.2.2.2.2.2.2.2.2.2.1.choose_spec.1 (by decide) hK8.2.2.2.2.2.2.2.2.2.1.choose_spec.2.2.2.2.2.2.2.2.2.2.2.1 rfl ?_
          refine q_load (v := (0, 2, 0)) (p2 := 19) rfl rfl rfl rfl ?_
          refine q_aldv (v := (0, 1, 0)) (p2 := 20) rfl (x_sc_448 hK8.2.2.2.2.2.2.2.2.2) (by omega) (by omega) rfl rfl ?_
          refine q_icmp_s (p2 := 21) rfl (by decide) (by omega) (by omega) rfl (fun _ => ?_) (fun hb => absurd (show ¬ (1 < 1) by omega) hb)
          refine q_load (v := (6, 468, 0)) (p2 := 52) rfl rfl rfl rfl ?_
          refine q_load (v := (0, x, 0)) (p2 := 53) rfl rfl rfl rfl ?_
          refine q_load (v := (0, 1, 0)) (p2 := 54) rfl rfl rfl rfl ?_
          refine q_callvE (xs := [(0, 1, 0), (0, x, 0), (6, 468, 0)]) (p2 := 55) rfl rfl rfl rfl (x_rcv_s 468 hm11.1) rfl (zc_j_note_01 hm11 (by omega)) (Nat.le_refl _) (Nat.le_refl _) rfl (fun φ14 hR14 => ?_)
          obtain ⟨hs14_0, fr14⟩ := hR14
          refine q_iinc (z := x + 1) (loc2 := [(6, 468, 0), (0, 2, 0), (0, x + 1, 0), (0, 1, 0), (0, 1, 0), (6, v8, 0)]) (p2 := 56) rfl rfl (Nat.mod_eq_of_lt (by omega)) rfl rfl ?_
          refine q_goto rfl ?_
          have hm15 := (zq_H_at hH ((fr14 0 (by decide)).trans ((frn8 0 (by omega) (by omega)).trans ((frn3 0 (by omega)).trans (frn2 0 (by omega))))))
          have hm16 := (zq_tp_at hB ((fr14 1 (by decide)).trans ((frn8 1 (by omega) (by omega)).trans ((frn3 1 (by omega)).trans (frn2 1 (by omega))))))
          have hm17 := (zTJ_at hTJ (fun j h1 h2 => ((fr14 j (by omega)).trans ((frn8 j (by omega) (by omega)).trans ((frn3 j (by omega)).trans (frn2 j (by omega)))))))
          have hm18 := (zEJ_at hEJ (fun j h1 h2 => ((fr14 j (by omega)).trans ((frn8 j (by omega) (by omega)).trans ((frn3 j (by omega)).trans (frn2 j (by omega)))))))
          have hm19 := (zq_nm_at hN ((fr14 239 (by decide)).trans ((frn8 239 (by omega) (by omega)).trans ((frn3 239 (by omega)).trans (frn2 239 (by omega))))) ((fr14 242 (by decide)).trans ((frn8 242 (by omega) (by omega)).trans ((frn3 242 (by omega)).trans (frn2 242 (by omega))))) ((fr14 244 (by decide)).trans ((frn8 244 (by omega) (by omega)).trans ((frn3 244 (by omega)).trans (frn2 244 (by omega))))))
          have hm20 := (x_KS_at2 hK8 (fun j h1 h2 h3 h4 => (fr14 j (by omega))))
          refine x_n_lt (fun hlt22 => ?_)
          have hm21 := (x_PS_at hm13 (fun j hj hne => by have hj2 := x_some_lt hlt9 hne; exact (fr14 j (by omega))))
          have hm23 := (x_LK_at2 hLK0 (fun j h1 h2 => ((fr14 j (by omega)).trans ((frn8 j (by omega) (by omega)).trans ((frn3 j (by omega)).trans (frn2 j (by omega)))))))
          have hm24 := (x_SP_at hSP (fun j hj hne => by have hj2 := x_some_lt hlt0 hne; exact ((fr14 j (by omega)).trans ((frn8 j (by omega) (by omega)).trans ((frn3 j (by omega)).trans (frn2 j (by omega)))))))
          have hm25 := (zq_V5_at hV5 ((fr14 485 (by decide)).trans ((frn8 485 (by omega) (by omega)).trans ((frn3 485 (by omega)).trans (frn2 485 (by omega))))))
          have hm26 := (zq_SL_at hSL ((fr14 482 (by decide)).trans ((frn8 482 (by omega) (by omega)).trans ((frn3 482 (by omega)).trans (frn2 482 (by omega))))))
          have hm27 := (zq_RW_at hRW ((fr14 483 (by decide)).trans ((frn8 483 (by omega) (by omega)).trans ((frn3 483 (by omega)).trans (frn2 483 (by omega))))))
          have hm28 := (zFJ_at hFJ (fun j h1 h2 => ((fr14 j (by omega)).trans ((frn8 j (by omega) (by omega)).trans ((frn3 j (by omega)).trans (frn2 j (by omega)))))))
          have hm29 := (zWJ_at hWJ (fun j h1 h2 => ((fr14 j (by omega)).trans ((frn8 j (by omega) (by omega)).trans ((frn3 j (by omega)).trans (frn2 j (by omega)))))))
          have hm30 := (zq_OV_at hOV ((fr14 452 (by decide)).trans ((frn8 452 (by omega) (by omega)).trans ((frn3 452 (by omega)).trans (frn2 452 (by omega))))) ((fr14 453 (by decide)).trans ((frn8 453 (by omega) (by omega)).trans ((frn3 453 (by omega)).trans (frn2 453 (by omega))))))
          exact ih (x + 1) _ _ _ _ _ _ _ _ _ _ _ (by omega) hMd40 ⟨⟨_, _, hm15, (x_hw_at hhw (fun j hj hne => by have hj2 := x_some_lt hlt0 hne; exact ((fr14 j (by omega)).trans ((frn8 j (by omega) (by omega)).trans ((frn3 j (by omega)).trans (frn2 j (by omega)))))))⟩, hm16, hm17, hm18, hm19, ⟨_, ⟨_, _, _, _, _, _, _, _, _, _, hm20⟩, hco⟩, ⟨_, _, _, hm21, hm23⟩, hm24, hm25, ⟨_, hm26⟩, hm27, hs14_0, hm28, hm29, ⟨_, _, hm30, hovn, hovh⟩⟩ (JI_out hJI (fun z => hz z.2)) (by omega) (by omega) (by omega)
        · rw [if_neg hb1]
          refine q_if0_s (p2 := 27) rfl (by decide) (by omega) rfl (fun _ => ?_) (fun hb => absurd (show 0 = 0 by omega) hb)
          refine q_load (v := (6, 468, 0)) (p2 := 52) rfl rfl rfl rfl ?_
          refine q_load (v := (0, x, 0)) (p2 := 53) rfl rfl rfl rfl ?_
          refine q_load (v := (0, 1, 0)) (p2 := 54) rfl rfl rfl rfl ?_
          refine q_callvE (xs := [(0, 1, 0), (0, x, 0), (6, 468, 0)]) (p2 := 55) rfl rfl rfl rfl (x_rcv_s 468 hJ.1) rfl (zc_j_note_01 hJ (by omega)) (Nat.le_refl _) (Nat.le_refl _) rfl (fun φ31 hR31 => ?_)
          obtain ⟨hs31_0, fr31⟩ := hR31
          refine q_iinc (z := x + 1) (loc2 := [(6, 468, 0), (0, 2, 0), (0, x + 1, 0), (0, 1, 0), (0, 0, 0), q5]) (p2 := 56) rfl rfl (Nat.mod_eq_of_lt (by omega)) rfl rfl ?_
          refine q_goto rfl ?_
          have hm32 := (zq_H_at hH (fr31 0 (by decide)))
          have hm33 := (zq_tp_at hB (fr31 1 (by decide)))
          have hm34 := (zTJ_at hTJ (fun j h1 h2 => (fr31 j (by omega))))
          have hm35 := (zEJ_at hEJ (fun j h1 h2 => (fr31 j (by omega))))
          have hm36 := (zq_nm_at hN (fr31 239 (by decide)) (fr31 242 (by decide)) (fr31 244 (by decide)))
          have hm37 := (x_KS_at2 hKS (fun j h1 h2 h3 h4 => (fr31 j (by omega))))
          refine x_n_lt (fun hlt39 => ?_)
          have hm38 := (x_PS_at hPS (fun j hj hne => by have hj2 := x_some_lt hlt0 hne; exact (fr31 j (by omega))))
          have hm40 := (x_LK_at2 hLK0 (fun j h1 h2 => (fr31 j (by omega))))
          have hm41 := (x_SP_at hSP (fun j hj hne => by have hj2 := x_some_lt hlt0 hne; exact (fr31 j (by omega))))
          have hm42 := (zq_V5_at hV5 (fr31 485 (by decide)))
          have hm43 := (zq_SL_at hSL (fr31 482 (by decide)))
          have hm44 := (zq_RW_at hRW (fr31 483 (by decide)))
          have hm45 := (zFJ_at hFJ (fun j h1 h2 => (fr31 j (by omega))))
          have hm46 := (zWJ_at hWJ (fun j h1 h2 => (fr31 j (by omega))))
          have hm47 := (zq_OV_at hOV (fr31 452 (by decide)) (fr31 453 (by decide)))
          exact ih (x + 1) _ _ _ _ _ _ _ _ _ _ _ (by omega) hMd40 ⟨⟨_, _, hm32, (x_hw_at hhw (fun j hj hne => by have hj2 := x_some_lt hlt0 hne; exact (fr31 j (by omega))))⟩, hm33, hm34, hm35, hm36, ⟨_, ⟨_, _, _, _, _, _, _, _, _, _, hm37⟩, hco⟩, ⟨_, _, _, hm38, hm40⟩, hm41, hm42, ⟨_, hm43⟩, hm44, hs31_0, hm45, hm46, ⟨_, _, hm47, hovn, hovh⟩⟩ (JI_out hJI (fun z => hb1 z.1)) (by omega) (by omega) (by omega)
theorem zc_jx_0 {d n sl : Nat} {φ : FH} {tpd : Nat} {tp : Nat → Nat} {lf : Nat} {mi : Nat} {made : Nat} {sv : Nat} {svm : Nat} {comb : Nat → Nat} {hm : Nat → MV} {sc : Nat → Nat} {sm : Nat → MV} {mh : MV} {noted : Nat} {verd : Nat} {ins : Nat → Nat} {ver : Nat → Nat} {sz : Nat} {bw : Nat → Nat} (hG : zG φ tpd tp lf mi made sv svm comb hm sc sm mh noted verd ins ver sz bw) (hn0 : 486 ≤ n) (hpv : ∀ i, x_pv2 (hm i)) (hmi : mi + 300 ≤ 20000) (hI0 : ∀ x, x < 40 → zI0 hm x) (hI1 : ∀ x, x < 40 → zI1 hm x) (hI3 : ∀ x, x < 40 → zI3 hm x) (hcb : ∀ x, x < made → comb x = 0 ∨ comb x = 3 ∨ comb x = 5)  : x_f x_P (d + 5) 67 [(6, 468, 0), (0, 0, 0), (11, 0, 0)] φ n sl (x_bR n sl 100 600 (fun zw φ2 => ∃ mi2 noted2 verd2 : Nat, ∃ ins2 ver2 : Nat → Nat, zw = (0, verd2, 0) ∧ mi2 ≤ mi + 100 ∧ JI (qN made comb hm) made noted2 verd2 ins2 ver2 ∧ zG φ2 tpd tp lf mi2 made sv svm comb hm sc sm mh noted2 verd2 ins2 ver2 sz bw)) := by
  refine x_f_of rfl ?_
  have hG0 := hG
  obtain ⟨⟨hand, ie, hH, hhw⟩, hB, hTJ, hEJ, hN, hKJ, ⟨A, B, s9, hPS, hLK0⟩, hSP, hV5, ⟨slq, hSL⟩, hRW, hJ, hFJ, hWJ, ⟨ovn, ovh, hOV, hovn, hovh⟩⟩ := hG
  refine x_n_lt (fun hlt0 => ?_)
  have hmade := x_PS_lt hPS
  obtain ⟨co, ⟨top_, fr_, pc_, mm, st, lo, re, rs, fl, se, hKS⟩, hco⟩ := hKJ
  refine q_load (v := (6, 468, 0)) (p2 := 1) rfl rfl rfl rfl ?_
  refine q_callvE (xs := [(6, 468, 0)]) (p2 := 2) rfl rfl rfl rfl (x_rcv_s 468 hJ.1) rfl (zc_j_clear hJ) (Nat.le_refl _) (Nat.le_refl _) rfl (fun φ1 hR1 => ?_)
  obtain ⟨hs1_0, fr1⟩ := hR1
  refine q_const (p2 := 3) rfl rfl ?_
  refine q_store (loc2 := [(6, 468, 0), (0, 0, 0), (0, 0, 0)]) (p2 := 4) rfl rfl rfl rfl rfl ?_
  have hm2 := (zq_H_at hH (fr1 0 (by decide)))
  have hm3 := (zq_tp_at hB (fr1 1 (by decide)))
  have hm4 := (zTJ_at hTJ (fun j h1 h2 => (fr1 j (by omega))))
  have hm5 := (zEJ_at hEJ (fun j h1 h2 => (fr1 j (by omega))))
  have hm6 := (zq_nm_at hN (fr1 239 (by decide)) (fr1 242 (by decide)) (fr1 244 (by decide)))
  have hm7 := (x_KS_at2 hKS (fun j h1 h2 h3 h4 => (fr1 j (by omega))))
  refine x_n_lt (fun hlt9 => ?_)
  have hm8 := (x_PS_at hPS (fun j hj hne => by have hj2 := x_some_lt hlt0 hne; exact (fr1 j (by omega))))
  have hm10 := (x_LK_at2 hLK0 (fun j h1 h2 => (fr1 j (by omega))))
  have hm11 := (x_SP_at hSP (fun j hj hne => by have hj2 := x_some_lt hlt0 hne; exact (fr1 j (by omega))))
  have hm12 := (zq_V5_at hV5 (fr1 485 (by decide)))
  have hm13 := (zq_SL_at hSL (fr1 482 (by decide)))
  have hm14 := (zq_RW_at hRW (fr1 483 (by decide)))
  have hm15 := (zFJ_at hFJ (fun j h1 h2 => (fr1 j (by omega))))
  have hm16 := (zWJ_at hWJ (fun j h1 h2 => (fr1 j (by omega))))
  have hm17 := (zq_OV_at hOV (fr1 452 (by decide)) (fr1 453 (by decide)))
  exact zc_jl_0 hpv hI0 hI1 hI3 hcb hn0 (by omega) hmade made 0 _ _ _ _ _ _ _ _ (by omega) hmade ⟨⟨_, _, hm2, (x_hw_at hhw (fun j hj hne => by have hj2 := x_some_lt hlt0 hne; exact (fr1 j (by omega))))⟩, hm3, hm4, hm5, hm6, ⟨_, ⟨_, _, _, _, _, _, _, _, _, _, hm7⟩, hco⟩, ⟨_, _, _, hm8, hm10⟩, hm11, hm12, ⟨_, hm13⟩, hm14, hs1_0, hm15, hm16, ⟨_, _, hm17, hovn, hovh⟩⟩ JI_0 (by omega) (by omega) (by omega)
theorem zc_judge_0 {d n sl : Nat} {φ : FH} {tpd : Nat} {tp : Nat → Nat} {lf : Nat} {mi : Nat} {made : Nat} {sv : Nat} {svm : Nat} {comb : Nat → Nat} {hm : Nat → MV} {sc : Nat → Nat} {sm : Nat → MV} {mh : MV} {noted : Nat} {verd : Nat} {ins : Nat → Nat} {ver : Nat → Nat} {sz : Nat} {bw : Nat → Nat} (hG : zG φ tpd tp lf mi made sv svm comb hm sc sm mh noted verd ins ver sz bw) (hn0 : 486 ≤ n) (hpv : ∀ i, x_pv2 (hm i)) (hmi : mi + 300 ≤ 20000) (hI0 : ∀ x, x < 40 → zI0 hm x) (hI1 : ∀ x, x < 40 → zI1 hm x) (hI3 : ∀ x, x < 40 → zI3 hm x) (hcb : ∀ x, x < made → comb x = 0 ∨ comb x = 3 ∨ comb x = 5)  : x_f x_P (d + 6) 27 [(6, 0, 0), (0, 0, 0), (11, 0, 0), (11, 0, 0)] φ n sl (x_bR n sl 100 600 (fun zw φ2 => ∃ mi2 noted2 verd2 : Nat, ∃ ins2 ver2 : Nat → Nat, zw = (0, verd2, 0) ∧ mi2 ≤ mi + 100 ∧ JI (qN made comb hm) made noted2 verd2 ins2 ver2 ∧ zG φ2 tpd tp lf mi2 made sv svm comb hm sc sm mh noted2 verd2 ins2 ver2 sz bw)) := by
  refine x_f_of rfl ?_
  have hG0 := hG
  obtain ⟨⟨hand, ie, hH, hhw⟩, hB, hTJ, hEJ, hN, hKJ, ⟨A, B, s9, hPS, hLK0⟩, hSP, hV5, ⟨slq, hSL⟩, hRW, hJ, hFJ, hWJ, ⟨ovn, ovh, hOV, hovn, hovh⟩⟩ := hG
  refine x_n_lt (fun hlt0 => ?_)
  have hmade := x_PS_lt hPS
  obtain ⟨co, ⟨top_, fr_, pc_, mm, st, lo, re, rs, fl, se, hKS⟩, hco⟩ := hKJ
  refine q_load (v := (6, 0, 0)) (p2 := 1) rfl rfl rfl rfl ?_
  refine q_getv (v := (6, 7, 0)) (p2 := 2) rfl hH (by decide) rfl rfl ?_
  refine q_getv (v := (6, 237, 0)) (p2 := 3) rfl hPS.1.choose_spec.1 (by decide) hPS.1.choose_spec.2.1 rfl ?_
  refine q_store (loc2 := [(6, 0, 0), (0, 0, 0), (6, 237, 0), (11, 0, 0)]) (p2 := 4) rfl rfl rfl rfl rfl ?_
  refine q_load (v := (0, 0, 0)) (p2 := 5) rfl rfl rfl rfl ?_
  refine q_if0_s (p2 := 6) rfl (by decide) (by omega) rfl (fun hb => absurd hb (show ¬ (0 < 0) by omega)) (fun _ => ?_)
  refine q_load (v := (0, 0, 0)) (p2 := 7) rfl rfl rfl rfl ?_
  refine q_load (v := (6, 237, 0)) (p2 := 8) rfl rfl rfl rfl ?_
  refine q_callK (xs := [(6, 237, 0)]) (p2 := 9) rfl rfl rfl rfl (x_rcv_s 237 hKS.2.2.2.2.2.2.2.2.2.1.choose_spec.1) rfl rfl ?_
  refine x_f_of rfl ?_
  refine q_const (p2 := 1) rfl rfl ?_
  refine q_load (v := (6, 237, 0)) (p2 := 2) rfl rfl rfl rfl ?_
  refine q_getv (v := (6, 246, 0)) (p2 := 3) rfl hKS.2.2.2.2.2.2.2.2.2.1.choose_spec.1 (by decide) hKS.2.2.2.2.2.2.2.2.2.1.choose_spec.2.2.2.1 rfl ?_
  refine q_const (p2 := 4) rfl rfl ?_
  refine q_aldv (v := (0, 3, 0)) (p2 := 5) rfl (x_sc_246 hKS.2.2.2.2.2.2.2.2.2) (by omega) (by omega) rfl rfl ?_
  refine q_iop (w := 3 * 3) (z := 9) (p2 := 6) rfl (xo_mul 3 3) (by decide) rfl ?_
  refine q_load (v := (6, 237, 0)) (p2 := 7) rfl rfl rfl rfl ?_
  refine q_getv (v := (6, 246, 0)) (p2 := 8) rfl hKS.2.2.2.2.2.2.2.2.2.1.choose_spec.1 (by decide) hKS.2.2.2.2.2.2.2.2.2.1.choose_spec.2.2.2.1 rfl ?_
  refine q_const (p2 := 9) rfl rfl ?_
  refine q_aldv (v := (0, 0, 0)) (p2 := 10) rfl (x_sc_246 hKS.2.2.2.2.2.2.2.2.2) (by omega) (by omega) rfl rfl ?_
  refine q_iop (w := 9 + 0) (z := 9) (p2 := 11) rfl (xo_add 9 0) (by decide) rfl ?_
  refine q_load (v := (6, 237, 0)) (p2 := 12) rfl rfl rfl rfl ?_
  refine q_getv (v := (6, 246, 0)) (p2 := 13) rfl hKS.2.2.2.2.2.2.2.2.2.1.choose_spec.1 (by decide) hKS.2.2.2.2.2.2.2.2.2.1.choose_spec.2.2.2.1 rfl ?_
  refine q_const (p2 := 14) rfl rfl ?_
  refine q_aldv (v := (0, 0, 0)) (p2 := 15) rfl (x_sc_246 hKS.2.2.2.2.2.2.2.2.2) (by omega) (by omega) rfl rfl ?_
  refine q_iop (w := 9 + 0) (z := 9) (p2 := 16) rfl (xo_add 9 0) (by decide) rfl ?_
  refine q_retv (v := (0, 9, 0)) rfl rfl ⟨rfl, by omega, by omega, ?_⟩
  refine q_icmp_s (p2 := 10) rfl (by decide) (by omega) (by omega) rfl (fun _ => ?_) (fun hb => absurd (show 0 < 9 by omega) hb)
  refine q_load (v := (6, 0, 0)) (p2 := 13) rfl rfl rfl rfl ?_
  refine q_getv (v := (6, 7, 0)) (p2 := 14) rfl hH (by decide) rfl rfl ?_
  refine q_callvE (xs := [(6, 7, 0)]) (p2 := 15) rfl rfl rfl rfl (x_rcv_s 7 hPS.1.choose_spec.1) rfl (e_prepare hPS hLK0.1 hpv hKS.2.2.2.2.2.2.2.2.2) (Nat.le_refl _) (Nat.le_refl _) rfl (fun φ1 hR1 => ?_)
  obtain ⟨A1, B1, hPS1, hLK1, frn1⟩ := hR1
  have hAB1 := x_pop_AB hPS1.1.choose_spec
  obtain ⟨lik1, lb1, hL1, hLb1, hlk1⟩ := id hLK1
  refine x_n_lt (fun hlt2 => ?_)
  have hLKx1 : x_LK φ1 A1 B1 made 0 comb hm ∧ _ := ⟨hLK1, hAB1⟩
  refine q_load (v := (6, 237, 0)) (p2 := 16) rfl rfl rfl rfl ?_
  refine q_load (v := (0, 0, 0)) (p2 := 17) rfl rfl rfl rfl ?_
  have hm3 := (x_KS_at2 hKS (fun j h1 h2 h3 h4 => (frn1 j (by omega) (by omega) (by omega))))
  refine q_callK (xs := [(0, 0, 0), (6, 237, 0)]) (p2 := 18) rfl rfl rfl rfl (x_rcv_s 237 hm3.2.2.2.2.2.2.2.2.2.1.choose_spec.1) rfl rfl ?_
  refine x_f_of rfl ?_
  refine q_load (v := (0, 0, 0)) (p2 := 1) rfl rfl rfl rfl ?_
  refine q_const (p2 := 2) rfl rfl ?_
  refine q_load (v := (6, 237, 0)) (p2 := 3) rfl rfl rfl rfl ?_
  refine q_getv (v := (6, 246, 0)) (p2 := 4) rfl hm3.2.2.2.2.2.2.2.2.2.1.choose_spec.1 (by decide) hm3.2.2.2.2.2.2.2.2.2.1.choose_spec.2.2.2.1 rfl ?_
  refine q_const (p2 := 5) rfl rfl ?_
  refine q_aldv (v := (0, 3, 0)) (p2 := 6) rfl (x_sc_246 hm3.2.2.2.2.2.2.2.2.2) (by omega) (by omega) rfl rfl ?_
  refine q_iop (w := 3 * 3) (z := 9) (p2 := 7) rfl (xo_mul 3 3) (by decide) rfl ?_
  refine q_iop (w := 0 + (4294967296 - 9 % 4294967296)) (z := 4294967287) (p2 := 8) rfl (xo_sub 0 9) (by decide) rfl ?_
  refine q_store (loc2 := [(6, 237, 0), (0, 0, 0), (0, 4294967287, 0)]) (p2 := 9) rfl rfl rfl rfl rfl ?_
  refine q_load (v := (0, 4294967287, 0)) (p2 := 10) rfl rfl rfl rfl ?_
  refine q_if0 (p2 := 11) rfl (by decide) rfl (fun hb => absurd hb (show ¬ (¬ (2147483639 < 2147483648)) by decide)) (fun _ => ?_)
  refine q_load (v := (0, 0, 0)) (p2 := 12) rfl rfl rfl rfl ?_
  refine q_const (p2 := 13) rfl rfl ?_
  refine q_iop (w := 0 / 3) (z := 0) (p2 := 14) rfl (xo_div (by decide) (by decide) (by decide)) (by decide) rfl ?_
  refine q_retv (v := (0, 0, 0)) rfl rfl ⟨rfl, by omega, by omega, ?_⟩
  refine q_store (loc2 := [(6, 0, 0), (0, 0, 0), (6, 237, 0), (0, 0, 0)]) (p2 := 19) rfl rfl rfl rfl rfl ?_
  refine q_load (v := (6, 237, 0)) (p2 := 20) rfl rfl rfl rfl ?_
  refine q_load (v := (0, 0, 0)) (p2 := 21) rfl rfl rfl rfl ?_
  refine q_callK (xs := [(0, 0, 0), (6, 237, 0)]) (p2 := 22) rfl rfl rfl rfl (x_rcv_s 237 hm3.2.2.2.2.2.2.2.2.2.1.choose_spec.1) rfl rfl ?_
  refine x_f_of rfl ?_
  refine q_load (v := (0, 0, 0)) (p2 := 1) rfl rfl rfl rfl ?_
  refine q_const (p2 := 2) rfl rfl ?_
  refine q_load (v := (6, 237, 0)) (p2 := 3) rfl rfl rfl rfl ?_
  refine q_getv (v := (6, 246, 0)) (p2 := 4) rfl hm3.2.2.2.2.2.2.2.2.2.1.choose_spec.1 (by decide) hm3.2.2.2.2.2.2.2.2.2.1.choose_spec.2.2.2.1 rfl ?_
  refine q_const (p2 := 5) rfl rfl ?_
  refine q_aldv (v := (0, 3, 0)) (p2 := 6) rfl (x_sc_246 hm3.2.2.2.2.2.2.2.2.2) (by omega) (by omega) rfl rfl ?_
  refine q_iop (w := 3 * 3) (z := 9) (p2 := 7) rfl (xo_mul 3 3) (by decide) rfl ?_
  refine q_iop (w := 0 + (4294967296 - 9 % 4294967296)) (z := 4294967287) (p2 := 8) rfl (xo_sub 0 9) (by decide) rfl ?_
  refine q_store (loc2 := [(6, 237, 0), (0, 0, 0), (0, 4294967287, 0)]) (p2 := 9) rfl rfl rfl rfl rfl ?_
  refine q_load (v := (0, 4294967287, 0)) (p2 := 10) rfl rfl rfl rfl ?_
  refine q_if0 (p2 := 11) rfl (by decide) rfl (fun hb => absurd hb (show ¬ (¬ (2147483639 < 2147483648)) by decide)) (fun _ => ?_)
  refine q_load (v := (0, 0, 0)) (p2 := 12) rfl rfl rfl rfl ?_
  refine q_const (p2 := 13) rfl rfl ?_
  refine q_iop (w := 0 % 3) (z := 0) (p2 := 14) rfl (xo_rem (by decide) (by decide) (by decide)) (by decide) rfl ?_
  refine q_retv (v := (0, 0, 0)) rfl rfl ⟨rfl, by omega, by omega, ?_⟩
  refine q_switch (tgt := 23) rfl (by decide) rfl ?_
  refine q_load (v := (6, 0, 0)) (p2 := 24) rfl rfl rfl rfl ?_
  have hm4 := (zq_H_at hH (frn1 0 (by omega) (by omega) (by omega)))
  refine q_getv (v := (6, 468, 0)) (p2 := 25) rfl hm4 (by decide) rfl rfl ?_
  refine q_load (v := (0, 0, 0)) (p2 := 26) rfl rfl rfl rfl ?_
  have hm5 := (zq_tp_at hB (frn1 1 (by omega) (by omega) (by omega)))
  have hm6 := (zTJ_at hTJ (fun j h1 h2 => (frn1 j (by omega) (by omega) (by omega))))
  have hm7 := (zEJ_at hEJ (fun j h1 h2 => (frn1 j (by omega) (by omega) (by omega))))
  have hm8 := (zq_nm_at hN (frn1 239 (by omega) (by omega) (by omega)) (frn1 242 (by omega) (by omega) (by omega)) (frn1 244 (by omega) (by omega) (by omega)))
  have hm9 := (x_SP_at hSP (fun j hj hne => by have hj2 := x_some_lt hlt0 hne; exact (frn1 j (by omega) (by omega) (by omega))))
  have hm10 := (zq_V5_at hV5 (frn1 485 (by omega) (by omega) (by omega)))
  have hm11 := (zq_SL_at hSL (frn1 482 (by omega) (by omega) (by omega)))
  have hm12 := (zq_RW_at hRW (frn1 483 (by omega) (by omega) (by omega)))
  have hm13 := (zq_J_at hJ (frn1 468 (by omega) (by omega) (by omega)) (frn1 469 (by omega) (by omega) (by omega)) (frn1 470 (by omega) (by omega) (by omega)))
  have hm14 := (zFJ_at hFJ (fun j h1 h2 => (frn1 j (by omega) (by omega) (by omega))))
  have hm15 := (zWJ_at hWJ (fun j h1 h2 => (frn1 j (by omega) (by omega) (by omega))))
  have hm16 := (zq_OV_at hOV (frn1 452 (by omega) (by omega) (by omega)) (frn1 453 (by omega) (by omega) (by omega)))
  refine q_callrB (xs := [(0, 0, 0), (6, 468, 0)]) (p2 := 27) rfl rfl rfl rfl (x_rcv_s 468 hm13.1) rfl (zc_jx_0 ⟨⟨_, _, hm4, (x_hw_at hhw (fun j hj hne => by have hj2 := x_some_lt hlt0 hne; exact (frn1 j (by omega) (by omega) (by omega))))⟩, hm5, hm6, hm7, hm8, ⟨_, ⟨_, _, _, _, _, _, _, _, _, _, hm3⟩, hco⟩, ⟨_, _, _, hPS1, hLKx1⟩, hm9, hm10, ⟨_, hm11⟩, hm12, hm13, hm14, hm15, ⟨_, _, hm16, hovn, hovh⟩⟩ (by omega) hpv (by omega) hI0 hI1 hI3 hcb) rfl (fun w17 φ17 n17 sl17 hn17 hN17 hs17 hT17 hR17 => ?_)
  obtain ⟨mi2, noted2, verd2, ins2, ver2, hw2, hmi2, hJI2, hG2⟩ := hR17
  subst hw2
  exact q_retv (v := (0, verd2, 0)) rfl rfl (⟨rfl, ⟨by omega, by omega⟩, ⟨by omega, by omega⟩, _, _, _, _, _, rfl, hmi2, hJI2, hG2⟩)
theorem zc_jx_1 {d n sl : Nat} {φ : FH} {tpd : Nat} {tp : Nat → Nat} {lf : Nat} {mi : Nat} {made : Nat} {sv : Nat} {svm : Nat} {comb : Nat → Nat} {hm : Nat → MV} {sc : Nat → Nat} {sm : Nat → MV} {mh : MV} {noted : Nat} {verd : Nat} {ins : Nat → Nat} {ver : Nat → Nat} {sz : Nat} {bw : Nat → Nat} (hG : zG φ tpd tp lf mi made sv svm comb hm sc sm mh noted verd ins ver sz bw) (hn0 : 486 ≤ n) (hpv : ∀ i, x_pv2 (hm i)) (hmi : mi + 300 ≤ 20000) (hI0 : ∀ x, x < 40 → zI0 hm x) (hI1 : ∀ x, x < 40 → zI1 hm x) (hI3 : ∀ x, x < 40 → zI3 hm x) (hcb : ∀ x, x < made → comb x = 0 ∨ comb x = 3 ∨ comb x = 5)  : x_f x_P (d + 4) 68 [(6, 468, 0), (0, 0, 0), (11, 0, 0)] φ n sl (x_bR n sl 100 600 (fun zw φ2 => ∃ mi2 noted2 verd2 : Nat, ∃ ins2 ver2 : Nat → Nat, zw = (0, verd2, 0) ∧ mi2 ≤ mi + 100 ∧ JI (qN made comb hm) made noted2 verd2 ins2 ver2 ∧ zG φ2 tpd tp lf mi2 made sv svm comb hm sc sm mh noted2 verd2 ins2 ver2 sz bw)) := by
  refine x_f_of rfl ?_
  have hG0 := hG
  obtain ⟨⟨hand, ie, hH, hhw⟩, hB, hTJ, hEJ, hN, hKJ, ⟨A, B, s9, hPS, hLK0⟩, hSP, hV5, ⟨slq, hSL⟩, hRW, hJ, hFJ, hWJ, ⟨ovn, ovh, hOV, hovn, hovh⟩⟩ := hG
  refine x_n_lt (fun hlt0 => ?_)
  have hmade := x_PS_lt hPS
  obtain ⟨co, ⟨top_, fr_, pc_, mm, st, lo, re, rs, fl, se, hKS⟩, hco⟩ := hKJ
  refine q_load (v := (6, 468, 0)) (p2 := 1) rfl rfl rfl rfl ?_
  refine q_callvE (xs := [(6, 468, 0)]) (p2 := 2) rfl rfl rfl rfl (x_rcv_s 468 hJ.1) rfl (zc_j_clear hJ) (Nat.le_refl _) (Nat.le_refl _) rfl (fun φ1 hR1 => ?_)
  obtain ⟨hs1_0, fr1⟩ := hR1
  refine q_const (p2 := 3) rfl rfl ?_
  refine q_store (loc2 := [(6, 468, 0), (0, 0, 0), (0, 0, 0)]) (p2 := 4) rfl rfl rfl rfl rfl ?_
  have hm2 := (zq_H_at hH (fr1 0 (by decide)))
  have hm3 := (zq_tp_at hB (fr1 1 (by decide)))
  have hm4 := (zTJ_at hTJ (fun j h1 h2 => (fr1 j (by omega))))
  have hm5 := (zEJ_at hEJ (fun j h1 h2 => (fr1 j (by omega))))
  have hm6 := (zq_nm_at hN (fr1 239 (by decide)) (fr1 242 (by decide)) (fr1 244 (by decide)))
  have hm7 := (x_KS_at2 hKS (fun j h1 h2 h3 h4 => (fr1 j (by omega))))
  refine x_n_lt (fun hlt9 => ?_)
  have hm8 := (x_PS_at hPS (fun j hj hne => by have hj2 := x_some_lt hlt0 hne; exact (fr1 j (by omega))))
  have hm10 := (x_LK_at2 hLK0 (fun j h1 h2 => (fr1 j (by omega))))
  have hm11 := (x_SP_at hSP (fun j hj hne => by have hj2 := x_some_lt hlt0 hne; exact (fr1 j (by omega))))
  have hm12 := (zq_V5_at hV5 (fr1 485 (by decide)))
  have hm13 := (zq_SL_at hSL (fr1 482 (by decide)))
  have hm14 := (zq_RW_at hRW (fr1 483 (by decide)))
  have hm15 := (zFJ_at hFJ (fun j h1 h2 => (fr1 j (by omega))))
  have hm16 := (zWJ_at hWJ (fun j h1 h2 => (fr1 j (by omega))))
  have hm17 := (zq_OV_at hOV (fr1 452 (by decide)) (fr1 453 (by decide)))
  exact zc_jl_1 hpv hI0 hI1 hI3 hcb hn0 (by omega) hmade made 0 _ _ _ _ _ _ _ _ (by omega) hmade ⟨⟨_, _, hm2, (x_hw_at hhw (fun j hj hne => by have hj2 := x_some_lt hlt0 hne; exact (fr1 j (by omega))))⟩, hm3, hm4, hm5, hm6, ⟨_, ⟨_, _, _, _, _, _, _, _, _, _, hm7⟩, hco⟩, ⟨_, _, _, hm8, hm10⟩, hm11, hm12, ⟨_, hm13⟩, hm14, hs1_0, hm15, hm16, ⟨_, _, hm17, hovn, hovh⟩⟩ JI_0 (by omega) (by omega) (by omega)
theorem zc_judge_1 {d n sl : Nat} {φ : FH} {tpd : Nat} {tp : Nat → Nat} {lf : Nat} {mi : Nat} {made : Nat} {sv : Nat} {svm : Nat} {comb : Nat → Nat} {hm : Nat → MV} {sc : Nat → Nat} {sm : Nat → MV} {mh : MV} {noted : Nat} {verd : Nat} {ins : Nat → Nat} {ver : Nat → Nat} {sz : Nat} {bw : Nat → Nat} (hG : zG φ tpd tp lf mi made sv svm comb hm sc sm mh noted verd ins ver sz bw) (hn0 : 486 ≤ n) (hpv : ∀ i, x_pv2 (hm i)) (hmi : mi + 300 ≤ 20000) (hI0 : ∀ x, x < 40 → zI0 hm x) (hI1 : ∀ x, x < 40 → zI1 hm x) (hI3 : ∀ x, x < 40 → zI3 hm x) (hcb : ∀ x, x < made → comb x = 0 ∨ comb x = 3 ∨ comb x = 5)  : x_f x_P (d + 6) 27 [(6, 0, 0), (0, 1, 0), (11, 0, 0), (11, 0, 0)] φ n sl (x_bR n sl 100 600 (fun zw φ2 => ∃ mi2 noted2 verd2 : Nat, ∃ ins2 ver2 : Nat → Nat, zw = (0, verd2, 0) ∧ mi2 ≤ mi + 100 ∧ JI (qN made comb hm) made noted2 verd2 ins2 ver2 ∧ zG φ2 tpd tp lf mi2 made sv svm comb hm sc sm mh noted2 verd2 ins2 ver2 sz bw)) := by
  refine x_f_of rfl ?_
  have hG0 := hG
  obtain ⟨⟨hand, ie, hH, hhw⟩, hB, hTJ, hEJ, hN, hKJ, ⟨A, B, s9, hPS, hLK0⟩, hSP, hV5, ⟨slq, hSL⟩, hRW, hJ, hFJ, hWJ, ⟨ovn, ovh, hOV, hovn, hovh⟩⟩ := hG
  refine x_n_lt (fun hlt0 => ?_)
  have hmade := x_PS_lt hPS
  obtain ⟨co, ⟨top_, fr_, pc_, mm, st, lo, re, rs, fl, se, hKS⟩, hco⟩ := hKJ
  refine q_load (v := (6, 0, 0)) (p2 := 1) rfl rfl rfl rfl ?_
  refine q_getv (v := (6, 7, 0)) (p2 := 2) rfl hH (by decide) rfl rfl ?_
  refine q_getv (v := (6, 237, 0)) (p2 := 3) rfl hPS.1.choose_spec.1 (by decide) hPS.1.choose_spec.2.1 rfl ?_
  refine q_store (loc2 := [(6, 0, 0), (0, 1, 0), (6, 237, 0), (11, 0, 0)]) (p2 := 4) rfl rfl rfl rfl rfl ?_
  refine q_load (v := (0, 1, 0)) (p2 := 5) rfl rfl rfl rfl ?_
  refine q_if0_s (p2 := 6) rfl (by decide) (by omega) rfl (fun hb => absurd hb (show ¬ (1 < 0) by omega)) (fun _ => ?_)
  refine q_load (v := (0, 1, 0)) (p2 := 7) rfl rfl rfl rfl ?_
  refine q_load (v := (6, 237, 0)) (p2 := 8) rfl rfl rfl rfl ?_
  refine q_callK (xs := [(6, 237, 0)]) (p2 := 9) rfl rfl rfl rfl (x_rcv_s 237 hKS.2.2.2.2.2.2.2.2.2.1.choose_spec.1) rfl rfl ?_
  refine x_f_of rfl ?_
  refine q_const (p2 := 1) rfl rfl ?_
  refine q_load (v := (6, 237, 0)) (p2 := 2) rfl rfl rfl rfl ?_
  refine q_getv (v := (6, 246, 0)) (p2 := 3) rfl hKS.2.2.2.2.2.2.2.2.2.1.choose_spec.1 (by decide) hKS.2.2.2.2.2.2.2.2.2.1.choose_spec.2.2.2.1 rfl ?_
  refine q_const (p2 := 4) rfl rfl ?_
  refine q_aldv (v := (0, 3, 0)) (p2 := 5) rfl (x_sc_246 hKS.2.2.2.2.2.2.2.2.2) (by omega) (by omega) rfl rfl ?_
  refine q_iop (w := 3 * 3) (z := 9) (p2 := 6) rfl (xo_mul 3 3) (by decide) rfl ?_
  refine q_load (v := (6, 237, 0)) (p2 := 7) rfl rfl rfl rfl ?_
  refine q_getv (v := (6, 246, 0)) (p2 := 8) rfl hKS.2.2.2.2.2.2.2.2.2.1.choose_spec.1 (by decide) hKS.2.2.2.2.2.2.2.2.2.1.choose_spec.2.2.2.1 rfl ?_
  refine q_const (p2 := 9) rfl rfl ?_
  refine q_aldv (v := (0, 0, 0)) (p2 := 10) rfl (x_sc_246 hKS.2.2.2.2.2.2.2.2.2) (by omega) (by omega) rfl rfl ?_
  refine q_iop (w := 9 + 0) (z := 9) (p2 := 11) rfl (xo_add 9 0) (by decide) rfl ?_
  refine q_load (v := (6, 237, 0)) (p2 := 12) rfl rfl rfl rfl ?_
  refine q_getv (v := (6, 246, 0)) (p2 := 13) rfl hKS.2.2.2.2.2.2.2.2.2.1.choose_spec.1 (by decide) hKS.2.2.2.2.2.2.2.2.2.1.choose_spec.2.2.2.1 rfl ?_
  refine q_const (p2 := 14) rfl rfl ?_
  refine q_aldv (v := (0, 0, 0)) (p2 := 15) rfl (x_sc_246 hKS.2.2.2.2.2.2.2.2.2) (by omega) (by omega) rfl rfl ?_
  refine q_iop (w := 9 + 0) (z := 9) (p2 := 16) rfl (xo_add 9 0) (by decide) rfl ?_
  refine q_retv (v := (0, 9, 0)) rfl rfl ⟨rfl, by omega, by omega, ?_⟩
  refine q_icmp_s (p2 := 10) rfl (by decide) (by omega) (by omega) rfl (fun _ => ?_) (fun hb => absurd (show 1 < 9 by omega) hb)
  refine q_load (v := (6, 0, 0)) (p2 := 13) rfl rfl rfl rfl ?_
  refine q_getv (v := (6, 7, 0)) (p2 := 14) rfl hH (by decide) rfl rfl ?_
  refine q_callvE (xs := [(6, 7, 0)]) (p2 := 15) rfl rfl rfl rfl (x_rcv_s 7 hPS.1.choose_spec.1) rfl (e_prepare hPS hLK0.1 hpv hKS.2.2.2.2.2.2.2.2.2) (Nat.le_refl _) (Nat.le_refl _) rfl (fun φ1 hR1 => ?_)
  obtain ⟨A1, B1, hPS1, hLK1, frn1⟩ := hR1
  have hAB1 := x_pop_AB hPS1.1.choose_spec
  obtain ⟨lik1, lb1, hL1, hLb1, hlk1⟩ := id hLK1
  refine x_n_lt (fun hlt2 => ?_)
  have hLKx1 : x_LK φ1 A1 B1 made 0 comb hm ∧ _ := ⟨hLK1, hAB1⟩
  refine q_load (v := (6, 237, 0)) (p2 := 16) rfl rfl rfl rfl ?_
  refine q_load (v := (0, 1, 0)) (p2 := 17) rfl rfl rfl rfl ?_
  have hm3 := (x_KS_at2 hKS (fun j h1 h2 h3 h4 => (frn1 j (by omega) (by omega) (by omega))))
  refine q_callK (xs := [(0, 1, 0), (6, 237, 0)]) (p2 := 18) rfl rfl rfl rfl (x_rcv_s 237 hm3.2.2.2.2.2.2.2.2.2.1.choose_spec.1) rfl rfl ?_
  refine x_f_of rfl ?_
  refine q_load (v := (0, 1, 0)) (p2 := 1) rfl rfl rfl rfl ?_
  refine q_const (p2 := 2) rfl rfl ?_
  refine q_load (v := (6, 237, 0)) (p2 := 3) rfl rfl rfl rfl ?_
  refine q_getv (v := (6, 246, 0)) (p2 := 4) rfl hm3.2.2.2.2.2.2.2.2.2.1.choose_spec.1 (by decide) hm3.2.2.2.2.2.2.2.2.2.1.choose_spec.2.2.2.1 rfl ?_
  refine q_const (p2 := 5) rfl rfl ?_
  refine q_aldv (v := (0, 3, 0)) (p2 := 6) rfl (x_sc_246 hm3.2.2.2.2.2.2.2.2.2) (by omega) (by omega) rfl rfl ?_
  refine q_iop (w := 3 * 3) (z := 9) (p2 := 7) rfl (xo_mul 3 3) (by decide) rfl ?_
  refine q_iop (w := 1 + (4294967296 - 9 % 4294967296)) (z := 4294967288) (p2 := 8) rfl (xo_sub 1 9) (by decide) rfl ?_
  refine q_store (loc2 := [(6, 237, 0), (0, 1, 0), (0, 4294967288, 0)]) (p2 := 9) rfl rfl rfl rfl rfl ?_
  refine q_load (v := (0, 4294967288, 0)) (p2 := 10) rfl rfl rfl rfl ?_
  refine q_if0 (p2 := 11) rfl (by decide) rfl (fun hb => absurd hb (show ¬ (¬ (2147483640 < 2147483648)) by decide)) (fun _ => ?_)
  refine q_load (v := (0, 1, 0)) (p2 := 12) rfl rfl rfl rfl ?_
  refine q_const (p2 := 13) rfl rfl ?_
  refine q_iop (w := 1 / 3) (z := 0) (p2 := 14) rfl (xo_div (by decide) (by decide) (by decide)) (by decide) rfl ?_
  refine q_retv (v := (0, 0, 0)) rfl rfl ⟨rfl, by omega, by omega, ?_⟩
  refine q_store (loc2 := [(6, 0, 0), (0, 1, 0), (6, 237, 0), (0, 0, 0)]) (p2 := 19) rfl rfl rfl rfl rfl ?_
  refine q_load (v := (6, 237, 0)) (p2 := 20) rfl rfl rfl rfl ?_
  refine q_load (v := (0, 1, 0)) (p2 := 21) rfl rfl rfl rfl ?_
  refine q_callK (xs := [(0, 1, 0), (6, 237, 0)]) (p2 := 22) rfl rfl rfl rfl (x_rcv_s 237 hm3.2.2.2.2.2.2.2.2.2.1.choose_spec.1) rfl rfl ?_
  refine x_f_of rfl ?_
  refine q_load (v := (0, 1, 0)) (p2 := 1) rfl rfl rfl rfl ?_
  refine q_const (p2 := 2) rfl rfl ?_
  refine q_load (v := (6, 237, 0)) (p2 := 3) rfl rfl rfl rfl ?_
  refine q_getv (v := (6, 246, 0)) (p2 := 4) rfl hm3.2.2.2.2.2.2.2.2.2.1.choose_spec.1 (by decide) hm3.2.2.2.2.2.2.2.2.2.1.choose_spec.2.2.2.1 rfl ?_
  refine q_const (p2 := 5) rfl rfl ?_
  refine q_aldv (v := (0, 3, 0)) (p2 := 6) rfl (x_sc_246 hm3.2.2.2.2.2.2.2.2.2) (by omega) (by omega) rfl rfl ?_
  refine q_iop (w := 3 * 3) (z := 9) (p2 := 7) rfl (xo_mul 3 3) (by decide) rfl ?_
  refine q_iop (w := 1 + (4294967296 - 9 % 4294967296)) (z := 4294967288) (p2 := 8) rfl (xo_sub 1 9) (by decide) rfl ?_
  refine q_store (loc2 := [(6, 237, 0), (0, 1, 0), (0, 4294967288, 0)]) (p2 := 9) rfl rfl rfl rfl rfl ?_
  refine q_load (v := (0, 4294967288, 0)) (p2 := 10) rfl rfl rfl rfl ?_
  refine q_if0 (p2 := 11) rfl (by decide) rfl (fun hb => absurd hb (show ¬ (¬ (2147483640 < 2147483648)) by decide)) (fun _ => ?_)
  refine q_load (v := (0, 1, 0)) (p2 := 12) rfl rfl rfl rfl ?_
  refine q_const (p2 := 13) rfl rfl ?_
  refine q_iop (w := 1 % 3) (z := 1) (p2 := 14) rfl (xo_rem (by decide) (by decide) (by decide)) (by decide) rfl ?_
  refine q_retv (v := (0, 1, 0)) rfl rfl ⟨rfl, by omega, by omega, ?_⟩
  refine q_switch (tgt := 28) rfl (by decide) rfl ?_
  refine q_load (v := (6, 0, 0)) (p2 := 29) rfl rfl rfl rfl ?_
  have hm4 := (zq_H_at hH (frn1 0 (by omega) (by omega) (by omega)))
  refine q_getv (v := (6, 468, 0)) (p2 := 30) rfl hm4 (by decide) rfl rfl ?_
  refine q_load (v := (0, 0, 0)) (p2 := 31) rfl rfl rfl rfl ?_
  have hm5 := (zq_tp_at hB (frn1 1 (by omega) (by omega) (by omega)))
  have hm6 := (zTJ_at hTJ (fun j h1 h2 => (frn1 j (by omega) (by omega) (by omega))))
  have hm7 := (zEJ_at hEJ (fun j h1 h2 => (frn1 j (by omega) (by omega) (by omega))))
  have hm8 := (zq_nm_at hN (frn1 239 (by omega) (by omega) (by omega)) (frn1 242 (by omega) (by omega) (by omega)) (frn1 244 (by omega) (by omega) (by omega)))
  have hm9 := (x_SP_at hSP (fun j hj hne => by have hj2 := x_some_lt hlt0 hne; exact (frn1 j (by omega) (by omega) (by omega))))
  have hm10 := (zq_V5_at hV5 (frn1 485 (by omega) (by omega) (by omega)))
  have hm11 := (zq_SL_at hSL (frn1 482 (by omega) (by omega) (by omega)))
  have hm12 := (zq_RW_at hRW (frn1 483 (by omega) (by omega) (by omega)))
  have hm13 := (zq_J_at hJ (frn1 468 (by omega) (by omega) (by omega)) (frn1 469 (by omega) (by omega) (by omega)) (frn1 470 (by omega) (by omega) (by omega)))
  have hm14 := (zFJ_at hFJ (fun j h1 h2 => (frn1 j (by omega) (by omega) (by omega))))
  have hm15 := (zWJ_at hWJ (fun j h1 h2 => (frn1 j (by omega) (by omega) (by omega))))
  have hm16 := (zq_OV_at hOV (frn1 452 (by omega) (by omega) (by omega)) (frn1 453 (by omega) (by omega) (by omega)))
  refine q_callrB (xs := [(0, 0, 0), (6, 468, 0)]) (p2 := 32) rfl rfl rfl rfl (x_rcv_s 468 hm13.1) rfl (zc_jx_1 ⟨⟨_, _, hm4, (x_hw_at hhw (fun j hj hne => by have hj2 := x_some_lt hlt0 hne; exact (frn1 j (by omega) (by omega) (by omega))))⟩, hm5, hm6, hm7, hm8, ⟨_, ⟨_, _, _, _, _, _, _, _, _, _, hm3⟩, hco⟩, ⟨_, _, _, hPS1, hLKx1⟩, hm9, hm10, ⟨_, hm11⟩, hm12, hm13, hm14, hm15, ⟨_, _, hm16, hovn, hovh⟩⟩ (by omega) hpv (by omega) hI0 hI1 hI3 hcb) rfl (fun w17 φ17 n17 sl17 hn17 hN17 hs17 hT17 hR17 => ?_)
  obtain ⟨mi2, noted2, verd2, ins2, ver2, hw2, hmi2, hJI2, hG2⟩ := hR17
  subst hw2
  exact q_retv (v := (0, verd2, 0)) rfl rfl (⟨rfl, ⟨by omega, by omega⟩, ⟨by omega, by omega⟩, _, _, _, _, _, rfl, hmi2, hJI2, hG2⟩)
theorem zc_jx_2 {d n sl : Nat} {φ : FH} {tpd : Nat} {tp : Nat → Nat} {lf : Nat} {mi : Nat} {made : Nat} {sv : Nat} {svm : Nat} {comb : Nat → Nat} {hm : Nat → MV} {sc : Nat → Nat} {sm : Nat → MV} {mh : MV} {noted : Nat} {verd : Nat} {ins : Nat → Nat} {ver : Nat → Nat} {sz : Nat} {bw : Nat → Nat} (hG : zG φ tpd tp lf mi made sv svm comb hm sc sm mh noted verd ins ver sz bw) (hn0 : 486 ≤ n) (hpv : ∀ i, x_pv2 (hm i)) (hmi : mi + 300 ≤ 20000) (hI0 : ∀ x, x < 40 → zI0 hm x) (hI1 : ∀ x, x < 40 → zI1 hm x) (hI3 : ∀ x, x < 40 → zI3 hm x) (hcb : ∀ x, x < made → comb x = 0 ∨ comb x = 3 ∨ comb x = 5)  : x_f x_P (d + 4) 69 [(6, 468, 0), (0, 0, 0), (11, 0, 0), (11, 0, 0), (11, 0, 0), (11, 0, 0)] φ n sl (x_bR n sl 100 600 (fun zw φ2 => ∃ mi2 noted2 verd2 : Nat, ∃ ins2 ver2 : Nat → Nat, zw = (0, verd2, 0) ∧ mi2 ≤ mi + 100 ∧ JI (qN made comb hm) made noted2 verd2 ins2 ver2 ∧ zG φ2 tpd tp lf mi2 made sv svm comb hm sc sm mh noted2 verd2 ins2 ver2 sz bw)) := by
  refine x_f_of rfl ?_
  have hG0 := hG
  obtain ⟨⟨hand, ie, hH, hhw⟩, hB, hTJ, hEJ, hN, hKJ, ⟨A, B, s9, hPS, hLK0⟩, hSP, hV5, ⟨slq, hSL⟩, hRW, hJ, hFJ, hWJ, ⟨ovn, ovh, hOV, hovn, hovh⟩⟩ := hG
  refine x_n_lt (fun hlt0 => ?_)
  have hmade := x_PS_lt hPS
  obtain ⟨co, ⟨top_, fr_, pc_, mm, st, lo, re, rs, fl, se, hKS⟩, hco⟩ := hKJ
  refine q_load (v := (6, 468, 0)) (p2 := 1) rfl rfl rfl rfl ?_
  refine q_callvE (xs := [(6, 468, 0)]) (p2 := 2) rfl rfl rfl rfl (x_rcv_s 468 hJ.1) rfl (zc_j_clear hJ) (Nat.le_refl _) (Nat.le_refl _) rfl (fun φ1 hR1 => ?_)
  obtain ⟨hs1_0, fr1⟩ := hR1
  refine q_const (p2 := 3) rfl rfl ?_
  refine q_store (loc2 := [(6, 468, 0), (0, 0, 0), (0, 0, 0), (11, 0, 0), (11, 0, 0), (11, 0, 0)]) (p2 := 4) rfl rfl rfl rfl rfl ?_
  have hm2 := (zq_H_at hH (fr1 0 (by decide)))
  have hm3 := (zq_tp_at hB (fr1 1 (by decide)))
  have hm4 := (zTJ_at hTJ (fun j h1 h2 => (fr1 j (by omega))))
  have hm5 := (zEJ_at hEJ (fun j h1 h2 => (fr1 j (by omega))))
  have hm6 := (zq_nm_at hN (fr1 239 (by decide)) (fr1 242 (by decide)) (fr1 244 (by decide)))
  have hm7 := (x_KS_at2 hKS (fun j h1 h2 h3 h4 => (fr1 j (by omega))))
  refine x_n_lt (fun hlt9 => ?_)
  have hm8 := (x_PS_at hPS (fun j hj hne => by have hj2 := x_some_lt hlt0 hne; exact (fr1 j (by omega))))
  have hm10 := (x_LK_at2 hLK0 (fun j h1 h2 => (fr1 j (by omega))))
  have hm11 := (x_SP_at hSP (fun j hj hne => by have hj2 := x_some_lt hlt0 hne; exact (fr1 j (by omega))))
  have hm12 := (zq_V5_at hV5 (fr1 485 (by decide)))
  have hm13 := (zq_SL_at hSL (fr1 482 (by decide)))
  have hm14 := (zq_RW_at hRW (fr1 483 (by decide)))
  have hm15 := (zFJ_at hFJ (fun j h1 h2 => (fr1 j (by omega))))
  have hm16 := (zWJ_at hWJ (fun j h1 h2 => (fr1 j (by omega))))
  have hm17 := (zq_OV_at hOV (fr1 452 (by decide)) (fr1 453 (by decide)))
  exact zc_jl_2 hpv hI0 hI1 hI3 hcb hn0 (by omega) hmade made 0 _ _ _ _ _ _ _ _ _ _ _ (by omega) hmade ⟨⟨_, _, hm2, (x_hw_at hhw (fun j hj hne => by have hj2 := x_some_lt hlt0 hne; exact (fr1 j (by omega))))⟩, hm3, hm4, hm5, hm6, ⟨_, ⟨_, _, _, _, _, _, _, _, _, _, hm7⟩, hco⟩, ⟨_, _, _, hm8, hm10⟩, hm11, hm12, ⟨_, hm13⟩, hm14, hs1_0, hm15, hm16, ⟨_, _, hm17, hovn, hovh⟩⟩ JI_0 (by omega) (by omega) (by omega)
theorem zc_judge_2 {d n sl : Nat} {φ : FH} {tpd : Nat} {tp : Nat → Nat} {lf : Nat} {mi : Nat} {made : Nat} {sv : Nat} {svm : Nat} {comb : Nat → Nat} {hm : Nat → MV} {sc : Nat → Nat} {sm : Nat → MV} {mh : MV} {noted : Nat} {verd : Nat} {ins : Nat → Nat} {ver : Nat → Nat} {sz : Nat} {bw : Nat → Nat} (hG : zG φ tpd tp lf mi made sv svm comb hm sc sm mh noted verd ins ver sz bw) (hn0 : 486 ≤ n) (hpv : ∀ i, x_pv2 (hm i)) (hmi : mi + 300 ≤ 20000) (hI0 : ∀ x, x < 40 → zI0 hm x) (hI1 : ∀ x, x < 40 → zI1 hm x) (hI3 : ∀ x, x < 40 → zI3 hm x) (hcb : ∀ x, x < made → comb x = 0 ∨ comb x = 3 ∨ comb x = 5)  : x_f x_P (d + 6) 27 [(6, 0, 0), (0, 2, 0), (11, 0, 0), (11, 0, 0)] φ n sl (x_bR n sl 100 600 (fun zw φ2 => ∃ mi2 noted2 verd2 : Nat, ∃ ins2 ver2 : Nat → Nat, zw = (0, verd2, 0) ∧ mi2 ≤ mi + 100 ∧ JI (qN made comb hm) made noted2 verd2 ins2 ver2 ∧ zG φ2 tpd tp lf mi2 made sv svm comb hm sc sm mh noted2 verd2 ins2 ver2 sz bw)) := by
  refine x_f_of rfl ?_
  have hG0 := hG
  obtain ⟨⟨hand, ie, hH, hhw⟩, hB, hTJ, hEJ, hN, hKJ, ⟨A, B, s9, hPS, hLK0⟩, hSP, hV5, ⟨slq, hSL⟩, hRW, hJ, hFJ, hWJ, ⟨ovn, ovh, hOV, hovn, hovh⟩⟩ := hG
  refine x_n_lt (fun hlt0 => ?_)
  have hmade := x_PS_lt hPS
  obtain ⟨co, ⟨top_, fr_, pc_, mm, st, lo, re, rs, fl, se, hKS⟩, hco⟩ := hKJ
  refine q_load (v := (6, 0, 0)) (p2 := 1) rfl rfl rfl rfl ?_
  refine q_getv (v := (6, 7, 0)) (p2 := 2) rfl hH (by decide) rfl rfl ?_
  refine q_getv (v := (6, 237, 0)) (p2 := 3) rfl hPS.1.choose_spec.1 (by decide) hPS.1.choose_spec.2.1 rfl ?_
  refine q_store (loc2 := [(6, 0, 0), (0, 2, 0), (6, 237, 0), (11, 0, 0)]) (p2 := 4) rfl rfl rfl rfl rfl ?_
  refine q_load (v := (0, 2, 0)) (p2 := 5) rfl rfl rfl rfl ?_
  refine q_if0_s (p2 := 6) rfl (by decide) (by omega) rfl (fun hb => absurd hb (show ¬ (2 < 0) by omega)) (fun _ => ?_)
  refine q_load (v := (0, 2, 0)) (p2 := 7) rfl rfl rfl rfl ?_
  refine q_load (v := (6, 237, 0)) (p2 := 8) rfl rfl rfl rfl ?_
  refine q_callK (xs := [(6, 237, 0)]) (p2 := 9) rfl rfl rfl rfl (x_rcv_s 237 hKS.2.2.2.2.2.2.2.2.2.1.choose_spec.1) rfl rfl ?_
  refine x_f_of rfl ?_
  refine q_const (p2 := 1) rfl rfl ?_
  refine q_load (v := (6, 237, 0)) (p2 := 2) rfl rfl rfl rfl ?_
  refine q_getv (v := (6, 246, 0)) (p2 := 3) rfl hKS.2.2.2.2.2.2.2.2.2.1.choose_spec.1 (by decide) hKS.2.2.2.2.2.2.2.2.2.1.choose_spec.2.2.2.1 rfl ?_
  refine q_const (p2 := 4) rfl rfl ?_
  refine q_aldv (v := (0, 3, 0)) (p2 := 5) rfl (x_sc_246 hKS.2.2.2.2.2.2.2.2.2) (by omega) (by omega) rfl rfl ?_
  refine q_iop (w := 3 * 3) (z := 9) (p2 := 6) rfl (xo_mul 3 3) (by decide) rfl ?_
  refine q_load (v := (6, 237, 0)) (p2 := 7) rfl rfl rfl rfl ?_
  refine q_getv (v := (6, 246, 0)) (p2 := 8) rfl hKS.2.2.2.2.2.2.2.2.2.1.choose_spec.1 (by decide) hKS.2.2.2.2.2.2.2.2.2.1.choose_spec.2.2.2.1 rfl ?_
  refine q_const (p2 := 9) rfl rfl ?_
  refine q_aldv (v := (0, 0, 0)) (p2 := 10) rfl (x_sc_246 hKS.2.2.2.2.2.2.2.2.2) (by omega) (by omega) rfl rfl ?_
  refine q_iop (w := 9 + 0) (z := 9) (p2 := 11) rfl (xo_add 9 0) (by decide) rfl ?_
  refine q_load (v := (6, 237, 0)) (p2 := 12) rfl rfl rfl rfl ?_
  refine q_getv (v := (6, 246, 0)) (p2 := 13) rfl hKS.2.2.2.2.2.2.2.2.2.1.choose_spec.1 (by decide) hKS.2.2.2.2.2.2.2.2.2.1.choose_spec.2.2.2.1 rfl ?_
  refine q_const (p2 := 14) rfl rfl ?_
  refine q_aldv (v := (0, 0, 0)) (p2 := 15) rfl (x_sc_246 hKS.2.2.2.2.2.2.2.2.2) (by omega) (by omega) rfl rfl ?_
  refine q_iop (w := 9 + 0) (z := 9) (p2 := 16) rfl (xo_add 9 0) (by decide) rfl ?_
  refine q_retv (v := (0, 9, 0)) rfl rfl ⟨rfl, by omega, by omega, ?_⟩
  refine q_icmp_s (p2 := 10) rfl (by decide) (by omega) (by omega) rfl (fun _ => ?_) (fun hb => absurd (show 2 < 9 by omega) hb)
  refine q_load (v := (6, 0, 0)) (p2 := 13) rfl rfl rfl rfl ?_
  refine q_getv (v := (6, 7, 0)) (p2 := 14) rfl hH (by decide) rfl rfl ?_
  refine q_callvE (xs := [(6, 7, 0)]) (p2 := 15) rfl rfl rfl rfl (x_rcv_s 7 hPS.1.choose_spec.1) rfl (e_prepare hPS hLK0.1 hpv hKS.2.2.2.2.2.2.2.2.2) (Nat.le_refl _) (Nat.le_refl _) rfl (fun φ1 hR1 => ?_)
  obtain ⟨A1, B1, hPS1, hLK1, frn1⟩ := hR1
  have hAB1 := x_pop_AB hPS1.1.choose_spec
  obtain ⟨lik1, lb1, hL1, hLb1, hlk1⟩ := id hLK1
  refine x_n_lt (fun hlt2 => ?_)
  have hLKx1 : x_LK φ1 A1 B1 made 0 comb hm ∧ _ := ⟨hLK1, hAB1⟩
  refine q_load (v := (6, 237, 0)) (p2 := 16) rfl rfl rfl rfl ?_
  refine q_load (v := (0, 2, 0)) (p2 := 17) rfl rfl rfl rfl ?_
  have hm3 := (x_KS_at2 hKS (fun j h1 h2 h3 h4 => (frn1 j (by omega) (by omega) (by omega))))
  refine q_callK (xs := [(0, 2, 0), (6, 237, 0)]) (p2 := 18) rfl rfl rfl rfl (x_rcv_s 237 hm3.2.2.2.2.2.2.2.2.2.1.choose_spec.1) rfl rfl ?_
  refine x_f_of rfl ?_
  refine q_load (v := (0, 2, 0)) (p2 := 1) rfl rfl rfl rfl ?_
  refine q_const (p2 := 2) rfl rfl ?_
  refine q_load (v := (6, 237, 0)) (p2 := 3) rfl rfl rfl rfl ?_
  refine q_getv (v := (6, 246, 0)) (p2 := 4) rfl hm3.2.2.2.2.2.2.2.2.2.1.choose_spec.1 (by decide) hm3.2.2.2.2.2.2.2.2.2.1.choose_spec.2.2.2.1 rfl ?_
  refine q_const (p2 := 5) rfl rfl ?_
  refine q_aldv (v := (0, 3, 0)) (p2 := 6) rfl (x_sc_246 hm3.2.2.2.2.2.2.2.2.2) (by omega) (by omega) rfl rfl ?_
  refine q_iop (w := 3 * 3) (z := 9) (p2 := 7) rfl (xo_mul 3 3) (by decide) rfl ?_
  refine q_iop (w := 2 + (4294967296 - 9 % 4294967296)) (z := 4294967289) (p2 := 8) rfl (xo_sub 2 9) (by decide) rfl ?_
  refine q_store (loc2 := [(6, 237, 0), (0, 2, 0), (0, 4294967289, 0)]) (p2 := 9) rfl rfl rfl rfl rfl ?_
  refine q_load (v := (0, 4294967289, 0)) (p2 := 10) rfl rfl rfl rfl ?_
  refine q_if0 (p2 := 11) rfl (by decide) rfl (fun hb => absurd hb (show ¬ (¬ (2147483641 < 2147483648)) by decide)) (fun _ => ?_)
  refine q_load (v := (0, 2, 0)) (p2 := 12) rfl rfl rfl rfl ?_
  refine q_const (p2 := 13) rfl rfl ?_
  refine q_iop (w := 2 / 3) (z := 0) (p2 := 14) rfl (xo_div (by decide) (by decide) (by decide)) (by decide) rfl ?_
  refine q_retv (v := (0, 0, 0)) rfl rfl ⟨rfl, by omega, by omega, ?_⟩
  refine q_store (loc2 := [(6, 0, 0), (0, 2, 0), (6, 237, 0), (0, 0, 0)]) (p2 := 19) rfl rfl rfl rfl rfl ?_
  refine q_load (v := (6, 237, 0)) (p2 := 20) rfl rfl rfl rfl ?_
  refine q_load (v := (0, 2, 0)) (p2 := 21) rfl rfl rfl rfl ?_
  refine q_callK (xs := [(0, 2, 0), (6, 237, 0)]) (p2 := 22) rfl rfl rfl rfl (x_rcv_s 237 hm3.2.2.2.2.2.2.2.2.2.1.choose_spec.1) rfl rfl ?_
  refine x_f_of rfl ?_
  refine q_load (v := (0, 2, 0)) (p2 := 1) rfl rfl rfl rfl ?_
  refine q_const (p2 := 2) rfl rfl ?_
  refine q_load (v := (6, 237, 0)) (p2 := 3) rfl rfl rfl rfl ?_
  refine q_getv (v := (6, 246, 0)) (p2 := 4) rfl hm3.2.2.2.2.2.2.2.2.2.1.choose_spec.1 (by decide) hm3.2.2.2.2.2.2.2.2.2.1.choose_spec.2.2.2.1 rfl ?_
  refine q_const (p2 := 5) rfl rfl ?_
  refine q_aldv (v := (0, 3, 0)) (p2 := 6) rfl (x_sc_246 hm3.2.2.2.2.2.2.2.2.2) (by omega) (by omega) rfl rfl ?_
  refine q_iop (w := 3 * 3) (z := 9) (p2 := 7) rfl (xo_mul 3 3) (by decide) rfl ?_
  refine q_iop (w := 2 + (4294967296 - 9 % 4294967296)) (z := 4294967289) (p2 := 8) rfl (xo_sub 2 9) (by decide) rfl ?_
  refine q_store (loc2 := [(6, 237, 0), (0, 2, 0), (0, 4294967289, 0)]) (p2 := 9) rfl rfl rfl rfl rfl ?_
  refine q_load (v := (0, 4294967289, 0)) (p2 := 10) rfl rfl rfl rfl ?_
  refine q_if0 (p2 := 11) rfl (by decide) rfl (fun hb => absurd hb (show ¬ (¬ (2147483641 < 2147483648)) by decide)) (fun _ => ?_)
  refine q_load (v := (0, 2, 0)) (p2 := 12) rfl rfl rfl rfl ?_
  refine q_const (p2 := 13) rfl rfl ?_
  refine q_iop (w := 2 % 3) (z := 2) (p2 := 14) rfl (xo_rem (by decide) (by decide) (by decide)) (by decide) rfl ?_
  refine q_retv (v := (0, 2, 0)) rfl rfl ⟨rfl, by omega, by omega, ?_⟩
  refine q_switch (tgt := 33) rfl (by decide) rfl ?_
  refine q_load (v := (6, 0, 0)) (p2 := 34) rfl rfl rfl rfl ?_
  have hm4 := (zq_H_at hH (frn1 0 (by omega) (by omega) (by omega)))
  refine q_getv (v := (6, 468, 0)) (p2 := 35) rfl hm4 (by decide) rfl rfl ?_
  refine q_load (v := (0, 0, 0)) (p2 := 36) rfl rfl rfl rfl ?_
  have hm5 := (zq_tp_at hB (frn1 1 (by omega) (by omega) (by omega)))
  have hm6 := (zTJ_at hTJ (fun j h1 h2 => (frn1 j (by omega) (by omega) (by omega))))
  have hm7 := (zEJ_at hEJ (fun j h1 h2 => (frn1 j (by omega) (by omega) (by omega))))
  have hm8 := (zq_nm_at hN (frn1 239 (by omega) (by omega) (by omega)) (frn1 242 (by omega) (by omega) (by omega)) (frn1 244 (by omega) (by omega) (by omega)))
  have hm9 := (x_SP_at hSP (fun j hj hne => by have hj2 := x_some_lt hlt0 hne; exact (frn1 j (by omega) (by omega) (by omega))))
  have hm10 := (zq_V5_at hV5 (frn1 485 (by omega) (by omega) (by omega)))
  have hm11 := (zq_SL_at hSL (frn1 482 (by omega) (by omega) (by omega)))
  have hm12 := (zq_RW_at hRW (frn1 483 (by omega) (by omega) (by omega)))
  have hm13 := (zq_J_at hJ (frn1 468 (by omega) (by omega) (by omega)) (frn1 469 (by omega) (by omega) (by omega)) (frn1 470 (by omega) (by omega) (by omega)))
  have hm14 := (zFJ_at hFJ (fun j h1 h2 => (frn1 j (by omega) (by omega) (by omega))))
  have hm15 := (zWJ_at hWJ (fun j h1 h2 => (frn1 j (by omega) (by omega) (by omega))))
  have hm16 := (zq_OV_at hOV (frn1 452 (by omega) (by omega) (by omega)) (frn1 453 (by omega) (by omega) (by omega)))
  refine q_callrB (xs := [(0, 0, 0), (6, 468, 0)]) (p2 := 37) rfl rfl rfl rfl (x_rcv_s 468 hm13.1) rfl (zc_jx_2 ⟨⟨_, _, hm4, (x_hw_at hhw (fun j hj hne => by have hj2 := x_some_lt hlt0 hne; exact (frn1 j (by omega) (by omega) (by omega))))⟩, hm5, hm6, hm7, hm8, ⟨_, ⟨_, _, _, _, _, _, _, _, _, _, hm3⟩, hco⟩, ⟨_, _, _, hPS1, hLKx1⟩, hm9, hm10, ⟨_, hm11⟩, hm12, hm13, hm14, hm15, ⟨_, _, hm16, hovn, hovh⟩⟩ (by omega) hpv (by omega) hI0 hI1 hI3 hcb) rfl (fun w17 φ17 n17 sl17 hn17 hN17 hs17 hT17 hR17 => ?_)
  obtain ⟨mi2, noted2, verd2, ins2, ver2, hw2, hmi2, hJI2, hG2⟩ := hR17
  subst hw2
  exact q_retv (v := (0, verd2, 0)) rfl rfl (⟨rfl, ⟨by omega, by omega⟩, ⟨by omega, by omega⟩, _, _, _, _, _, rfl, hmi2, hJI2, hG2⟩)
theorem zc_jx_3 {d n sl : Nat} {φ : FH} {tpd : Nat} {tp : Nat → Nat} {lf : Nat} {mi : Nat} {made : Nat} {sv : Nat} {svm : Nat} {comb : Nat → Nat} {hm : Nat → MV} {sc : Nat → Nat} {sm : Nat → MV} {mh : MV} {noted : Nat} {verd : Nat} {ins : Nat → Nat} {ver : Nat → Nat} {sz : Nat} {bw : Nat → Nat} (hG : zG φ tpd tp lf mi made sv svm comb hm sc sm mh noted verd ins ver sz bw) (hn0 : 486 ≤ n) (hpv : ∀ i, x_pv2 (hm i)) (hmi : mi + 300 ≤ 20000) (hI0 : ∀ x, x < 40 → zI0 hm x) (hI1 : ∀ x, x < 40 → zI1 hm x) (hI3 : ∀ x, x < 40 → zI3 hm x) (hcb : ∀ x, x < made → comb x = 0 ∨ comb x = 3 ∨ comb x = 5)  : x_f x_P (d + 5) 67 [(6, 468, 0), (0, 1, 0), (11, 0, 0)] φ n sl (x_bR n sl 100 600 (fun zw φ2 => ∃ mi2 noted2 verd2 : Nat, ∃ ins2 ver2 : Nat → Nat, zw = (0, verd2, 0) ∧ mi2 ≤ mi + 100 ∧ JI (qN made comb hm) made noted2 verd2 ins2 ver2 ∧ zG φ2 tpd tp lf mi2 made sv svm comb hm sc sm mh noted2 verd2 ins2 ver2 sz bw)) := by
  refine x_f_of rfl ?_
  have hG0 := hG
  obtain ⟨⟨hand, ie, hH, hhw⟩, hB, hTJ, hEJ, hN, hKJ, ⟨A, B, s9, hPS, hLK0⟩, hSP, hV5, ⟨slq, hSL⟩, hRW, hJ, hFJ, hWJ, ⟨ovn, ovh, hOV, hovn, hovh⟩⟩ := hG
  refine x_n_lt (fun hlt0 => ?_)
  have hmade := x_PS_lt hPS
  obtain ⟨co, ⟨top_, fr_, pc_, mm, st, lo, re, rs, fl, se, hKS⟩, hco⟩ := hKJ
  refine q_load (v := (6, 468, 0)) (p2 := 1) rfl rfl rfl rfl ?_
  refine q_callvE (xs := [(6, 468, 0)]) (p2 := 2) rfl rfl rfl rfl (x_rcv_s 468 hJ.1) rfl (zc_j_clear hJ) (Nat.le_refl _) (Nat.le_refl _) rfl (fun φ1 hR1 => ?_)
  obtain ⟨hs1_0, fr1⟩ := hR1
  refine q_const (p2 := 3) rfl rfl ?_
  refine q_store (loc2 := [(6, 468, 0), (0, 1, 0), (0, 0, 0)]) (p2 := 4) rfl rfl rfl rfl rfl ?_
  have hm2 := (zq_H_at hH (fr1 0 (by decide)))
  have hm3 := (zq_tp_at hB (fr1 1 (by decide)))
  have hm4 := (zTJ_at hTJ (fun j h1 h2 => (fr1 j (by omega))))
  have hm5 := (zEJ_at hEJ (fun j h1 h2 => (fr1 j (by omega))))
  have hm6 := (zq_nm_at hN (fr1 239 (by decide)) (fr1 242 (by decide)) (fr1 244 (by decide)))
  have hm7 := (x_KS_at2 hKS (fun j h1 h2 h3 h4 => (fr1 j (by omega))))
  refine x_n_lt (fun hlt9 => ?_)
  have hm8 := (x_PS_at hPS (fun j hj hne => by have hj2 := x_some_lt hlt0 hne; exact (fr1 j (by omega))))
  have hm10 := (x_LK_at2 hLK0 (fun j h1 h2 => (fr1 j (by omega))))
  have hm11 := (x_SP_at hSP (fun j hj hne => by have hj2 := x_some_lt hlt0 hne; exact (fr1 j (by omega))))
  have hm12 := (zq_V5_at hV5 (fr1 485 (by decide)))
  have hm13 := (zq_SL_at hSL (fr1 482 (by decide)))
  have hm14 := (zq_RW_at hRW (fr1 483 (by decide)))
  have hm15 := (zFJ_at hFJ (fun j h1 h2 => (fr1 j (by omega))))
  have hm16 := (zWJ_at hWJ (fun j h1 h2 => (fr1 j (by omega))))
  have hm17 := (zq_OV_at hOV (fr1 452 (by decide)) (fr1 453 (by decide)))
  exact zc_jl_3 hpv hI0 hI1 hI3 hcb hn0 (by omega) hmade made 0 _ _ _ _ _ _ _ _ (by omega) hmade ⟨⟨_, _, hm2, (x_hw_at hhw (fun j hj hne => by have hj2 := x_some_lt hlt0 hne; exact (fr1 j (by omega))))⟩, hm3, hm4, hm5, hm6, ⟨_, ⟨_, _, _, _, _, _, _, _, _, _, hm7⟩, hco⟩, ⟨_, _, _, hm8, hm10⟩, hm11, hm12, ⟨_, hm13⟩, hm14, hs1_0, hm15, hm16, ⟨_, _, hm17, hovn, hovh⟩⟩ JI_0 (by omega) (by omega) (by omega)
theorem zc_judge_3 {d n sl : Nat} {φ : FH} {tpd : Nat} {tp : Nat → Nat} {lf : Nat} {mi : Nat} {made : Nat} {sv : Nat} {svm : Nat} {comb : Nat → Nat} {hm : Nat → MV} {sc : Nat → Nat} {sm : Nat → MV} {mh : MV} {noted : Nat} {verd : Nat} {ins : Nat → Nat} {ver : Nat → Nat} {sz : Nat} {bw : Nat → Nat} (hG : zG φ tpd tp lf mi made sv svm comb hm sc sm mh noted verd ins ver sz bw) (hn0 : 486 ≤ n) (hpv : ∀ i, x_pv2 (hm i)) (hmi : mi + 300 ≤ 20000) (hI0 : ∀ x, x < 40 → zI0 hm x) (hI1 : ∀ x, x < 40 → zI1 hm x) (hI3 : ∀ x, x < 40 → zI3 hm x) (hcb : ∀ x, x < made → comb x = 0 ∨ comb x = 3 ∨ comb x = 5)  : x_f x_P (d + 6) 27 [(6, 0, 0), (0, 3, 0), (11, 0, 0), (11, 0, 0)] φ n sl (x_bR n sl 100 600 (fun zw φ2 => ∃ mi2 noted2 verd2 : Nat, ∃ ins2 ver2 : Nat → Nat, zw = (0, verd2, 0) ∧ mi2 ≤ mi + 100 ∧ JI (qN made comb hm) made noted2 verd2 ins2 ver2 ∧ zG φ2 tpd tp lf mi2 made sv svm comb hm sc sm mh noted2 verd2 ins2 ver2 sz bw)) := by
  refine x_f_of rfl ?_
  have hG0 := hG
  obtain ⟨⟨hand, ie, hH, hhw⟩, hB, hTJ, hEJ, hN, hKJ, ⟨A, B, s9, hPS, hLK0⟩, hSP, hV5, ⟨slq, hSL⟩, hRW, hJ, hFJ, hWJ, ⟨ovn, ovh, hOV, hovn, hovh⟩⟩ := hG
  refine x_n_lt (fun hlt0 => ?_)
  have hmade := x_PS_lt hPS
  obtain ⟨co, ⟨top_, fr_, pc_, mm, st, lo, re, rs, fl, se, hKS⟩, hco⟩ := hKJ
  refine q_load (v := (6, 0, 0)) (p2 := 1) rfl rfl rfl rfl ?_
  refine q_getv (v := (6, 7, 0)) (p2 := 2) rfl hH (by decide) rfl rfl ?_
  refine q_getv (v := (6, 237, 0)) (p2 := 3) rfl hPS.1.choose_spec.1 (by decide) hPS.1.choose_spec.2.1 rfl ?_
  refine q_store (loc2 := [(6, 0, 0), (0, 3, 0), (6, 237, 0), (11, 0, 0)]) (p2 := 4) rfl rfl rfl rfl rfl ?_
  refine q_load (v := (0, 3, 0)) (p2 := 5) rfl rfl rfl rfl ?_
  refine q_if0_s (p2 := 6) rfl (by decide) (by omega) rfl (fun hb => absurd hb (show ¬ (3 < 0) by omega)) (fun _ => ?_)
  refine q_load (v := (0, 3, 0)) (p2 := 7) rfl rfl rfl rfl ?_
  refine q_load (v := (6, 237, 0)) (p2 := 8) rfl rfl rfl rfl ?_
  refine q_callK (xs := [(6, 237, 0)]) (p2 := 9) rfl rfl rfl rfl (x_rcv_s 237 hKS.2.2.2.2.2.2.2.2.2.1.choose_spec.1) rfl rfl ?_
  refine x_f_of rfl ?_
  refine q_const (p2 := 1) rfl rfl ?_
  refine q_load (v := (6, 237, 0)) (p2 := 2) rfl rfl rfl rfl ?_
  refine q_getv (v := (6, 246, 0)) (p2 := 3) rfl hKS.2.2.2.2.2.2.2.2.2.1.choose_spec.1 (by decide) hKS.2.2.2.2.2.2.2.2.2.1.choose_spec.2.2.2.1 rfl ?_
  refine q_const (p2 := 4) rfl rfl ?_
  refine q_aldv (v := (0, 3, 0)) (p2 := 5) rfl (x_sc_246 hKS.2.2.2.2.2.2.2.2.2) (by omega) (by omega) rfl rfl ?_
  refine q_iop (w := 3 * 3) (z := 9) (p2 := 6) rfl (xo_mul 3 3) (by decide) rfl ?_
  refine q_load (v := (6, 237, 0)) (p2 := 7) rfl rfl rfl rfl ?_
  refine q_getv (v := (6, 246, 0)) (p2 := 8) rfl hKS.2.2.2.2.2.2.2.2.2.1.choose_spec.1 (by decide) hKS.2.2.2.2.2.2.2.2.2.1.choose_spec.2.2.2.1 rfl ?_
  refine q_const (p2 := 9) rfl rfl ?_
  refine q_aldv (v := (0, 0, 0)) (p2 := 10) rfl (x_sc_246 hKS.2.2.2.2.2.2.2.2.2) (by omega) (by omega) rfl rfl ?_
  refine q_iop (w := 9 + 0) (z := 9) (p2 := 11) rfl (xo_add 9 0) (by decide) rfl ?_
  refine q_load (v := (6, 237, 0)) (p2 := 12) rfl rfl rfl rfl ?_
  refine q_getv (v := (6, 246, 0)) (p2 := 13) rfl hKS.2.2.2.2.2.2.2.2.2.1.choose_spec.1 (by decide) hKS.2.2.2.2.2.2.2.2.2.1.choose_spec.2.2.2.1 rfl ?_
  refine q_const (p2 := 14) rfl rfl ?_
  refine q_aldv (v := (0, 0, 0)) (p2 := 15) rfl (x_sc_246 hKS.2.2.2.2.2.2.2.2.2) (by omega) (by omega) rfl rfl ?_
  refine q_iop (w := 9 + 0) (z := 9) (p2 := 16) rfl (xo_add 9 0) (by decide) rfl ?_
  refine q_retv (v := (0, 9, 0)) rfl rfl ⟨rfl, by omega, by omega, ?_⟩
  refine q_icmp_s (p2 := 10) rfl (by decide) (by omega) (by omega) rfl (fun _ => ?_) (fun hb => absurd (show 3 < 9 by omega) hb)
  refine q_load (v := (6, 0, 0)) (p2 := 13) rfl rfl rfl rfl ?_
  refine q_getv (v := (6, 7, 0)) (p2 := 14) rfl hH (by decide) rfl rfl ?_
  refine q_callvE (xs := [(6, 7, 0)]) (p2 := 15) rfl rfl rfl rfl (x_rcv_s 7 hPS.1.choose_spec.1) rfl (e_prepare hPS hLK0.1 hpv hKS.2.2.2.2.2.2.2.2.2) (Nat.le_refl _) (Nat.le_refl _) rfl (fun φ1 hR1 => ?_)
  obtain ⟨A1, B1, hPS1, hLK1, frn1⟩ := hR1
  have hAB1 := x_pop_AB hPS1.1.choose_spec
  obtain ⟨lik1, lb1, hL1, hLb1, hlk1⟩ := id hLK1
  refine x_n_lt (fun hlt2 => ?_)
  have hLKx1 : x_LK φ1 A1 B1 made 0 comb hm ∧ _ := ⟨hLK1, hAB1⟩
  refine q_load (v := (6, 237, 0)) (p2 := 16) rfl rfl rfl rfl ?_
  refine q_load (v := (0, 3, 0)) (p2 := 17) rfl rfl rfl rfl ?_
  have hm3 := (x_KS_at2 hKS (fun j h1 h2 h3 h4 => (frn1 j (by omega) (by omega) (by omega))))
  refine q_callK (xs := [(0, 3, 0), (6, 237, 0)]) (p2 := 18) rfl rfl rfl rfl (x_rcv_s 237 hm3.2.2.2.2.2.2.2.2.2.1.choose_spec.1) rfl rfl ?_
  refine x_f_of rfl ?_
  refine q_load (v := (0, 3, 0)) (p2 := 1) rfl rfl rfl rfl ?_
  refine q_const (p2 := 2) rfl rfl ?_
  refine q_load (v := (6, 237, 0)) (p2 := 3) rfl rfl rfl rfl ?_
  refine q_getv (v := (6, 246, 0)) (p2 := 4) rfl hm3.2.2.2.2.2.2.2.2.2.1.choose_spec.1 (by decide) hm3.2.2.2.2.2.2.2.2.2.1.choose_spec.2.2.2.1 rfl ?_
  refine q_const (p2 := 5) rfl rfl ?_
  refine q_aldv (v := (0, 3, 0)) (p2 := 6) rfl (x_sc_246 hm3.2.2.2.2.2.2.2.2.2) (by omega) (by omega) rfl rfl ?_
  refine q_iop (w := 3 * 3) (z := 9) (p2 := 7) rfl (xo_mul 3 3) (by decide) rfl ?_
  refine q_iop (w := 3 + (4294967296 - 9 % 4294967296)) (z := 4294967290) (p2 := 8) rfl (xo_sub 3 9) (by decide) rfl ?_
  refine q_store (loc2 := [(6, 237, 0), (0, 3, 0), (0, 4294967290, 0)]) (p2 := 9) rfl rfl rfl rfl rfl ?_
  refine q_load (v := (0, 4294967290, 0)) (p2 := 10) rfl rfl rfl rfl ?_
  refine q_if0 (p2 := 11) rfl (by decide) rfl (fun hb => absurd hb (show ¬ (¬ (2147483642 < 2147483648)) by decide)) (fun _ => ?_)
  refine q_load (v := (0, 3, 0)) (p2 := 12) rfl rfl rfl rfl ?_
  refine q_const (p2 := 13) rfl rfl ?_
  refine q_iop (w := 3 / 3) (z := 1) (p2 := 14) rfl (xo_div (by decide) (by decide) (by decide)) (by decide) rfl ?_
  refine q_retv (v := (0, 1, 0)) rfl rfl ⟨rfl, by omega, by omega, ?_⟩
  refine q_store (loc2 := [(6, 0, 0), (0, 3, 0), (6, 237, 0), (0, 1, 0)]) (p2 := 19) rfl rfl rfl rfl rfl ?_
  refine q_load (v := (6, 237, 0)) (p2 := 20) rfl rfl rfl rfl ?_
  refine q_load (v := (0, 3, 0)) (p2 := 21) rfl rfl rfl rfl ?_
  refine q_callK (xs := [(0, 3, 0), (6, 237, 0)]) (p2 := 22) rfl rfl rfl rfl (x_rcv_s 237 hm3.2.2.2.2.2.2.2.2.2.1.choose_spec.1) rfl rfl ?_
  refine x_f_of rfl ?_
  refine q_load (v := (0, 3, 0)) (p2 := 1) rfl rfl rfl rfl ?_
  refine q_const (p2 := 2) rfl rfl ?_
  refine q_load (v := (6, 237, 0)) (p2 := 3) rfl rfl rfl rfl ?_
  refine q_getv (v := (6, 246, 0)) (p2 := 4) rfl hm3.2.2.2.2.2.2.2.2.2.1.choose_spec.1 (by decide) hm3.2.2.2.2.2.2.2.2.2.1.choose_spec.2.2.2.1 rfl ?_
  refine q_const (p2 := 5) rfl rfl ?_
  refine q_aldv (v := (0, 3, 0)) (p2 := 6) rfl (x_sc_246 hm3.2.2.2.2.2.2.2.2.2) (by omega) (by omega) rfl rfl ?_
  refine q_iop (w := 3 * 3) (z := 9) (p2 := 7) rfl (xo_mul 3 3) (by decide) rfl ?_
  refine q_iop (w := 3 + (4294967296 - 9 % 4294967296)) (z := 4294967290) (p2 := 8) rfl (xo_sub 3 9) (by decide) rfl ?_
  refine q_store (loc2 := [(6, 237, 0), (0, 3, 0), (0, 4294967290, 0)]) (p2 := 9) rfl rfl rfl rfl rfl ?_
  refine q_load (v := (0, 4294967290, 0)) (p2 := 10) rfl rfl rfl rfl ?_
  refine q_if0 (p2 := 11) rfl (by decide) rfl (fun hb => absurd hb (show ¬ (¬ (2147483642 < 2147483648)) by decide)) (fun _ => ?_)
  refine q_load (v := (0, 3, 0)) (p2 := 12) rfl rfl rfl rfl ?_
  refine q_const (p2 := 13) rfl rfl ?_
  refine q_iop (w := 3 % 3) (z := 0) (p2 := 14) rfl (xo_rem (by decide) (by decide) (by decide)) (by decide) rfl ?_
  refine q_retv (v := (0, 0, 0)) rfl rfl ⟨rfl, by omega, by omega, ?_⟩
  refine q_switch (tgt := 23) rfl (by decide) rfl ?_
  refine q_load (v := (6, 0, 0)) (p2 := 24) rfl rfl rfl rfl ?_
  have hm4 := (zq_H_at hH (frn1 0 (by omega) (by omega) (by omega)))
  refine q_getv (v := (6, 468, 0)) (p2 := 25) rfl hm4 (by decide) rfl rfl ?_
  refine q_load (v := (0, 1, 0)) (p2 := 26) rfl rfl rfl rfl ?_
  have hm5 := (zq_tp_at hB (frn1 1 (by omega) (by omega) (by omega)))
  have hm6 := (zTJ_at hTJ (fun j h1 h2 => (frn1 j (by omega) (by omega) (by omega))))
  have hm7 := (zEJ_at hEJ (fun j h1 h2 => (frn1 j (by omega) (by omega) (by omega))))
  have hm8 := (zq_nm_at hN (frn1 239 (by omega) (by omega) (by omega)) (frn1 242 (by omega) (by omega) (by omega)) (frn1 244 (by omega) (by omega) (by omega)))
  have hm9 := (x_SP_at hSP (fun j hj hne => by have hj2 := x_some_lt hlt0 hne; exact (frn1 j (by omega) (by omega) (by omega))))
  have hm10 := (zq_V5_at hV5 (frn1 485 (by omega) (by omega) (by omega)))
  have hm11 := (zq_SL_at hSL (frn1 482 (by omega) (by omega) (by omega)))
  have hm12 := (zq_RW_at hRW (frn1 483 (by omega) (by omega) (by omega)))
  have hm13 := (zq_J_at hJ (frn1 468 (by omega) (by omega) (by omega)) (frn1 469 (by omega) (by omega) (by omega)) (frn1 470 (by omega) (by omega) (by omega)))
  have hm14 := (zFJ_at hFJ (fun j h1 h2 => (frn1 j (by omega) (by omega) (by omega))))
  have hm15 := (zWJ_at hWJ (fun j h1 h2 => (frn1 j (by omega) (by omega) (by omega))))
  have hm16 := (zq_OV_at hOV (frn1 452 (by omega) (by omega) (by omega)) (frn1 453 (by omega) (by omega) (by omega)))
  refine q_callrB (xs := [(0, 1, 0), (6, 468, 0)]) (p2 := 27) rfl rfl rfl rfl (x_rcv_s 468 hm13.1) rfl (zc_jx_3 ⟨⟨_, _, hm4, (x_hw_at hhw (fun j hj hne => by have hj2 := x_some_lt hlt0 hne; exact (frn1 j (by omega) (by omega) (by omega))))⟩, hm5, hm6, hm7, hm8, ⟨_, ⟨_, _, _, _, _, _, _, _, _, _, hm3⟩, hco⟩, ⟨_, _, _, hPS1, hLKx1⟩, hm9, hm10, ⟨_, hm11⟩, hm12, hm13, hm14, hm15, ⟨_, _, hm16, hovn, hovh⟩⟩ (by omega) hpv (by omega) hI0 hI1 hI3 hcb) rfl (fun w17 φ17 n17 sl17 hn17 hN17 hs17 hT17 hR17 => ?_)
  obtain ⟨mi2, noted2, verd2, ins2, ver2, hw2, hmi2, hJI2, hG2⟩ := hR17
  subst hw2
  exact q_retv (v := (0, verd2, 0)) rfl rfl (⟨rfl, ⟨by omega, by omega⟩, ⟨by omega, by omega⟩, _, _, _, _, _, rfl, hmi2, hJI2, hG2⟩)
theorem zc_jx_4 {d n sl : Nat} {φ : FH} {tpd : Nat} {tp : Nat → Nat} {lf : Nat} {mi : Nat} {made : Nat} {sv : Nat} {svm : Nat} {comb : Nat → Nat} {hm : Nat → MV} {sc : Nat → Nat} {sm : Nat → MV} {mh : MV} {noted : Nat} {verd : Nat} {ins : Nat → Nat} {ver : Nat → Nat} {sz : Nat} {bw : Nat → Nat} (hG : zG φ tpd tp lf mi made sv svm comb hm sc sm mh noted verd ins ver sz bw) (hn0 : 486 ≤ n) (hpv : ∀ i, x_pv2 (hm i)) (hmi : mi + 300 ≤ 20000) (hI0 : ∀ x, x < 40 → zI0 hm x) (hI1 : ∀ x, x < 40 → zI1 hm x) (hI3 : ∀ x, x < 40 → zI3 hm x) (hcb : ∀ x, x < made → comb x = 0 ∨ comb x = 3 ∨ comb x = 5)  : x_f x_P (d + 4) 68 [(6, 468, 0), (0, 1, 0), (11, 0, 0)] φ n sl (x_bR n sl 100 600 (fun zw φ2 => ∃ mi2 noted2 verd2 : Nat, ∃ ins2 ver2 : Nat → Nat, zw = (0, verd2, 0) ∧ mi2 ≤ mi + 100 ∧ JI (qN made comb hm) made noted2 verd2 ins2 ver2 ∧ zG φ2 tpd tp lf mi2 made sv svm comb hm sc sm mh noted2 verd2 ins2 ver2 sz bw)) := by
  refine x_f_of rfl ?_
  have hG0 := hG
  obtain ⟨⟨hand, ie, hH, hhw⟩, hB, hTJ, hEJ, hN, hKJ, ⟨A, B, s9, hPS, hLK0⟩, hSP, hV5, ⟨slq, hSL⟩, hRW, hJ, hFJ, hWJ, ⟨ovn, ovh, hOV, hovn, hovh⟩⟩ := hG
  refine x_n_lt (fun hlt0 => ?_)
  have hmade := x_PS_lt hPS
  obtain ⟨co, ⟨top_, fr_, pc_, mm, st, lo, re, rs, fl, se, hKS⟩, hco⟩ := hKJ
  refine q_load (v := (6, 468, 0)) (p2 := 1) rfl rfl rfl rfl ?_
  refine q_callvE (xs := [(6, 468, 0)]) (p2 := 2) rfl rfl rfl rfl (x_rcv_s 468 hJ.1) rfl (zc_j_clear hJ) (Nat.le_refl _) (Nat.le_refl _) rfl (fun φ1 hR1 => ?_)
  obtain ⟨hs1_0, fr1⟩ := hR1
  refine q_const (p2 := 3) rfl rfl ?_
  refine q_store (loc2 := [(6, 468, 0), (0, 1, 0), (0, 0, 0)]) (p2 := 4) rfl rfl rfl rfl rfl ?_
  have hm2 := (zq_H_at hH (fr1 0 (by decide)))
  have hm3 := (zq_tp_at hB (fr1 1 (by decide)))
  have hm4 := (zTJ_at hTJ (fun j h1 h2 => (fr1 j (by omega))))
  have hm5 := (zEJ_at hEJ (fun j h1 h2 => (fr1 j (by omega))))
  have hm6 := (zq_nm_at hN (fr1 239 (by decide)) (fr1 242 (by decide)) (fr1 244 (by decide)))
  have hm7 := (x_KS_at2 hKS (fun j h1 h2 h3 h4 => (fr1 j (by omega))))
  refine x_n_lt (fun hlt9 => ?_)
  have hm8 := (x_PS_at hPS (fun j hj hne => by have hj2 := x_some_lt hlt0 hne; exact (fr1 j (by omega))))
  have hm10 := (x_LK_at2 hLK0 (fun j h1 h2 => (fr1 j (by omega))))
  have hm11 := (x_SP_at hSP (fun j hj hne => by have hj2 := x_some_lt hlt0 hne; exact (fr1 j (by omega))))
  have hm12 := (zq_V5_at hV5 (fr1 485 (by decide)))
  have hm13 := (zq_SL_at hSL (fr1 482 (by decide)))
  have hm14 := (zq_RW_at hRW (fr1 483 (by decide)))
  have hm15 := (zFJ_at hFJ (fun j h1 h2 => (fr1 j (by omega))))
  have hm16 := (zWJ_at hWJ (fun j h1 h2 => (fr1 j (by omega))))
  have hm17 := (zq_OV_at hOV (fr1 452 (by decide)) (fr1 453 (by decide)))
  exact zc_jl_4 hpv hI0 hI1 hI3 hcb hn0 (by omega) hmade made 0 _ _ _ _ _ _ _ _ (by omega) hmade ⟨⟨_, _, hm2, (x_hw_at hhw (fun j hj hne => by have hj2 := x_some_lt hlt0 hne; exact (fr1 j (by omega))))⟩, hm3, hm4, hm5, hm6, ⟨_, ⟨_, _, _, _, _, _, _, _, _, _, hm7⟩, hco⟩, ⟨_, _, _, hm8, hm10⟩, hm11, hm12, ⟨_, hm13⟩, hm14, hs1_0, hm15, hm16, ⟨_, _, hm17, hovn, hovh⟩⟩ JI_0 (by omega) (by omega) (by omega)
theorem zc_judge_4 {d n sl : Nat} {φ : FH} {tpd : Nat} {tp : Nat → Nat} {lf : Nat} {mi : Nat} {made : Nat} {sv : Nat} {svm : Nat} {comb : Nat → Nat} {hm : Nat → MV} {sc : Nat → Nat} {sm : Nat → MV} {mh : MV} {noted : Nat} {verd : Nat} {ins : Nat → Nat} {ver : Nat → Nat} {sz : Nat} {bw : Nat → Nat} (hG : zG φ tpd tp lf mi made sv svm comb hm sc sm mh noted verd ins ver sz bw) (hn0 : 486 ≤ n) (hpv : ∀ i, x_pv2 (hm i)) (hmi : mi + 300 ≤ 20000) (hI0 : ∀ x, x < 40 → zI0 hm x) (hI1 : ∀ x, x < 40 → zI1 hm x) (hI3 : ∀ x, x < 40 → zI3 hm x) (hcb : ∀ x, x < made → comb x = 0 ∨ comb x = 3 ∨ comb x = 5)  : x_f x_P (d + 6) 27 [(6, 0, 0), (0, 4, 0), (11, 0, 0), (11, 0, 0)] φ n sl (x_bR n sl 100 600 (fun zw φ2 => ∃ mi2 noted2 verd2 : Nat, ∃ ins2 ver2 : Nat → Nat, zw = (0, verd2, 0) ∧ mi2 ≤ mi + 100 ∧ JI (qN made comb hm) made noted2 verd2 ins2 ver2 ∧ zG φ2 tpd tp lf mi2 made sv svm comb hm sc sm mh noted2 verd2 ins2 ver2 sz bw)) := by
  refine x_f_of rfl ?_
  have hG0 := hG
  obtain ⟨⟨hand, ie, hH, hhw⟩, hB, hTJ, hEJ, hN, hKJ, ⟨A, B, s9, hPS, hLK0⟩, hSP, hV5, ⟨slq, hSL⟩, hRW, hJ, hFJ, hWJ, ⟨ovn, ovh, hOV, hovn, hovh⟩⟩ := hG
  refine x_n_lt (fun hlt0 => ?_)
  have hmade := x_PS_lt hPS
  obtain ⟨co, ⟨top_, fr_, pc_, mm, st, lo, re, rs, fl, se, hKS⟩, hco⟩ := hKJ
  refine q_load (v := (6, 0, 0)) (p2 := 1) rfl rfl rfl rfl ?_
  refine q_getv (v := (6, 7, 0)) (p2 := 2) rfl hH (by decide) rfl rfl ?_
  refine q_getv (v := (6, 237, 0)) (p2 := 3) rfl hPS.1.choose_spec.1 (by decide) hPS.1.choose_spec.2.1 rfl ?_
  refine q_store (loc2 := [(6, 0, 0), (0, 4, 0), (6, 237, 0), (11, 0, 0)]) (p2 := 4) rfl rfl rfl rfl rfl ?_
  refine q_load (v := (0, 4, 0)) (p2 := 5) rfl rfl rfl rfl ?_
  refine q_if0_s (p2 := 6) rfl (by decide) (by omega) rfl (fun hb => absurd hb (show ¬ (4 < 0) by omega)) (fun _ => ?_)
  refine q_load (v := (0, 4, 0)) (p2 := 7) rfl rfl rfl rfl ?_
  refine q_load (v := (6, 237, 0)) (p2 := 8) rfl rfl rfl rfl ?_
  refine q_callK (xs := [(6, 237, 0)]) (p2 := 9) rfl rfl rfl rfl (x_rcv_s 237 hKS.2.2.2.2.2.2.2.2.2.1.choose_spec.1) rfl rfl ?_
  refine x_f_of rfl ?_
  refine q_const (p2 := 1) rfl rfl ?_
  refine q_load (v := (6, 237, 0)) (p2 := 2) rfl rfl rfl rfl ?_
  refine q_getv (v := (6, 246, 0)) (p2 := 3) rfl hKS.2.2.2.2.2.2.2.2.2.1.choose_spec.1 (by decide) hKS.2.2.2.2.2.2.2.2.2.1.choose_spec.2.2.2.1 rfl ?_
  refine q_const (p2 := 4) rfl rfl ?_
  refine q_aldv (v := (0, 3, 0)) (p2 := 5) rfl (x_sc_246 hKS.2.2.2.2.2.2.2.2.2) (by omega) (by omega) rfl rfl ?_
  refine q_iop (w := 3 * 3) (z := 9) (p2 := 6) rfl (xo_mul 3 3) (by decide) rfl ?_
  refine q_load (v := (6, 237, 0)) (p2 := 7) rfl rfl rfl rfl ?_
  refine q_getv (v := (6, 246, 0)) (p2 := 8) rfl hKS.2.2.2.2.2.2.2.2.2.1.choose_spec.1 (by decide) hKS.2.2.2.2.2.2.2.2.2.1.choose_spec.2.2.2.1 rfl ?_
  refine q_const (p2 := 9) rfl rfl ?_
  refine q_aldv (v := (0, 0, 0)) (p2 := 10) rfl (x_sc_246 hKS.2.2.2.2.2.2.2.2.2) (by omega) (by omega) rfl rfl ?_
  refine q_iop (w := 9 + 0) (z := 9) (p2 := 11) rfl (xo_add 9 0) (by decide) rfl ?_
  refine q_load (v := (6, 237, 0)) (p2 := 12) rfl rfl rfl rfl ?_
  refine q_getv (v := (6, 246, 0)) (p2 := 13) rfl hKS.2.2.2.2.2.2.2.2.2.1.choose_spec.1 (by decide) hKS.2.2.2.2.2.2.2.2.2.1.choose_spec.2.2.2.1 rfl ?_
  refine q_const (p2 := 14) rfl rfl ?_
  refine q_aldv (v := (0, 0, 0)) (p2 := 15) rfl (x_sc_246 hKS.2.2.2.2.2.2.2.2.2) (by omega) (by omega) rfl rfl ?_
  refine q_iop (w := 9 + 0) (z := 9) (p2 := 16) rfl (xo_add 9 0) (by decide) rfl ?_
  refine q_retv (v := (0, 9, 0)) rfl rfl ⟨rfl, by omega, by omega, ?_⟩
  refine q_icmp_s (p2 := 10) rfl (by decide) (by omega) (by omega) rfl (fun _ => ?_) (fun hb => absurd (show 4 < 9 by omega) hb)
  refine q_load (v := (6, 0, 0)) (p2 := 13) rfl rfl rfl rfl ?_
  refine q_getv (v := (6, 7, 0)) (p2 := 14) rfl hH (by decide) rfl rfl ?_
  refine q_callvE (xs := [(6, 7, 0)]) (p2 := 15) rfl rfl rfl rfl (x_rcv_s 7 hPS.1.choose_spec.1) rfl (e_prepare hPS hLK0.1 hpv hKS.2.2.2.2.2.2.2.2.2) (Nat.le_refl _) (Nat.le_refl _) rfl (fun φ1 hR1 => ?_)
  obtain ⟨A1, B1, hPS1, hLK1, frn1⟩ := hR1
  have hAB1 := x_pop_AB hPS1.1.choose_spec
  obtain ⟨lik1, lb1, hL1, hLb1, hlk1⟩ := id hLK1
  refine x_n_lt (fun hlt2 => ?_)
  have hLKx1 : x_LK φ1 A1 B1 made 0 comb hm ∧ _ := ⟨hLK1, hAB1⟩
  refine q_load (v := (6, 237, 0)) (p2 := 16) rfl rfl rfl rfl ?_
  refine q_load (v := (0, 4, 0)) (p2 := 17) rfl rfl rfl rfl ?_
  have hm3 := (x_KS_at2 hKS (fun j h1 h2 h3 h4 => (frn1 j (by omega) (by omega) (by omega))))
  refine q_callK (xs := [(0, 4, 0), (6, 237, 0)]) (p2 := 18) rfl rfl rfl rfl (x_rcv_s 237 hm3.2.2.2.2.2.2.2.2.2.1.choose_spec.1) rfl rfl ?_
  refine x_f_of rfl ?_
  refine q_load (v := (0, 4, 0)) (p2 := 1) rfl rfl rfl rfl ?_
  refine q_const (p2 := 2) rfl rfl ?_
  refine q_load (v := (6, 237, 0)) (p2 := 3) rfl rfl rfl rfl ?_
  refine q_getv (v := (6, 246, 0)) (p2 := 4) rfl hm3.2.2.2.2.2.2.2.2.2.1.choose_spec.1 (by decide) hm3.2.2.2.2.2.2.2.2.2.1.choose_spec.2.2.2.1 rfl ?_
  refine q_const (p2 := 5) rfl rfl ?_
  refine q_aldv (v := (0, 3, 0)) (p2 := 6) rfl (x_sc_246 hm3.2.2.2.2.2.2.2.2.2) (by omega) (by omega) rfl rfl ?_
  refine q_iop (w := 3 * 3) (z := 9) (p2 := 7) rfl (xo_mul 3 3) (by decide) rfl ?_
  refine q_iop (w := 4 + (4294967296 - 9 % 4294967296)) (z := 4294967291) (p2 := 8) rfl (xo_sub 4 9) (by decide) rfl ?_
  refine q_store (loc2 := [(6, 237, 0), (0, 4, 0), (0, 4294967291, 0)]) (p2 := 9) rfl rfl rfl rfl rfl ?_
  refine q_load (v := (0, 4294967291, 0)) (p2 := 10) rfl rfl rfl rfl ?_
  refine q_if0 (p2 := 11) rfl (by decide) rfl (fun hb => absurd hb (show ¬ (¬ (2147483643 < 2147483648)) by decide)) (fun _ => ?_)
  refine q_load (v := (0, 4, 0)) (p2 := 12) rfl rfl rfl rfl ?_
  refine q_const (p2 := 13) rfl rfl ?_
  refine q_iop (w := 4 / 3) (z := 1) (p2 := 14) rfl (xo_div (by decide) (by decide) (by decide)) (by decide) rfl ?_
  refine q_retv (v := (0, 1, 0)) rfl rfl ⟨rfl, by omega, by omega, ?_⟩
  refine q_store (loc2 := [(6, 0, 0), (0, 4, 0), (6, 237, 0), (0, 1, 0)]) (p2 := 19) rfl rfl rfl rfl rfl ?_
  refine q_load (v := (6, 237, 0)) (p2 := 20) rfl rfl rfl rfl ?_
  refine q_load (v := (0, 4, 0)) (p2 := 21) rfl rfl rfl rfl ?_
  refine q_callK (xs := [(0, 4, 0), (6, 237, 0)]) (p2 := 22) rfl rfl rfl rfl (x_rcv_s 237 hm3.2.2.2.2.2.2.2.2.2.1.choose_spec.1) rfl rfl ?_
  refine x_f_of rfl ?_
  refine q_load (v := (0, 4, 0)) (p2 := 1) rfl rfl rfl rfl ?_
  refine q_const (p2 := 2) rfl rfl ?_
  refine q_load (v := (6, 237, 0)) (p2 := 3) rfl rfl rfl rfl ?_
  refine q_getv (v := (6, 246, 0)) (p2 := 4) rfl hm3.2.2.2.2.2.2.2.2.2.1.choose_spec.1 (by decide) hm3.2.2.2.2.2.2.2.2.2.1.choose_spec.2.2.2.1 rfl ?_
  refine q_const (p2 := 5) rfl rfl ?_
  refine q_aldv (v := (0, 3, 0)) (p2 := 6) rfl (x_sc_246 hm3.2.2.2.2.2.2.2.2.2) (by omega) (by omega) rfl rfl ?_
  refine q_iop (w := 3 * 3) (z := 9) (p2 := 7) rfl (xo_mul 3 3) (by decide) rfl ?_
  refine q_iop (w := 4 + (4294967296 - 9 % 4294967296)) (z := 4294967291) (p2 := 8) rfl (xo_sub 4 9) (by decide) rfl ?_
  refine q_store (loc2 := [(6, 237, 0), (0, 4, 0), (0, 4294967291, 0)]) (p2 := 9) rfl rfl rfl rfl rfl ?_
  refine q_load (v := (0, 4294967291, 0)) (p2 := 10) rfl rfl rfl rfl ?_
  refine q_if0 (p2 := 11) rfl (by decide) rfl (fun hb => absurd hb (show ¬ (¬ (2147483643 < 2147483648)) by decide)) (fun _ => ?_)
  refine q_load (v := (0, 4, 0)) (p2 := 12) rfl rfl rfl rfl ?_
  refine q_const (p2 := 13) rfl rfl ?_
  refine q_iop (w := 4 % 3) (z := 1) (p2 := 14) rfl (xo_rem (by decide) (by decide) (by decide)) (by decide) rfl ?_
  refine q_retv (v := (0, 1, 0)) rfl rfl ⟨rfl, by omega, by omega, ?_⟩
  refine q_switch (tgt := 28) rfl (by decide) rfl ?_
  refine q_load (v := (6, 0, 0)) (p2 := 29) rfl rfl rfl rfl ?_
  have hm4 := (zq_H_at hH (frn1 0 (by omega) (by omega) (by omega)))
  refine q_getv (v := (6, 468, 0)) (p2 := 30) rfl hm4 (by decide) rfl rfl ?_
  refine q_load (v := (0, 1, 0)) (p2 := 31) rfl rfl rfl rfl ?_
  have hm5 := (zq_tp_at hB (frn1 1 (by omega) (by omega) (by omega)))
  have hm6 := (zTJ_at hTJ (fun j h1 h2 => (frn1 j (by omega) (by omega) (by omega))))
  have hm7 := (zEJ_at hEJ (fun j h1 h2 => (frn1 j (by omega) (by omega) (by omega))))
  have hm8 := (zq_nm_at hN (frn1 239 (by omega) (by omega) (by omega)) (frn1 242 (by omega) (by omega) (by omega)) (frn1 244 (by omega) (by omega) (by omega)))
  have hm9 := (x_SP_at hSP (fun j hj hne => by have hj2 := x_some_lt hlt0 hne; exact (frn1 j (by omega) (by omega) (by omega))))
  have hm10 := (zq_V5_at hV5 (frn1 485 (by omega) (by omega) (by omega)))
  have hm11 := (zq_SL_at hSL (frn1 482 (by omega) (by omega) (by omega)))
  have hm12 := (zq_RW_at hRW (frn1 483 (by omega) (by omega) (by omega)))
  have hm13 := (zq_J_at hJ (frn1 468 (by omega) (by omega) (by omega)) (frn1 469 (by omega) (by omega) (by omega)) (frn1 470 (by omega) (by omega) (by omega)))
  have hm14 := (zFJ_at hFJ (fun j h1 h2 => (frn1 j (by omega) (by omega) (by omega))))
  have hm15 := (zWJ_at hWJ (fun j h1 h2 => (frn1 j (by omega) (by omega) (by omega))))
  have hm16 := (zq_OV_at hOV (frn1 452 (by omega) (by omega) (by omega)) (frn1 453 (by omega) (by omega) (by omega)))
  refine q_callrB (xs := [(0, 1, 0), (6, 468, 0)]) (p2 := 32) rfl rfl rfl rfl (x_rcv_s 468 hm13.1) rfl (zc_jx_4 ⟨⟨_, _, hm4, (x_hw_at hhw (fun j hj hne => by have hj2 := x_some_lt hlt0 hne; exact (frn1 j (by omega) (by omega) (by omega))))⟩, hm5, hm6, hm7, hm8, ⟨_, ⟨_, _, _, _, _, _, _, _, _, _, hm3⟩, hco⟩, ⟨_, _, _, hPS1, hLKx1⟩, hm9, hm10, ⟨_, hm11⟩, hm12, hm13, hm14, hm15, ⟨_, _, hm16, hovn, hovh⟩⟩ (by omega) hpv (by omega) hI0 hI1 hI3 hcb) rfl (fun w17 φ17 n17 sl17 hn17 hN17 hs17 hT17 hR17 => ?_)
  obtain ⟨mi2, noted2, verd2, ins2, ver2, hw2, hmi2, hJI2, hG2⟩ := hR17
  subst hw2
  exact q_retv (v := (0, verd2, 0)) rfl rfl (⟨rfl, ⟨by omega, by omega⟩, ⟨by omega, by omega⟩, _, _, _, _, _, rfl, hmi2, hJI2, hG2⟩)
theorem zc_jx_5 {d n sl : Nat} {φ : FH} {tpd : Nat} {tp : Nat → Nat} {lf : Nat} {mi : Nat} {made : Nat} {sv : Nat} {svm : Nat} {comb : Nat → Nat} {hm : Nat → MV} {sc : Nat → Nat} {sm : Nat → MV} {mh : MV} {noted : Nat} {verd : Nat} {ins : Nat → Nat} {ver : Nat → Nat} {sz : Nat} {bw : Nat → Nat} (hG : zG φ tpd tp lf mi made sv svm comb hm sc sm mh noted verd ins ver sz bw) (hn0 : 486 ≤ n) (hpv : ∀ i, x_pv2 (hm i)) (hmi : mi + 300 ≤ 20000) (hI0 : ∀ x, x < 40 → zI0 hm x) (hI1 : ∀ x, x < 40 → zI1 hm x) (hI3 : ∀ x, x < 40 → zI3 hm x) (hcb : ∀ x, x < made → comb x = 0 ∨ comb x = 3 ∨ comb x = 5)  : x_f x_P (d + 4) 69 [(6, 468, 0), (0, 1, 0), (11, 0, 0), (11, 0, 0), (11, 0, 0), (11, 0, 0)] φ n sl (x_bR n sl 100 600 (fun zw φ2 => ∃ mi2 noted2 verd2 : Nat, ∃ ins2 ver2 : Nat → Nat, zw = (0, verd2, 0) ∧ mi2 ≤ mi + 100 ∧ JI (qN made comb hm) made noted2 verd2 ins2 ver2 ∧ zG φ2 tpd tp lf mi2 made sv svm comb hm sc sm mh noted2 verd2 ins2 ver2 sz bw)) := by
  refine x_f_of rfl ?_
  have hG0 := hG
  obtain ⟨⟨hand, ie, hH, hhw⟩, hB, hTJ, hEJ, hN, hKJ, ⟨A, B, s9, hPS, hLK0⟩, hSP, hV5, ⟨slq, hSL⟩, hRW, hJ, hFJ, hWJ, ⟨ovn, ovh, hOV, hovn, hovh⟩⟩ := hG
  refine x_n_lt (fun hlt0 => ?_)
  have hmade := x_PS_lt hPS
  obtain ⟨co, ⟨top_, fr_, pc_, mm, st, lo, re, rs, fl, se, hKS⟩, hco⟩ := hKJ
  refine q_load (v := (6, 468, 0)) (p2 := 1) rfl rfl rfl rfl ?_
  refine q_callvE (xs := [(6, 468, 0)]) (p2 := 2) rfl rfl rfl rfl (x_rcv_s 468 hJ.1) rfl (zc_j_clear hJ) (Nat.le_refl _) (Nat.le_refl _) rfl (fun φ1 hR1 => ?_)
  obtain ⟨hs1_0, fr1⟩ := hR1
  refine q_const (p2 := 3) rfl rfl ?_
  refine q_store (loc2 := [(6, 468, 0), (0, 1, 0), (0, 0, 0), (11, 0, 0), (11, 0, 0), (11, 0, 0)]) (p2 := 4) rfl rfl rfl rfl rfl ?_
  have hm2 := (zq_H_at hH (fr1 0 (by decide)))
  have hm3 := (zq_tp_at hB (fr1 1 (by decide)))
  have hm4 := (zTJ_at hTJ (fun j h1 h2 => (fr1 j (by omega))))
  have hm5 := (zEJ_at hEJ (fun j h1 h2 => (fr1 j (by omega))))
  have hm6 := (zq_nm_at hN (fr1 239 (by decide)) (fr1 242 (by decide)) (fr1 244 (by decide)))
  have hm7 := (x_KS_at2 hKS (fun j h1 h2 h3 h4 => (fr1 j (by omega))))
  refine x_n_lt (fun hlt9 => ?_)
  have hm8 := (x_PS_at hPS (fun j hj hne => by have hj2 := x_some_lt hlt0 hne; exact (fr1 j (by omega))))
  have hm10 := (x_LK_at2 hLK0 (fun j h1 h2 => (fr1 j (by omega))))
  have hm11 := (x_SP_at hSP (fun j hj hne => by have hj2 := x_some_lt hlt0 hne; exact (fr1 j (by omega))))
  have hm12 := (zq_V5_at hV5 (fr1 485 (by decide)))
  have hm13 := (zq_SL_at hSL (fr1 482 (by decide)))
  have hm14 := (zq_RW_at hRW (fr1 483 (by decide)))
  have hm15 := (zFJ_at hFJ (fun j h1 h2 => (fr1 j (by omega))))
  have hm16 := (zWJ_at hWJ (fun j h1 h2 => (fr1 j (by omega))))
  have hm17 := (zq_OV_at hOV (fr1 452 (by decide)) (fr1 453 (by decide)))
  exact zc_jl_5 hpv hI0 hI1 hI3 hcb hn0 (by omega) hmade made 0 _ _ _ _ _ _ _ _ _ _ _ (by omega) hmade ⟨⟨_, _, hm2, (x_hw_at hhw (fun j hj hne => by have hj2 := x_some_lt hlt0 hne; exact (fr1 j (by omega))))⟩, hm3, hm4, hm5, hm6, ⟨_, ⟨_, _, _, _, _, _, _, _, _, _, hm7⟩, hco⟩, ⟨_, _, _, hm8, hm10⟩, hm11, hm12, ⟨_, hm13⟩, hm14, hs1_0, hm15, hm16, ⟨_, _, hm17, hovn, hovh⟩⟩ JI_0 (by omega) (by omega) (by omega)
theorem zc_judge_5 {d n sl : Nat} {φ : FH} {tpd : Nat} {tp : Nat → Nat} {lf : Nat} {mi : Nat} {made : Nat} {sv : Nat} {svm : Nat} {comb : Nat → Nat} {hm : Nat → MV} {sc : Nat → Nat} {sm : Nat → MV} {mh : MV} {noted : Nat} {verd : Nat} {ins : Nat → Nat} {ver : Nat → Nat} {sz : Nat} {bw : Nat → Nat} (hG : zG φ tpd tp lf mi made sv svm comb hm sc sm mh noted verd ins ver sz bw) (hn0 : 486 ≤ n) (hpv : ∀ i, x_pv2 (hm i)) (hmi : mi + 300 ≤ 20000) (hI0 : ∀ x, x < 40 → zI0 hm x) (hI1 : ∀ x, x < 40 → zI1 hm x) (hI3 : ∀ x, x < 40 → zI3 hm x) (hcb : ∀ x, x < made → comb x = 0 ∨ comb x = 3 ∨ comb x = 5)  : x_f x_P (d + 6) 27 [(6, 0, 0), (0, 5, 0), (11, 0, 0), (11, 0, 0)] φ n sl (x_bR n sl 100 600 (fun zw φ2 => ∃ mi2 noted2 verd2 : Nat, ∃ ins2 ver2 : Nat → Nat, zw = (0, verd2, 0) ∧ mi2 ≤ mi + 100 ∧ JI (qN made comb hm) made noted2 verd2 ins2 ver2 ∧ zG φ2 tpd tp lf mi2 made sv svm comb hm sc sm mh noted2 verd2 ins2 ver2 sz bw)) := by
  refine x_f_of rfl ?_
  have hG0 := hG
  obtain ⟨⟨hand, ie, hH, hhw⟩, hB, hTJ, hEJ, hN, hKJ, ⟨A, B, s9, hPS, hLK0⟩, hSP, hV5, ⟨slq, hSL⟩, hRW, hJ, hFJ, hWJ, ⟨ovn, ovh, hOV, hovn, hovh⟩⟩ := hG
  refine x_n_lt (fun hlt0 => ?_)
  have hmade := x_PS_lt hPS
  obtain ⟨co, ⟨top_, fr_, pc_, mm, st, lo, re, rs, fl, se, hKS⟩, hco⟩ := hKJ
  refine q_load (v := (6, 0, 0)) (p2 := 1) rfl rfl rfl rfl ?_
  refine q_getv (v := (6, 7, 0)) (p2 := 2) rfl hH (by decide) rfl rfl ?_
  refine q_getv (v := (6, 237, 0)) (p2 := 3) rfl hPS.1.choose_spec.1 (by decide) hPS.1.choose_spec.2.1 rfl ?_
  refine q_store (loc2 := [(6, 0, 0), (0, 5, 0), (6, 237, 0), (11, 0, 0)]) (p2 := 4) rfl rfl rfl rfl rfl ?_
  refine q_load (v := (0, 5, 0)) (p2 := 5) rfl rfl rfl rfl ?_
  refine q_if0_s (p2 := 6) rfl (by decide) (by omega) rfl (fun hb => absurd hb (show ¬ (5 < 0) by omega)) (fun _ => ?_)
  refine q_load (v := (0, 5, 0)) (p2 := 7) rfl rfl rfl rfl ?_
  refine q_load (v := (6, 237, 0)) (p2 := 8) rfl rfl rfl rfl ?_
  refine q_callK (xs := [(6, 237, 0)]) (p2 := 9) rfl rfl rfl rfl (x_rcv_s 237 hKS.2.2.2.2.2.2.2.2.2.1.choose_spec.1) rfl rfl ?_
  refine x_f_of rfl ?_
  refine q_const (p2 := 1) rfl rfl ?_
  refine q_load (v := (6, 237, 0)) (p2 := 2) rfl rfl rfl rfl ?_
  refine q_getv (v := (6, 246, 0)) (p2 := 3) rfl hKS.2.2.2.2.2.2.2.2.2.1.choose_spec.1 (by decide) hKS.2.2.2.2.2.2.2.2.2.1.choose_spec.2.2.2.1 rfl ?_
  refine q_const (p2 := 4) rfl rfl ?_
  refine q_aldv (v := (0, 3, 0)) (p2 := 5) rfl (x_sc_246 hKS.2.2.2.2.2.2.2.2.2) (by omega) (by omega) rfl rfl ?_
  refine q_iop (w := 3 * 3) (z := 9) (p2 := 6) rfl (xo_mul 3 3) (by decide) rfl ?_
  refine q_load (v := (6, 237, 0)) (p2 := 7) rfl rfl rfl rfl ?_
  refine q_getv (v := (6, 246, 0)) (p2 := 8) rfl hKS.2.2.2.2.2.2.2.2.2.1.choose_spec.1 (by decide) hKS.2.2.2.2.2.2.2.2.2.1.choose_spec.2.2.2.1 rfl ?_
  refine q_const (p2 := 9) rfl rfl ?_
  refine q_aldv (v := (0, 0, 0)) (p2 := 10) rfl (x_sc_246 hKS.2.2.2.2.2.2.2.2.2) (by omega) (by omega) rfl rfl ?_
  refine q_iop (w := 9 + 0) (z := 9) (p2 := 11) rfl (xo_add 9 0) (by decide) rfl ?_
  refine q_load (v := (6, 237, 0)) (p2 := 12) rfl rfl rfl rfl ?_
  refine q_getv (v := (6, 246, 0)) (p2 := 13) rfl hKS.2.2.2.2.2.2.2.2.2.1.choose_spec.1 (by decide) hKS.2.2.2.2.2.2.2.2.2.1.choose_spec.2.2.2.1 rfl ?_
  refine q_const (p2 := 14) rfl rfl ?_
  refine q_aldv (v := (0, 0, 0)) (p2 := 15) rfl (x_sc_246 hKS.2.2.2.2.2.2.2.2.2) (by omega) (by omega) rfl rfl ?_
  refine q_iop (w := 9 + 0) (z := 9) (p2 := 16) rfl (xo_add 9 0) (by decide) rfl ?_
  refine q_retv (v := (0, 9, 0)) rfl rfl ⟨rfl, by omega, by omega, ?_⟩
  refine q_icmp_s (p2 := 10) rfl (by decide) (by omega) (by omega) rfl (fun _ => ?_) (fun hb => absurd (show 5 < 9 by omega) hb)
  refine q_load (v := (6, 0, 0)) (p2 := 13) rfl rfl rfl rfl ?_
  refine q_getv (v := (6, 7, 0)) (p2 := 14) rfl hH (by decide) rfl rfl ?_
  refine q_callvE (xs := [(6, 7, 0)]) (p2 := 15) rfl rfl rfl rfl (x_rcv_s 7 hPS.1.choose_spec.1) rfl (e_prepare hPS hLK0.1 hpv hKS.2.2.2.2.2.2.2.2.2) (Nat.le_refl _) (Nat.le_refl _) rfl (fun φ1 hR1 => ?_)
  obtain ⟨A1, B1, hPS1, hLK1, frn1⟩ := hR1
  have hAB1 := x_pop_AB hPS1.1.choose_spec
  obtain ⟨lik1, lb1, hL1, hLb1, hlk1⟩ := id hLK1
  refine x_n_lt (fun hlt2 => ?_)
  have hLKx1 : x_LK φ1 A1 B1 made 0 comb hm ∧ _ := ⟨hLK1, hAB1⟩
  refine q_load (v := (6, 237, 0)) (p2 := 16) rfl rfl rfl rfl ?_
  refine q_load (v := (0, 5, 0)) (p2 := 17) rfl rfl rfl rfl ?_
  have hm3 := (x_KS_at2 hKS (fun j h1 h2 h3 h4 => (frn1 j (by omega) (by omega) (by omega))))
  refine q_callK (xs := [(0, 5, 0), (6, 237, 0)]) (p2 := 18) rfl rfl rfl rfl (x_rcv_s 237 hm3.2.2.2.2.2.2.2.2.2.1.choose_spec.1) rfl rfl ?_
  refine x_f_of rfl ?_
  refine q_load (v := (0, 5, 0)) (p2 := 1) rfl rfl rfl rfl ?_
  refine q_const (p2 := 2) rfl rfl ?_
  refine q_load (v := (6, 237, 0)) (p2 := 3) rfl rfl rfl rfl ?_
  refine q_getv (v := (6, 246, 0)) (p2 := 4) rfl hm3.2.2.2.2.2.2.2.2.2.1.choose_spec.1 (by decide) hm3.2.2.2.2.2.2.2.2.2.1.choose_spec.2.2.2.1 rfl ?_
  refine q_const (p2 := 5) rfl rfl ?_
  refine q_aldv (v := (0, 3, 0)) (p2 := 6) rfl (x_sc_246 hm3.2.2.2.2.2.2.2.2.2) (by omega) (by omega) rfl rfl ?_
  refine q_iop (w := 3 * 3) (z := 9) (p2 := 7) rfl (xo_mul 3 3) (by decide) rfl ?_
  refine q_iop (w := 5 + (4294967296 - 9 % 4294967296)) (z := 4294967292) (p2 := 8) rfl (xo_sub 5 9) (by decide) rfl ?_
  refine q_store (loc2 := [(6, 237, 0), (0, 5, 0), (0, 4294967292, 0)]) (p2 := 9) rfl rfl rfl rfl rfl ?_
  refine q_load (v := (0, 4294967292, 0)) (p2 := 10) rfl rfl rfl rfl ?_
  refine q_if0 (p2 := 11) rfl (by decide) rfl (fun hb => absurd hb (show ¬ (¬ (2147483644 < 2147483648)) by decide)) (fun _ => ?_)
  refine q_load (v := (0, 5, 0)) (p2 := 12) rfl rfl rfl rfl ?_
  refine q_const (p2 := 13) rfl rfl ?_
  refine q_iop (w := 5 / 3) (z := 1) (p2 := 14) rfl (xo_div (by decide) (by decide) (by decide)) (by decide) rfl ?_
  refine q_retv (v := (0, 1, 0)) rfl rfl ⟨rfl, by omega, by omega, ?_⟩
  refine q_store (loc2 := [(6, 0, 0), (0, 5, 0), (6, 237, 0), (0, 1, 0)]) (p2 := 19) rfl rfl rfl rfl rfl ?_
  refine q_load (v := (6, 237, 0)) (p2 := 20) rfl rfl rfl rfl ?_
  refine q_load (v := (0, 5, 0)) (p2 := 21) rfl rfl rfl rfl ?_
  refine q_callK (xs := [(0, 5, 0), (6, 237, 0)]) (p2 := 22) rfl rfl rfl rfl (x_rcv_s 237 hm3.2.2.2.2.2.2.2.2.2.1.choose_spec.1) rfl rfl ?_
  refine x_f_of rfl ?_
  refine q_load (v := (0, 5, 0)) (p2 := 1) rfl rfl rfl rfl ?_
  refine q_const (p2 := 2) rfl rfl ?_
  refine q_load (v := (6, 237, 0)) (p2 := 3) rfl rfl rfl rfl ?_
  refine q_getv (v := (6, 246, 0)) (p2 := 4) rfl hm3.2.2.2.2.2.2.2.2.2.1.choose_spec.1 (by decide) hm3.2.2.2.2.2.2.2.2.2.1.choose_spec.2.2.2.1 rfl ?_
  refine q_const (p2 := 5) rfl rfl ?_
  refine q_aldv (v := (0, 3, 0)) (p2 := 6) rfl (x_sc_246 hm3.2.2.2.2.2.2.2.2.2) (by omega) (by omega) rfl rfl ?_
  refine q_iop (w := 3 * 3) (z := 9) (p2 := 7) rfl (xo_mul 3 3) (by decide) rfl ?_
  refine q_iop (w := 5 + (4294967296 - 9 % 4294967296)) (z := 4294967292) (p2 := 8) rfl (xo_sub 5 9) (by decide) rfl ?_
  refine q_store (loc2 := [(6, 237, 0), (0, 5, 0), (0, 4294967292, 0)]) (p2 := 9) rfl rfl rfl rfl rfl ?_
  refine q_load (v := (0, 4294967292, 0)) (p2 := 10) rfl rfl rfl rfl ?_
  refine q_if0 (p2 := 11) rfl (by decide) rfl (fun hb => absurd hb (show ¬ (¬ (2147483644 < 2147483648)) by decide)) (fun _ => ?_)
  refine q_load (v := (0, 5, 0)) (p2 := 12) rfl rfl rfl rfl ?_
  refine q_const (p2 := 13) rfl rfl ?_
  refine q_iop (w := 5 % 3) (z := 2) (p2 := 14) rfl (xo_rem (by decide) (by decide) (by decide)) (by decide) rfl ?_
  refine q_retv (v := (0, 2, 0)) rfl rfl ⟨rfl, by omega, by omega, ?_⟩
  refine q_switch (tgt := 33) rfl (by decide) rfl ?_
  refine q_load (v := (6, 0, 0)) (p2 := 34) rfl rfl rfl rfl ?_
  have hm4 := (zq_H_at hH (frn1 0 (by omega) (by omega) (by omega)))
  refine q_getv (v := (6, 468, 0)) (p2 := 35) rfl hm4 (by decide) rfl rfl ?_
  refine q_load (v := (0, 1, 0)) (p2 := 36) rfl rfl rfl rfl ?_
  have hm5 := (zq_tp_at hB (frn1 1 (by omega) (by omega) (by omega)))
  have hm6 := (zTJ_at hTJ (fun j h1 h2 => (frn1 j (by omega) (by omega) (by omega))))
  have hm7 := (zEJ_at hEJ (fun j h1 h2 => (frn1 j (by omega) (by omega) (by omega))))
  have hm8 := (zq_nm_at hN (frn1 239 (by omega) (by omega) (by omega)) (frn1 242 (by omega) (by omega) (by omega)) (frn1 244 (by omega) (by omega) (by omega)))
  have hm9 := (x_SP_at hSP (fun j hj hne => by have hj2 := x_some_lt hlt0 hne; exact (frn1 j (by omega) (by omega) (by omega))))
  have hm10 := (zq_V5_at hV5 (frn1 485 (by omega) (by omega) (by omega)))
  have hm11 := (zq_SL_at hSL (frn1 482 (by omega) (by omega) (by omega)))
  have hm12 := (zq_RW_at hRW (frn1 483 (by omega) (by omega) (by omega)))
  have hm13 := (zq_J_at hJ (frn1 468 (by omega) (by omega) (by omega)) (frn1 469 (by omega) (by omega) (by omega)) (frn1 470 (by omega) (by omega) (by omega)))
  have hm14 := (zFJ_at hFJ (fun j h1 h2 => (frn1 j (by omega) (by omega) (by omega))))
  have hm15 := (zWJ_at hWJ (fun j h1 h2 => (frn1 j (by omega) (by omega) (by omega))))
  have hm16 := (zq_OV_at hOV (frn1 452 (by omega) (by omega) (by omega)) (frn1 453 (by omega) (by omega) (by omega)))
  refine q_callrB (xs := [(0, 1, 0), (6, 468, 0)]) (p2 := 37) rfl rfl rfl rfl (x_rcv_s 468 hm13.1) rfl (zc_jx_5 ⟨⟨_, _, hm4, (x_hw_at hhw (fun j hj hne => by have hj2 := x_some_lt hlt0 hne; exact (frn1 j (by omega) (by omega) (by omega))))⟩, hm5, hm6, hm7, hm8, ⟨_, ⟨_, _, _, _, _, _, _, _, _, _, hm3⟩, hco⟩, ⟨_, _, _, hPS1, hLKx1⟩, hm9, hm10, ⟨_, hm11⟩, hm12, hm13, hm14, hm15, ⟨_, _, hm16, hovn, hovh⟩⟩ (by omega) hpv (by omega) hI0 hI1 hI3 hcb) rfl (fun w17 φ17 n17 sl17 hn17 hN17 hs17 hT17 hR17 => ?_)
  obtain ⟨mi2, noted2, verd2, ins2, ver2, hw2, hmi2, hJI2, hG2⟩ := hR17
  subst hw2
  exact q_retv (v := (0, verd2, 0)) rfl rfl (⟨rfl, ⟨by omega, by omega⟩, ⟨by omega, by omega⟩, _, _, _, _, _, rfl, hmi2, hJI2, hG2⟩)
theorem zc_jx_6 {d n sl : Nat} {φ : FH} {tpd : Nat} {tp : Nat → Nat} {lf : Nat} {mi : Nat} {made : Nat} {sv : Nat} {svm : Nat} {comb : Nat → Nat} {hm : Nat → MV} {sc : Nat → Nat} {sm : Nat → MV} {mh : MV} {noted : Nat} {verd : Nat} {ins : Nat → Nat} {ver : Nat → Nat} {sz : Nat} {bw : Nat → Nat} (hG : zG φ tpd tp lf mi made sv svm comb hm sc sm mh noted verd ins ver sz bw) (hn0 : 486 ≤ n) (hpv : ∀ i, x_pv2 (hm i)) (hmi : mi + 300 ≤ 20000) (hI0 : ∀ x, x < 40 → zI0 hm x) (hI1 : ∀ x, x < 40 → zI1 hm x) (hI3 : ∀ x, x < 40 → zI3 hm x) (hcb : ∀ x, x < made → comb x = 0 ∨ comb x = 3 ∨ comb x = 5)  : x_f x_P (d + 5) 67 [(6, 468, 0), (0, 2, 0), (11, 0, 0)] φ n sl (x_bR n sl 100 600 (fun zw φ2 => ∃ mi2 noted2 verd2 : Nat, ∃ ins2 ver2 : Nat → Nat, zw = (0, verd2, 0) ∧ mi2 ≤ mi + 100 ∧ JI (q6 made comb hm) made noted2 verd2 ins2 ver2 ∧ zG φ2 tpd tp lf mi2 made sv svm comb hm sc sm mh noted2 verd2 ins2 ver2 sz bw)) := by
  refine x_f_of rfl ?_
  have hG0 := hG
  obtain ⟨⟨hand, ie, hH, hhw⟩, hB, hTJ, hEJ, hN, hKJ, ⟨A, B, s9, hPS, hLK0⟩, hSP, hV5, ⟨slq, hSL⟩, hRW, hJ, hFJ, hWJ, ⟨ovn, ovh, hOV, hovn, hovh⟩⟩ := hG
  refine x_n_lt (fun hlt0 => ?_)
  have hmade := x_PS_lt hPS
  obtain ⟨co, ⟨top_, fr_, pc_, mm, st, lo, re, rs, fl, se, hKS⟩, hco⟩ := hKJ
  refine q_load (v := (6, 468, 0)) (p2 := 1) rfl rfl rfl rfl ?_
  refine q_callvE (xs := [(6, 468, 0)]) (p2 := 2) rfl rfl rfl rfl (x_rcv_s 468 hJ.1) rfl (zc_j_clear hJ) (Nat.le_refl _) (Nat.le_refl _) rfl (fun φ1 hR1 => ?_)
  obtain ⟨hs1_0, fr1⟩ := hR1
  refine q_const (p2 := 3) rfl rfl ?_
  refine q_store (loc2 := [(6, 468, 0), (0, 2, 0), (0, 0, 0)]) (p2 := 4) rfl rfl rfl rfl rfl ?_
  have hm2 := (zq_H_at hH (fr1 0 (by decide)))
  have hm3 := (zq_tp_at hB (fr1 1 (by decide)))
  have hm4 := (zTJ_at hTJ (fun j h1 h2 => (fr1 j (by omega))))
  have hm5 := (zEJ_at hEJ (fun j h1 h2 => (fr1 j (by omega))))
  have hm6 := (zq_nm_at hN (fr1 239 (by decide)) (fr1 242 (by decide)) (fr1 244 (by decide)))
  have hm7 := (x_KS_at2 hKS (fun j h1 h2 h3 h4 => (fr1 j (by omega))))
  refine x_n_lt (fun hlt9 => ?_)
  have hm8 := (x_PS_at hPS (fun j hj hne => by have hj2 := x_some_lt hlt0 hne; exact (fr1 j (by omega))))
  have hm10 := (x_LK_at2 hLK0 (fun j h1 h2 => (fr1 j (by omega))))
  have hm11 := (x_SP_at hSP (fun j hj hne => by have hj2 := x_some_lt hlt0 hne; exact (fr1 j (by omega))))
  have hm12 := (zq_V5_at hV5 (fr1 485 (by decide)))
  have hm13 := (zq_SL_at hSL (fr1 482 (by decide)))
  have hm14 := (zq_RW_at hRW (fr1 483 (by decide)))
  have hm15 := (zFJ_at hFJ (fun j h1 h2 => (fr1 j (by omega))))
  have hm16 := (zWJ_at hWJ (fun j h1 h2 => (fr1 j (by omega))))
  have hm17 := (zq_OV_at hOV (fr1 452 (by decide)) (fr1 453 (by decide)))
  exact zc_jl_6 hpv hI0 hI1 hI3 hcb hn0 (by omega) hmade made 0 _ _ _ _ _ _ _ _ (by omega) hmade ⟨⟨_, _, hm2, (x_hw_at hhw (fun j hj hne => by have hj2 := x_some_lt hlt0 hne; exact (fr1 j (by omega))))⟩, hm3, hm4, hm5, hm6, ⟨_, ⟨_, _, _, _, _, _, _, _, _, _, hm7⟩, hco⟩, ⟨_, _, _, hm8, hm10⟩, hm11, hm12, ⟨_, hm13⟩, hm14, hs1_0, hm15, hm16, ⟨_, _, hm17, hovn, hovh⟩⟩ JI_0 (by omega) (by omega) (by omega)
theorem zc_judge_6 {d n sl : Nat} {φ : FH} {tpd : Nat} {tp : Nat → Nat} {lf : Nat} {mi : Nat} {made : Nat} {sv : Nat} {svm : Nat} {comb : Nat → Nat} {hm : Nat → MV} {sc : Nat → Nat} {sm : Nat → MV} {mh : MV} {noted : Nat} {verd : Nat} {ins : Nat → Nat} {ver : Nat → Nat} {sz : Nat} {bw : Nat → Nat} (hG : zG φ tpd tp lf mi made sv svm comb hm sc sm mh noted verd ins ver sz bw) (hn0 : 486 ≤ n) (hpv : ∀ i, x_pv2 (hm i)) (hmi : mi + 300 ≤ 20000) (hI0 : ∀ x, x < 40 → zI0 hm x) (hI1 : ∀ x, x < 40 → zI1 hm x) (hI3 : ∀ x, x < 40 → zI3 hm x) (hcb : ∀ x, x < made → comb x = 0 ∨ comb x = 3 ∨ comb x = 5)  : x_f x_P (d + 6) 27 [(6, 0, 0), (0, 6, 0), (11, 0, 0), (11, 0, 0)] φ n sl (x_bR n sl 100 600 (fun zw φ2 => ∃ mi2 noted2 verd2 : Nat, ∃ ins2 ver2 : Nat → Nat, zw = (0, verd2, 0) ∧ mi2 ≤ mi + 100 ∧ JI (q6 made comb hm) made noted2 verd2 ins2 ver2 ∧ zG φ2 tpd tp lf mi2 made sv svm comb hm sc sm mh noted2 verd2 ins2 ver2 sz bw)) := by
  refine x_f_of rfl ?_
  have hG0 := hG
  obtain ⟨⟨hand, ie, hH, hhw⟩, hB, hTJ, hEJ, hN, hKJ, ⟨A, B, s9, hPS, hLK0⟩, hSP, hV5, ⟨slq, hSL⟩, hRW, hJ, hFJ, hWJ, ⟨ovn, ovh, hOV, hovn, hovh⟩⟩ := hG
  refine x_n_lt (fun hlt0 => ?_)
  have hmade := x_PS_lt hPS
  obtain ⟨co, ⟨top_, fr_, pc_, mm, st, lo, re, rs, fl, se, hKS⟩, hco⟩ := hKJ
  refine q_load (v := (6, 0, 0)) (p2 := 1) rfl rfl rfl rfl ?_
  refine q_getv (v := (6, 7, 0)) (p2 := 2) rfl hH (by decide) rfl rfl ?_
  refine q_getv (v := (6, 237, 0)) (p2 := 3) rfl hPS.1.choose_spec.1 (by decide) hPS.1.choose_spec.2.1 rfl ?_
  refine q_store (loc2 := [(6, 0, 0), (0, 6, 0), (6, 237, 0), (11, 0, 0)]) (p2 := 4) rfl rfl rfl rfl rfl ?_
  refine q_load (v := (0, 6, 0)) (p2 := 5) rfl rfl rfl rfl ?_
  refine q_if0_s (p2 := 6) rfl (by decide) (by omega) rfl (fun hb => absurd hb (show ¬ (6 < 0) by omega)) (fun _ => ?_)
  refine q_load (v := (0, 6, 0)) (p2 := 7) rfl rfl rfl rfl ?_
  refine q_load (v := (6, 237, 0)) (p2 := 8) rfl rfl rfl rfl ?_
  refine q_callK (xs := [(6, 237, 0)]) (p2 := 9) rfl rfl rfl rfl (x_rcv_s 237 hKS.2.2.2.2.2.2.2.2.2.1.choose_spec.1) rfl rfl ?_
  refine x_f_of rfl ?_
  refine q_const (p2 := 1) rfl rfl ?_
  refine q_load (v := (6, 237, 0)) (p2 := 2) rfl rfl rfl rfl ?_
  refine q_getv (v := (6, 246, 0)) (p2 := 3) rfl hKS.2.2.2.2.2.2.2.2.2.1.choose_spec.1 (by decide) hKS.2.2.2.2.2.2.2.2.2.1.choose_spec.2.2.2.1 rfl ?_
  refine q_const (p2 := 4) rfl rfl ?_
  refine q_aldv (v := (0, 3, 0)) (p2 := 5) rfl (x_sc_246 hKS.2.2.2.2.2.2.2.2.2) (by omega) (by omega) rfl rfl ?_
  refine q_iop (w := 3 * 3) (z := 9) (p2 := 6) rfl (xo_mul 3 3) (by decide) rfl ?_
  refine q_load (v := (6, 237, 0)) (p2 := 7) rfl rfl rfl rfl ?_
  refine q_getv (v := (6, 246, 0)) (p2 := 8) rfl hKS.2.2.2.2.2.2.2.2.2.1.choose_spec.1 (by decide) hKS.2.2.2.2.2.2.2.2.2.1.choose_spec.2.2.2.1 rfl ?_
  refine q_const (p2 := 9) rfl rfl ?_
  refine q_aldv (v := (0, 0, 0)) (p2 := 10) rfl (x_sc_246 hKS.2.2.2.2.2.2.2.2.2) (by omega) (by omega) rfl rfl ?_
  refine q_iop (w := 9 + 0) (z := 9) (p2 := 11) rfl (xo_add 9 0) (by decide) rfl ?_
  refine q_load (v := (6, 237, 0)) (p2 := 12) rfl rfl rfl rfl ?_
  refine q_getv (v := (6, 246, 0)) (p2 := 13) rfl hKS.2.2.2.2.2.2.2.2.2.1.choose_spec.1 (by decide) hKS.2.2.2.2.2.2.2.2.2.1.choose_spec.2.2.2.1 rfl ?_
  refine q_const (p2 := 14) rfl rfl ?_
  refine q_aldv (v := (0, 0, 0)) (p2 := 15) rfl (x_sc_246 hKS.2.2.2.2.2.2.2.2.2) (by omega) (by omega) rfl rfl ?_
  refine q_iop (w := 9 + 0) (z := 9) (p2 := 16) rfl (xo_add 9 0) (by decide) rfl ?_
  refine q_retv (v := (0, 9, 0)) rfl rfl ⟨rfl, by omega, by omega, ?_⟩
  refine q_icmp_s (p2 := 10) rfl (by decide) (by omega) (by omega) rfl (fun _ => ?_) (fun hb => absurd (show 6 < 9 by omega) hb)
  refine q_load (v := (6, 0, 0)) (p2 := 13) rfl rfl rfl rfl ?_
  refine q_getv (v := (6, 7, 0)) (p2 := 14) rfl hH (by decide) rfl rfl ?_
  refine q_callvE (xs := [(6, 7, 0)]) (p2 := 15) rfl rfl rfl rfl (x_rcv_s 7 hPS.1.choose_spec.1) rfl (e_prepare hPS hLK0.1 hpv hKS.2.2.2.2.2.2.2.2.2) (Nat.le_refl _) (Nat.le_refl _) rfl (fun φ1 hR1 => ?_)
  obtain ⟨A1, B1, hPS1, hLK1, frn1⟩ := hR1
  have hAB1 := x_pop_AB hPS1.1.choose_spec
  obtain ⟨lik1, lb1, hL1, hLb1, hlk1⟩ := id hLK1
  refine x_n_lt (fun hlt2 => ?_)
  have hLKx1 : x_LK φ1 A1 B1 made 0 comb hm ∧ _ := ⟨hLK1, hAB1⟩
  refine q_load (v := (6, 237, 0)) (p2 := 16) rfl rfl rfl rfl ?_
  refine q_load (v := (0, 6, 0)) (p2 := 17) rfl rfl rfl rfl ?_
  have hm3 := (x_KS_at2 hKS (fun j h1 h2 h3 h4 => (frn1 j (by omega) (by omega) (by omega))))
  refine q_callK (xs := [(0, 6, 0), (6, 237, 0)]) (p2 := 18) rfl rfl rfl rfl (x_rcv_s 237 hm3.2.2.2.2.2.2.2.2.2.1.choose_spec.1) rfl rfl ?_
  refine x_f_of rfl ?_
  refine q_load (v := (0, 6, 0)) (p2 := 1) rfl rfl rfl rfl ?_
  refine q_const (p2 := 2) rfl rfl ?_
  refine q_load (v := (6, 237, 0)) (p2 := 3) rfl rfl rfl rfl ?_
  refine q_getv (v := (6, 246, 0)) (p2 := 4) rfl hm3.2.2.2.2.2.2.2.2.2.1.choose_spec.1 (by decide) hm3.2.2.2.2.2.2.2.2.2.1.choose_spec.2.2.2.1 rfl ?_
  refine q_const (p2 := 5) rfl rfl ?_
  refine q_aldv (v := (0, 3, 0)) (p2 := 6) rfl (x_sc_246 hm3.2.2.2.2.2.2.2.2.2) (by omega) (by omega) rfl rfl ?_
  refine q_iop (w := 3 * 3) (z := 9) (p2 := 7) rfl (xo_mul 3 3) (by decide) rfl ?_
  refine q_iop (w := 6 + (4294967296 - 9 % 4294967296)) (z := 4294967293) (p2 := 8) rfl (xo_sub 6 9) (by decide) rfl ?_
  refine q_store (loc2 := [(6, 237, 0), (0, 6, 0), (0, 4294967293, 0)]) (p2 := 9) rfl rfl rfl rfl rfl ?_
  refine q_load (v := (0, 4294967293, 0)) (p2 := 10) rfl rfl rfl rfl ?_
  refine q_if0 (p2 := 11) rfl (by decide) rfl (fun hb => absurd hb (show ¬ (¬ (2147483645 < 2147483648)) by decide)) (fun _ => ?_)
  refine q_load (v := (0, 6, 0)) (p2 := 12) rfl rfl rfl rfl ?_
  refine q_const (p2 := 13) rfl rfl ?_
  refine q_iop (w := 6 / 3) (z := 2) (p2 := 14) rfl (xo_div (by decide) (by decide) (by decide)) (by decide) rfl ?_
  refine q_retv (v := (0, 2, 0)) rfl rfl ⟨rfl, by omega, by omega, ?_⟩
  refine q_store (loc2 := [(6, 0, 0), (0, 6, 0), (6, 237, 0), (0, 2, 0)]) (p2 := 19) rfl rfl rfl rfl rfl ?_
  refine q_load (v := (6, 237, 0)) (p2 := 20) rfl rfl rfl rfl ?_
  refine q_load (v := (0, 6, 0)) (p2 := 21) rfl rfl rfl rfl ?_
  refine q_callK (xs := [(0, 6, 0), (6, 237, 0)]) (p2 := 22) rfl rfl rfl rfl (x_rcv_s 237 hm3.2.2.2.2.2.2.2.2.2.1.choose_spec.1) rfl rfl ?_
  refine x_f_of rfl ?_
  refine q_load (v := (0, 6, 0)) (p2 := 1) rfl rfl rfl rfl ?_
  refine q_const (p2 := 2) rfl rfl ?_
  refine q_load (v := (6, 237, 0)) (p2 := 3) rfl rfl rfl rfl ?_
  refine q_getv (v := (6, 246, 0)) (p2 := 4) rfl hm3.2.2.2.2.2.2.2.2.2.1.choose_spec.1 (by decide) hm3.2.2.2.2.2.2.2.2.2.1.choose_spec.2.2.2.1 rfl ?_
  refine q_const (p2 := 5) rfl rfl ?_
  refine q_aldv (v := (0, 3, 0)) (p2 := 6) rfl (x_sc_246 hm3.2.2.2.2.2.2.2.2.2) (by omega) (by omega) rfl rfl ?_
  refine q_iop (w := 3 * 3) (z := 9) (p2 := 7) rfl (xo_mul 3 3) (by decide) rfl ?_
  refine q_iop (w := 6 + (4294967296 - 9 % 4294967296)) (z := 4294967293) (p2 := 8) rfl (xo_sub 6 9) (by decide) rfl ?_
  refine q_store (loc2 := [(6, 237, 0), (0, 6, 0), (0, 4294967293, 0)]) (p2 := 9) rfl rfl rfl rfl rfl ?_
  refine q_load (v := (0, 4294967293, 0)) (p2 := 10) rfl rfl rfl rfl ?_
  refine q_if0 (p2 := 11) rfl (by decide) rfl (fun hb => absurd hb (show ¬ (¬ (2147483645 < 2147483648)) by decide)) (fun _ => ?_)
  refine q_load (v := (0, 6, 0)) (p2 := 12) rfl rfl rfl rfl ?_
  refine q_const (p2 := 13) rfl rfl ?_
  refine q_iop (w := 6 % 3) (z := 0) (p2 := 14) rfl (xo_rem (by decide) (by decide) (by decide)) (by decide) rfl ?_
  refine q_retv (v := (0, 0, 0)) rfl rfl ⟨rfl, by omega, by omega, ?_⟩
  refine q_switch (tgt := 23) rfl (by decide) rfl ?_
  refine q_load (v := (6, 0, 0)) (p2 := 24) rfl rfl rfl rfl ?_
  have hm4 := (zq_H_at hH (frn1 0 (by omega) (by omega) (by omega)))
  refine q_getv (v := (6, 468, 0)) (p2 := 25) rfl hm4 (by decide) rfl rfl ?_
  refine q_load (v := (0, 2, 0)) (p2 := 26) rfl rfl rfl rfl ?_
  have hm5 := (zq_tp_at hB (frn1 1 (by omega) (by omega) (by omega)))
  have hm6 := (zTJ_at hTJ (fun j h1 h2 => (frn1 j (by omega) (by omega) (by omega))))
  have hm7 := (zEJ_at hEJ (fun j h1 h2 => (frn1 j (by omega) (by omega) (by omega))))
  have hm8 := (zq_nm_at hN (frn1 239 (by omega) (by omega) (by omega)) (frn1 242 (by omega) (by omega) (by omega)) (frn1 244 (by omega) (by omega) (by omega)))
  have hm9 := (x_SP_at hSP (fun j hj hne => by have hj2 := x_some_lt hlt0 hne; exact (frn1 j (by omega) (by omega) (by omega))))
  have hm10 := (zq_V5_at hV5 (frn1 485 (by omega) (by omega) (by omega)))
  have hm11 := (zq_SL_at hSL (frn1 482 (by omega) (by omega) (by omega)))
  have hm12 := (zq_RW_at hRW (frn1 483 (by omega) (by omega) (by omega)))
  have hm13 := (zq_J_at hJ (frn1 468 (by omega) (by omega) (by omega)) (frn1 469 (by omega) (by omega) (by omega)) (frn1 470 (by omega) (by omega) (by omega)))
  have hm14 := (zFJ_at hFJ (fun j h1 h2 => (frn1 j (by omega) (by omega) (by omega))))
  have hm15 := (zWJ_at hWJ (fun j h1 h2 => (frn1 j (by omega) (by omega) (by omega))))
  have hm16 := (zq_OV_at hOV (frn1 452 (by omega) (by omega) (by omega)) (frn1 453 (by omega) (by omega) (by omega)))
  refine q_callrB (xs := [(0, 2, 0), (6, 468, 0)]) (p2 := 27) rfl rfl rfl rfl (x_rcv_s 468 hm13.1) rfl (zc_jx_6 ⟨⟨_, _, hm4, (x_hw_at hhw (fun j hj hne => by have hj2 := x_some_lt hlt0 hne; exact (frn1 j (by omega) (by omega) (by omega))))⟩, hm5, hm6, hm7, hm8, ⟨_, ⟨_, _, _, _, _, _, _, _, _, _, hm3⟩, hco⟩, ⟨_, _, _, hPS1, hLKx1⟩, hm9, hm10, ⟨_, hm11⟩, hm12, hm13, hm14, hm15, ⟨_, _, hm16, hovn, hovh⟩⟩ (by omega) hpv (by omega) hI0 hI1 hI3 hcb) rfl (fun w17 φ17 n17 sl17 hn17 hN17 hs17 hT17 hR17 => ?_)
  obtain ⟨mi2, noted2, verd2, ins2, ver2, hw2, hmi2, hJI2, hG2⟩ := hR17
  subst hw2
  exact q_retv (v := (0, verd2, 0)) rfl rfl (⟨rfl, ⟨by omega, by omega⟩, ⟨by omega, by omega⟩, _, _, _, _, _, rfl, hmi2, hJI2, hG2⟩)
theorem zc_jx_7 {d n sl : Nat} {φ : FH} {tpd : Nat} {tp : Nat → Nat} {lf : Nat} {mi : Nat} {made : Nat} {sv : Nat} {svm : Nat} {comb : Nat → Nat} {hm : Nat → MV} {sc : Nat → Nat} {sm : Nat → MV} {mh : MV} {noted : Nat} {verd : Nat} {ins : Nat → Nat} {ver : Nat → Nat} {sz : Nat} {bw : Nat → Nat} (hG : zG φ tpd tp lf mi made sv svm comb hm sc sm mh noted verd ins ver sz bw) (hn0 : 486 ≤ n) (hpv : ∀ i, x_pv2 (hm i)) (hmi : mi + 300 ≤ 20000) (hI0 : ∀ x, x < 40 → zI0 hm x) (hI1 : ∀ x, x < 40 → zI1 hm x) (hI3 : ∀ x, x < 40 → zI3 hm x) (hcb : ∀ x, x < made → comb x = 0 ∨ comb x = 3 ∨ comb x = 5)  : x_f x_P (d + 4) 68 [(6, 468, 0), (0, 2, 0), (11, 0, 0)] φ n sl (x_bR n sl 100 600 (fun zw φ2 => ∃ mi2 noted2 verd2 : Nat, ∃ ins2 ver2 : Nat → Nat, zw = (0, verd2, 0) ∧ mi2 ≤ mi + 100 ∧ JI (qN made comb hm) made noted2 verd2 ins2 ver2 ∧ zG φ2 tpd tp lf mi2 made sv svm comb hm sc sm mh noted2 verd2 ins2 ver2 sz bw)) := by
  refine x_f_of rfl ?_
  have hG0 := hG
  obtain ⟨⟨hand, ie, hH, hhw⟩, hB, hTJ, hEJ, hN, hKJ, ⟨A, B, s9, hPS, hLK0⟩, hSP, hV5, ⟨slq, hSL⟩, hRW, hJ, hFJ, hWJ, ⟨ovn, ovh, hOV, hovn, hovh⟩⟩ := hG
  refine x_n_lt (fun hlt0 => ?_)
  have hmade := x_PS_lt hPS
  obtain ⟨co, ⟨top_, fr_, pc_, mm, st, lo, re, rs, fl, se, hKS⟩, hco⟩ := hKJ
  refine q_load (v := (6, 468, 0)) (p2 := 1) rfl rfl rfl rfl ?_
  refine q_callvE (xs := [(6, 468, 0)]) (p2 := 2) rfl rfl rfl rfl (x_rcv_s 468 hJ.1) rfl (zc_j_clear hJ) (Nat.le_refl _) (Nat.le_refl _) rfl (fun φ1 hR1 => ?_)
  obtain ⟨hs1_0, fr1⟩ := hR1
  refine q_const (p2 := 3) rfl rfl ?_
  refine q_store (loc2 := [(6, 468, 0), (0, 2, 0), (0, 0, 0)]) (p2 := 4) rfl rfl rfl rfl rfl ?_
  have hm2 := (zq_H_at hH (fr1 0 (by decide)))
  have hm3 := (zq_tp_at hB (fr1 1 (by decide)))
  have hm4 := (zTJ_at hTJ (fun j h1 h2 => (fr1 j (by omega))))
  have hm5 := (zEJ_at hEJ (fun j h1 h2 => (fr1 j (by omega))))
  have hm6 := (zq_nm_at hN (fr1 239 (by decide)) (fr1 242 (by decide)) (fr1 244 (by decide)))
  have hm7 := (x_KS_at2 hKS (fun j h1 h2 h3 h4 => (fr1 j (by omega))))
  refine x_n_lt (fun hlt9 => ?_)
  have hm8 := (x_PS_at hPS (fun j hj hne => by have hj2 := x_some_lt hlt0 hne; exact (fr1 j (by omega))))
  have hm10 := (x_LK_at2 hLK0 (fun j h1 h2 => (fr1 j (by omega))))
  have hm11 := (x_SP_at hSP (fun j hj hne => by have hj2 := x_some_lt hlt0 hne; exact (fr1 j (by omega))))
  have hm12 := (zq_V5_at hV5 (fr1 485 (by decide)))
  have hm13 := (zq_SL_at hSL (fr1 482 (by decide)))
  have hm14 := (zq_RW_at hRW (fr1 483 (by decide)))
  have hm15 := (zFJ_at hFJ (fun j h1 h2 => (fr1 j (by omega))))
  have hm16 := (zWJ_at hWJ (fun j h1 h2 => (fr1 j (by omega))))
  have hm17 := (zq_OV_at hOV (fr1 452 (by decide)) (fr1 453 (by decide)))
  exact zc_jl_7 hpv hI0 hI1 hI3 hcb hn0 (by omega) hmade made 0 _ _ _ _ _ _ _ _ (by omega) hmade ⟨⟨_, _, hm2, (x_hw_at hhw (fun j hj hne => by have hj2 := x_some_lt hlt0 hne; exact (fr1 j (by omega))))⟩, hm3, hm4, hm5, hm6, ⟨_, ⟨_, _, _, _, _, _, _, _, _, _, hm7⟩, hco⟩, ⟨_, _, _, hm8, hm10⟩, hm11, hm12, ⟨_, hm13⟩, hm14, hs1_0, hm15, hm16, ⟨_, _, hm17, hovn, hovh⟩⟩ JI_0 (by omega) (by omega) (by omega)
theorem zc_judge_7 {d n sl : Nat} {φ : FH} {tpd : Nat} {tp : Nat → Nat} {lf : Nat} {mi : Nat} {made : Nat} {sv : Nat} {svm : Nat} {comb : Nat → Nat} {hm : Nat → MV} {sc : Nat → Nat} {sm : Nat → MV} {mh : MV} {noted : Nat} {verd : Nat} {ins : Nat → Nat} {ver : Nat → Nat} {sz : Nat} {bw : Nat → Nat} (hG : zG φ tpd tp lf mi made sv svm comb hm sc sm mh noted verd ins ver sz bw) (hn0 : 486 ≤ n) (hpv : ∀ i, x_pv2 (hm i)) (hmi : mi + 300 ≤ 20000) (hI0 : ∀ x, x < 40 → zI0 hm x) (hI1 : ∀ x, x < 40 → zI1 hm x) (hI3 : ∀ x, x < 40 → zI3 hm x) (hcb : ∀ x, x < made → comb x = 0 ∨ comb x = 3 ∨ comb x = 5)  : x_f x_P (d + 6) 27 [(6, 0, 0), (0, 7, 0), (11, 0, 0), (11, 0, 0)] φ n sl (x_bR n sl 100 600 (fun zw φ2 => ∃ mi2 noted2 verd2 : Nat, ∃ ins2 ver2 : Nat → Nat, zw = (0, verd2, 0) ∧ mi2 ≤ mi + 100 ∧ JI (qN made comb hm) made noted2 verd2 ins2 ver2 ∧ zG φ2 tpd tp lf mi2 made sv svm comb hm sc sm mh noted2 verd2 ins2 ver2 sz bw)) := by
  refine x_f_of rfl ?_
  have hG0 := hG
  obtain ⟨⟨hand, ie, hH, hhw⟩, hB, hTJ, hEJ, hN, hKJ, ⟨A, B, s9, hPS, hLK0⟩, hSP, hV5, ⟨slq, hSL⟩, hRW, hJ, hFJ, hWJ, ⟨ovn, ovh, hOV, hovn, hovh⟩⟩ := hG
  refine x_n_lt (fun hlt0 => ?_)
  have hmade := x_PS_lt hPS
  obtain ⟨co, ⟨top_, fr_, pc_, mm, st, lo, re, rs, fl, se, hKS⟩, hco⟩ := hKJ
  refine q_load (v := (6, 0, 0)) (p2 := 1) rfl rfl rfl rfl ?_
  refine q_getv (v := (6, 7, 0)) (p2 := 2) rfl hH (by decide) rfl rfl ?_
  refine q_getv (v := (6, 237, 0)) (p2 := 3) rfl hPS.1.choose_spec.1 (by decide) hPS.1.choose_spec.2.1 rfl ?_
  refine q_store (loc2 := [(6, 0, 0), (0, 7, 0), (6, 237, 0), (11, 0, 0)]) (p2 := 4) rfl rfl rfl rfl rfl ?_
  refine q_load (v := (0, 7, 0)) (p2 := 5) rfl rfl rfl rfl ?_
  refine q_if0_s (p2 := 6) rfl (by decide) (by omega) rfl (fun hb => absurd hb (show ¬ (7 < 0) by omega)) (fun _ => ?_)
  refine q_load (v := (0, 7, 0)) (p2 := 7) rfl rfl rfl rfl ?_
  refine q_load (v := (6, 237, 0)) (p2 := 8) rfl rfl rfl rfl ?_
  refine q_callK (xs := [(6, 237, 0)]) (p2 := 9) rfl rfl rfl rfl (x_rcv_s 237 hKS.2.2.2.2.2.2.2.2.2.1.choose_spec.1) rfl rfl ?_
  refine x_f_of rfl ?_
  refine q_const (p2 := 1) rfl rfl ?_
  refine q_load (v := (6, 237, 0)) (p2 := 2) rfl rfl rfl rfl ?_
  refine q_getv (v := (6, 246, 0)) (p2 := 3) rfl hKS.2.2.2.2.2.2.2.2.2.1.choose_spec.1 (by decide) hKS.2.2.2.2.2.2.2.2.2.1.choose_spec.2.2.2.1 rfl ?_
  refine q_const (p2 := 4) rfl rfl ?_
  refine q_aldv (v := (0, 3, 0)) (p2 := 5) rfl (x_sc_246 hKS.2.2.2.2.2.2.2.2.2) (by omega) (by omega) rfl rfl ?_
  refine q_iop (w := 3 * 3) (z := 9) (p2 := 6) rfl (xo_mul 3 3) (by decide) rfl ?_
  refine q_load (v := (6, 237, 0)) (p2 := 7) rfl rfl rfl rfl ?_
  refine q_getv (v := (6, 246, 0)) (p2 := 8) rfl hKS.2.2.2.2.2.2.2.2.2.1.choose_spec.1 (by decide) hKS.2.2.2.2.2.2.2.2.2.1.choose_spec.2.2.2.1 rfl ?_
  refine q_const (p2 := 9) rfl rfl ?_
  refine q_aldv (v := (0, 0, 0)) (p2 := 10) rfl (x_sc_246 hKS.2.2.2.2.2.2.2.2.2) (by omega) (by omega) rfl rfl ?_
  refine q_iop (w := 9 + 0) (z := 9) (p2 := 11) rfl (xo_add 9 0) (by decide) rfl ?_
  refine q_load (v := (6, 237, 0)) (p2 := 12) rfl rfl rfl rfl ?_
  refine q_getv (v := (6, 246, 0)) (p2 := 13) rfl hKS.2.2.2.2.2.2.2.2.2.1.choose_spec.1 (by decide) hKS.2.2.2.2.2.2.2.2.2.1.choose_spec.2.2.2.1 rfl ?_
  refine q_const (p2 := 14) rfl rfl ?_
  refine q_aldv (v := (0, 0, 0)) (p2 := 15) rfl (x_sc_246 hKS.2.2.2.2.2.2.2.2.2) (by omega) (by omega) rfl rfl ?_
  refine q_iop (w := 9 + 0) (z := 9) (p2 := 16) rfl (xo_add 9 0) (by decide) rfl ?_
  refine q_retv (v := (0, 9, 0)) rfl rfl ⟨rfl, by omega, by omega, ?_⟩
  refine q_icmp_s (p2 := 10) rfl (by decide) (by omega) (by omega) rfl (fun _ => ?_) (fun hb => absurd (show 7 < 9 by omega) hb)
  refine q_load (v := (6, 0, 0)) (p2 := 13) rfl rfl rfl rfl ?_
  refine q_getv (v := (6, 7, 0)) (p2 := 14) rfl hH (by decide) rfl rfl ?_
  refine q_callvE (xs := [(6, 7, 0)]) (p2 := 15) rfl rfl rfl rfl (x_rcv_s 7 hPS.1.choose_spec.1) rfl (e_prepare hPS hLK0.1 hpv hKS.2.2.2.2.2.2.2.2.2) (Nat.le_refl _) (Nat.le_refl _) rfl (fun φ1 hR1 => ?_)
  obtain ⟨A1, B1, hPS1, hLK1, frn1⟩ := hR1
  have hAB1 := x_pop_AB hPS1.1.choose_spec
  obtain ⟨lik1, lb1, hL1, hLb1, hlk1⟩ := id hLK1
  refine x_n_lt (fun hlt2 => ?_)
  have hLKx1 : x_LK φ1 A1 B1 made 0 comb hm ∧ _ := ⟨hLK1, hAB1⟩
  refine q_load (v := (6, 237, 0)) (p2 := 16) rfl rfl rfl rfl ?_
  refine q_load (v := (0, 7, 0)) (p2 := 17) rfl rfl rfl rfl ?_
  have hm3 := (x_KS_at2 hKS (fun j h1 h2 h3 h4 => (frn1 j (by omega) (by omega) (by omega))))
  refine q_callK (xs := [(0, 7, 0), (6, 237, 0)]) (p2 := 18) rfl rfl rfl rfl (x_rcv_s 237 hm3.2.2.2.2.2.2.2.2.2.1.choose_spec.1) rfl rfl ?_
  refine x_f_of rfl ?_
  refine q_load (v := (0, 7, 0)) (p2 := 1) rfl rfl rfl rfl ?_
  refine q_const (p2 := 2) rfl rfl ?_
  refine q_load (v := (6, 237, 0)) (p2 := 3) rfl rfl rfl rfl ?_
  refine q_getv (v := (6, 246, 0)) (p2 := 4) rfl hm3.2.2.2.2.2.2.2.2.2.1.choose_spec.1 (by decide) hm3.2.2.2.2.2.2.2.2.2.1.choose_spec.2.2.2.1 rfl ?_
  refine q_const (p2 := 5) rfl rfl ?_
  refine q_aldv (v := (0, 3, 0)) (p2 := 6) rfl (x_sc_246 hm3.2.2.2.2.2.2.2.2.2) (by omega) (by omega) rfl rfl ?_
  refine q_iop (w := 3 * 3) (z := 9) (p2 := 7) rfl (xo_mul 3 3) (by decide) rfl ?_
  refine q_iop (w := 7 + (4294967296 - 9 % 4294967296)) (z := 4294967294) (p2 := 8) rfl (xo_sub 7 9) (by decide) rfl ?_
  refine q_store (loc2 := [(6, 237, 0), (0, 7, 0), (0, 4294967294, 0)]) (p2 := 9) rfl rfl rfl rfl rfl ?_
  refine q_load (v := (0, 4294967294, 0)) (p2 := 10) rfl rfl rfl rfl ?_
  refine q_if0 (p2 := 11) rfl (by decide) rfl (fun hb => absurd hb (show ¬ (¬ (2147483646 < 2147483648)) by decide)) (fun _ => ?_)
  refine q_load (v := (0, 7, 0)) (p2 := 12) rfl rfl rfl rfl ?_
  refine q_const (p2 := 13) rfl rfl ?_
  refine q_iop (w := 7 / 3) (z := 2) (p2 := 14) rfl (xo_div (by decide) (by decide) (by decide)) (by decide) rfl ?_
  refine q_retv (v := (0, 2, 0)) rfl rfl ⟨rfl, by omega, by omega, ?_⟩
  refine q_store (loc2 := [(6, 0, 0), (0, 7, 0), (6, 237, 0), (0, 2, 0)]) (p2 := 19) rfl rfl rfl rfl rfl ?_
  refine q_load (v := (6, 237, 0)) (p2 := 20) rfl rfl rfl rfl ?_
  refine q_load (v := (0, 7, 0)) (p2 := 21) rfl rfl rfl rfl ?_
  refine q_callK (xs := [(0, 7, 0), (6, 237, 0)]) (p2 := 22) rfl rfl rfl rfl (x_rcv_s 237 hm3.2.2.2.2.2.2.2.2.2.1.choose_spec.1) rfl rfl ?_
  refine x_f_of rfl ?_
  refine q_load (v := (0, 7, 0)) (p2 := 1) rfl rfl rfl rfl ?_
  refine q_const (p2 := 2) rfl rfl ?_
  refine q_load (v := (6, 237, 0)) (p2 := 3) rfl rfl rfl rfl ?_
  refine q_getv (v := (6, 246, 0)) (p2 := 4) rfl hm3.2.2.2.2.2.2.2.2.2.1.choose_spec.1 (by decide) hm3.2.2.2.2.2.2.2.2.2.1.choose_spec.2.2.2.1 rfl ?_
  refine q_const (p2 := 5) rfl rfl ?_
  refine q_aldv (v := (0, 3, 0)) (p2 := 6) rfl (x_sc_246 hm3.2.2.2.2.2.2.2.2.2) (by omega) (by omega) rfl rfl ?_
  refine q_iop (w := 3 * 3) (z := 9) (p2 := 7) rfl (xo_mul 3 3) (by decide) rfl ?_
  refine q_iop (w := 7 + (4294967296 - 9 % 4294967296)) (z := 4294967294) (p2 := 8) rfl (xo_sub 7 9) (by decide) rfl ?_
  refine q_store (loc2 := [(6, 237, 0), (0, 7, 0), (0, 4294967294, 0)]) (p2 := 9) rfl rfl rfl rfl rfl ?_
  refine q_load (v := (0, 4294967294, 0)) (p2 := 10) rfl rfl rfl rfl ?_
  refine q_if0 (p2 := 11) rfl (by decide) rfl (fun hb => absurd hb (show ¬ (¬ (2147483646 < 2147483648)) by decide)) (fun _ => ?_)
  refine q_load (v := (0, 7, 0)) (p2 := 12) rfl rfl rfl rfl ?_
  refine q_const (p2 := 13) rfl rfl ?_
  refine q_iop (w := 7 % 3) (z := 1) (p2 := 14) rfl (xo_rem (by decide) (by decide) (by decide)) (by decide) rfl ?_
  refine q_retv (v := (0, 1, 0)) rfl rfl ⟨rfl, by omega, by omega, ?_⟩
  refine q_switch (tgt := 28) rfl (by decide) rfl ?_
  refine q_load (v := (6, 0, 0)) (p2 := 29) rfl rfl rfl rfl ?_
  have hm4 := (zq_H_at hH (frn1 0 (by omega) (by omega) (by omega)))
  refine q_getv (v := (6, 468, 0)) (p2 := 30) rfl hm4 (by decide) rfl rfl ?_
  refine q_load (v := (0, 2, 0)) (p2 := 31) rfl rfl rfl rfl ?_
  have hm5 := (zq_tp_at hB (frn1 1 (by omega) (by omega) (by omega)))
  have hm6 := (zTJ_at hTJ (fun j h1 h2 => (frn1 j (by omega) (by omega) (by omega))))
  have hm7 := (zEJ_at hEJ (fun j h1 h2 => (frn1 j (by omega) (by omega) (by omega))))
  have hm8 := (zq_nm_at hN (frn1 239 (by omega) (by omega) (by omega)) (frn1 242 (by omega) (by omega) (by omega)) (frn1 244 (by omega) (by omega) (by omega)))
  have hm9 := (x_SP_at hSP (fun j hj hne => by have hj2 := x_some_lt hlt0 hne; exact (frn1 j (by omega) (by omega) (by omega))))
  have hm10 := (zq_V5_at hV5 (frn1 485 (by omega) (by omega) (by omega)))
  have hm11 := (zq_SL_at hSL (frn1 482 (by omega) (by omega) (by omega)))
  have hm12 := (zq_RW_at hRW (frn1 483 (by omega) (by omega) (by omega)))
  have hm13 := (zq_J_at hJ (frn1 468 (by omega) (by omega) (by omega)) (frn1 469 (by omega) (by omega) (by omega)) (frn1 470 (by omega) (by omega) (by omega)))
  have hm14 := (zFJ_at hFJ (fun j h1 h2 => (frn1 j (by omega) (by omega) (by omega))))
  have hm15 := (zWJ_at hWJ (fun j h1 h2 => (frn1 j (by omega) (by omega) (by omega))))
  have hm16 := (zq_OV_at hOV (frn1 452 (by omega) (by omega) (by omega)) (frn1 453 (by omega) (by omega) (by omega)))
  refine q_callrB (xs := [(0, 2, 0), (6, 468, 0)]) (p2 := 32) rfl rfl rfl rfl (x_rcv_s 468 hm13.1) rfl (zc_jx_7 ⟨⟨_, _, hm4, (x_hw_at hhw (fun j hj hne => by have hj2 := x_some_lt hlt0 hne; exact (frn1 j (by omega) (by omega) (by omega))))⟩, hm5, hm6, hm7, hm8, ⟨_, ⟨_, _, _, _, _, _, _, _, _, _, hm3⟩, hco⟩, ⟨_, _, _, hPS1, hLKx1⟩, hm9, hm10, ⟨_, hm11⟩, hm12, hm13, hm14, hm15, ⟨_, _, hm16, hovn, hovh⟩⟩ (by omega) hpv (by omega) hI0 hI1 hI3 hcb) rfl (fun w17 φ17 n17 sl17 hn17 hN17 hs17 hT17 hR17 => ?_)
  obtain ⟨mi2, noted2, verd2, ins2, ver2, hw2, hmi2, hJI2, hG2⟩ := hR17
  subst hw2
  exact q_retv (v := (0, verd2, 0)) rfl rfl (⟨rfl, ⟨by omega, by omega⟩, ⟨by omega, by omega⟩, _, _, _, _, _, rfl, hmi2, hJI2, hG2⟩)
theorem zc_jx_8 {d n sl : Nat} {φ : FH} {tpd : Nat} {tp : Nat → Nat} {lf : Nat} {mi : Nat} {made : Nat} {sv : Nat} {svm : Nat} {comb : Nat → Nat} {hm : Nat → MV} {sc : Nat → Nat} {sm : Nat → MV} {mh : MV} {noted : Nat} {verd : Nat} {ins : Nat → Nat} {ver : Nat → Nat} {sz : Nat} {bw : Nat → Nat} (hG : zG φ tpd tp lf mi made sv svm comb hm sc sm mh noted verd ins ver sz bw) (hn0 : 486 ≤ n) (hpv : ∀ i, x_pv2 (hm i)) (hmi : mi + 300 ≤ 20000) (hI0 : ∀ x, x < 40 → zI0 hm x) (hI1 : ∀ x, x < 40 → zI1 hm x) (hI3 : ∀ x, x < 40 → zI3 hm x) (hcb : ∀ x, x < made → comb x = 0 ∨ comb x = 3 ∨ comb x = 5)  : x_f x_P (d + 7) 69 [(6, 468, 0), (0, 2, 0), (11, 0, 0), (11, 0, 0), (11, 0, 0), (11, 0, 0)] φ n sl (x_bR n sl 100 600 (fun zw φ2 => ∃ mi2 noted2 verd2 : Nat, ∃ ins2 ver2 : Nat → Nat, zw = (0, verd2, 0) ∧ mi2 ≤ mi + 100 ∧ JI (q8 made comb hm) made noted2 verd2 ins2 ver2 ∧ zG φ2 tpd tp lf mi2 made sv svm comb hm sc sm mh noted2 verd2 ins2 ver2 sz bw)) := by
  refine x_f_of rfl ?_
  have hG0 := hG
  obtain ⟨⟨hand, ie, hH, hhw⟩, hB, hTJ, hEJ, hN, hKJ, ⟨A, B, s9, hPS, hLK0⟩, hSP, hV5, ⟨slq, hSL⟩, hRW, hJ, hFJ, hWJ, ⟨ovn, ovh, hOV, hovn, hovh⟩⟩ := hG
  refine x_n_lt (fun hlt0 => ?_)
  have hmade := x_PS_lt hPS
  obtain ⟨co, ⟨top_, fr_, pc_, mm, st, lo, re, rs, fl, se, hKS⟩, hco⟩ := hKJ
  refine q_load (v := (6, 468, 0)) (p2 := 1) rfl rfl rfl rfl ?_
  refine q_callvE (xs := [(6, 468, 0)]) (p2 := 2) rfl rfl rfl rfl (x_rcv_s 468 hJ.1) rfl (zc_j_clear hJ) (Nat.le_refl _) (Nat.le_refl _) rfl (fun φ1 hR1 => ?_)
  obtain ⟨hs1_0, fr1⟩ := hR1
  refine q_const (p2 := 3) rfl rfl ?_
  refine q_store (loc2 := [(6, 468, 0), (0, 2, 0), (0, 0, 0), (11, 0, 0), (11, 0, 0), (11, 0, 0)]) (p2 := 4) rfl rfl rfl rfl rfl ?_
  have hm2 := (zq_H_at hH (fr1 0 (by decide)))
  have hm3 := (zq_tp_at hB (fr1 1 (by decide)))
  have hm4 := (zTJ_at hTJ (fun j h1 h2 => (fr1 j (by omega))))
  have hm5 := (zEJ_at hEJ (fun j h1 h2 => (fr1 j (by omega))))
  have hm6 := (zq_nm_at hN (fr1 239 (by decide)) (fr1 242 (by decide)) (fr1 244 (by decide)))
  have hm7 := (x_KS_at2 hKS (fun j h1 h2 h3 h4 => (fr1 j (by omega))))
  refine x_n_lt (fun hlt9 => ?_)
  have hm8 := (x_PS_at hPS (fun j hj hne => by have hj2 := x_some_lt hlt0 hne; exact (fr1 j (by omega))))
  have hm10 := (x_LK_at2 hLK0 (fun j h1 h2 => (fr1 j (by omega))))
  have hm11 := (x_SP_at hSP (fun j hj hne => by have hj2 := x_some_lt hlt0 hne; exact (fr1 j (by omega))))
  have hm12 := (zq_V5_at hV5 (fr1 485 (by decide)))
  have hm13 := (zq_SL_at hSL (fr1 482 (by decide)))
  have hm14 := (zq_RW_at hRW (fr1 483 (by decide)))
  have hm15 := (zFJ_at hFJ (fun j h1 h2 => (fr1 j (by omega))))
  have hm16 := (zWJ_at hWJ (fun j h1 h2 => (fr1 j (by omega))))
  have hm17 := (zq_OV_at hOV (fr1 452 (by decide)) (fr1 453 (by decide)))
  exact zc_jl_8 hpv hI0 hI1 hI3 hcb hn0 (by omega) hmade made 0 _ _ _ _ _ _ _ _ _ _ _ (by omega) hmade ⟨⟨_, _, hm2, (x_hw_at hhw (fun j hj hne => by have hj2 := x_some_lt hlt0 hne; exact (fr1 j (by omega))))⟩, hm3, hm4, hm5, hm6, ⟨_, ⟨_, _, _, _, _, _, _, _, _, _, hm7⟩, hco⟩, ⟨_, _, _, hm8, hm10⟩, hm11, hm12, ⟨_, hm13⟩, hm14, hs1_0, hm15, hm16, ⟨_, _, hm17, hovn, hovh⟩⟩ JI_0 (by omega) (by omega) (by omega)
theorem zc_judge_8 {d n sl : Nat} {φ : FH} {tpd : Nat} {tp : Nat → Nat} {lf : Nat} {mi : Nat} {made : Nat} {sv : Nat} {svm : Nat} {comb : Nat → Nat} {hm : Nat → MV} {sc : Nat → Nat} {sm : Nat → MV} {mh : MV} {noted : Nat} {verd : Nat} {ins : Nat → Nat} {ver : Nat → Nat} {sz : Nat} {bw : Nat → Nat} (hG : zG φ tpd tp lf mi made sv svm comb hm sc sm mh noted verd ins ver sz bw) (hn0 : 486 ≤ n) (hpv : ∀ i, x_pv2 (hm i)) (hmi : mi + 300 ≤ 20000) (hI0 : ∀ x, x < 40 → zI0 hm x) (hI1 : ∀ x, x < 40 → zI1 hm x) (hI3 : ∀ x, x < 40 → zI3 hm x) (hcb : ∀ x, x < made → comb x = 0 ∨ comb x = 3 ∨ comb x = 5)  : x_f x_P (d + 8) 27 [(6, 0, 0), (0, 8, 0), (11, 0, 0), (11, 0, 0)] φ n sl (x_bR n sl 100 600 (fun zw φ2 => ∃ mi2 noted2 verd2 : Nat, ∃ ins2 ver2 : Nat → Nat, zw = (0, verd2, 0) ∧ mi2 ≤ mi + 100 ∧ JI (q8 made comb hm) made noted2 verd2 ins2 ver2 ∧ zG φ2 tpd tp lf mi2 made sv svm comb hm sc sm mh noted2 verd2 ins2 ver2 sz bw)) := by
  refine x_f_of rfl ?_
  have hG0 := hG
  obtain ⟨⟨hand, ie, hH, hhw⟩, hB, hTJ, hEJ, hN, hKJ, ⟨A, B, s9, hPS, hLK0⟩, hSP, hV5, ⟨slq, hSL⟩, hRW, hJ, hFJ, hWJ, ⟨ovn, ovh, hOV, hovn, hovh⟩⟩ := hG
  refine x_n_lt (fun hlt0 => ?_)
  have hmade := x_PS_lt hPS
  obtain ⟨co, ⟨top_, fr_, pc_, mm, st, lo, re, rs, fl, se, hKS⟩, hco⟩ := hKJ
  refine q_load (v := (6, 0, 0)) (p2 := 1) rfl rfl rfl rfl ?_
  refine q_getv (v := (6, 7, 0)) (p2 := 2) rfl hH (by decide) rfl rfl ?_
  refine q_getv (v := (6, 237, 0)) (p2 := 3) rfl hPS.1.choose_spec.1 (by decide) hPS.1.choose_spec.2.1 rfl ?_
  refine q_store (loc2 := [(6, 0, 0), (0, 8, 0), (6, 237, 0), (11, 0, 0)]) (p2 := 4) rfl rfl rfl rfl rfl ?_
  refine q_load (v := (0, 8, 0)) (p2 := 5) rfl rfl rfl rfl ?_
  refine q_if0_s (p2 := 6) rfl (by decide) (by omega) rfl (fun hb => absurd hb (show ¬ (8 < 0) by omega)) (fun _ => ?_)
  refine q_load (v := (0, 8, 0)) (p2 := 7) rfl rfl rfl rfl ?_
  refine q_load (v := (6, 237, 0)) (p2 := 8) rfl rfl rfl rfl ?_
  refine q_callK (xs := [(6, 237, 0)]) (p2 := 9) rfl rfl rfl rfl (x_rcv_s 237 hKS.2.2.2.2.2.2.2.2.2.1.choose_spec.1) rfl rfl ?_
  refine x_f_of rfl ?_
  refine q_const (p2 := 1) rfl rfl ?_
  refine q_load (v := (6, 237, 0)) (p2 := 2) rfl rfl rfl rfl ?_
  refine q_getv (v := (6, 246, 0)) (p2 := 3) rfl hKS.2.2.2.2.2.2.2.2.2.1.choose_spec.1 (by decide) hKS.2.2.2.2.2.2.2.2.2.1.choose_spec.2.2.2.1 rfl ?_
  refine q_const (p2 := 4) rfl rfl ?_
  refine q_aldv (v := (0, 3, 0)) (p2 := 5) rfl (x_sc_246 hKS.2.2.2.2.2.2.2.2.2) (by omega) (by omega) rfl rfl ?_
  refine q_iop (w := 3 * 3) (z := 9) (p2 := 6) rfl (xo_mul 3 3) (by decide) rfl ?_
  refine q_load (v := (6, 237, 0)) (p2 := 7) rfl rfl rfl rfl ?_
  refine q_getv (v := (6, 246, 0)) (p2 := 8) rfl hKS.2.2.2.2.2.2.2.2.2.1.choose_spec.1 (by decide) hKS.2.2.2.2.2.2.2.2.2.1.choose_spec.2.2.2.1 rfl ?_
  refine q_const (p2 := 9) rfl rfl ?_
  refine q_aldv (v := (0, 0, 0)) (p2 := 10) rfl (x_sc_246 hKS.2.2.2.2.2.2.2.2.2) (by omega) (by omega) rfl rfl ?_
  refine q_iop (w := 9 + 0) (z := 9) (p2 := 11) rfl (xo_add 9 0) (by decide) rfl ?_
  refine q_load (v := (6, 237, 0)) (p2 := 12) rfl rfl rfl rfl ?_
  refine q_getv (v := (6, 246, 0)) (p2 := 13) rfl hKS.2.2.2.2.2.2.2.2.2.1.choose_spec.1 (by decide) hKS.2.2.2.2.2.2.2.2.2.1.choose_spec.2.2.2.1 rfl ?_
  refine q_const (p2 := 14) rfl rfl ?_
  refine q_aldv (v := (0, 0, 0)) (p2 := 15) rfl (x_sc_246 hKS.2.2.2.2.2.2.2.2.2) (by omega) (by omega) rfl rfl ?_
  refine q_iop (w := 9 + 0) (z := 9) (p2 := 16) rfl (xo_add 9 0) (by decide) rfl ?_
  refine q_retv (v := (0, 9, 0)) rfl rfl ⟨rfl, by omega, by omega, ?_⟩
  refine q_icmp_s (p2 := 10) rfl (by decide) (by omega) (by omega) rfl (fun _ => ?_) (fun hb => absurd (show 8 < 9 by omega) hb)
  refine q_load (v := (6, 0, 0)) (p2 := 13) rfl rfl rfl rfl ?_
  refine q_getv (v := (6, 7, 0)) (p2 := 14) rfl hH (by decide) rfl rfl ?_
  refine q_callvE (xs := [(6, 7, 0)]) (p2 := 15) rfl rfl rfl rfl (x_rcv_s 7 hPS.1.choose_spec.1) rfl (e_prepare hPS hLK0.1 hpv hKS.2.2.2.2.2.2.2.2.2) (Nat.le_refl _) (Nat.le_refl _) rfl (fun φ1 hR1 => ?_)
  obtain ⟨A1, B1, hPS1, hLK1, frn1⟩ := hR1
  have hAB1 := x_pop_AB hPS1.1.choose_spec
  obtain ⟨lik1, lb1, hL1, hLb1, hlk1⟩ := id hLK1
  refine x_n_lt (fun hlt2 => ?_)
  have hLKx1 : x_LK φ1 A1 B1 made 0 comb hm ∧ _ := ⟨hLK1, hAB1⟩
  refine q_load (v := (6, 237, 0)) (p2 := 16) rfl rfl rfl rfl ?_
  refine q_load (v := (0, 8, 0)) (p2 := 17) rfl rfl rfl rfl ?_
  have hm3 := (x_KS_at2 hKS (fun j h1 h2 h3 h4 => (frn1 j (by omega) (by omega) (by omega))))
  refine q_callK (xs := [(0, 8, 0), (6, 237, 0)]) (p2 := 18) rfl rfl rfl rfl (x_rcv_s 237 hm3.2.2.2.2.2.2.2.2.2.1.choose_spec.1) rfl rfl ?_
  refine x_f_of rfl ?_
  refine q_load (v := (0, 8, 0)) (p2 := 1) rfl rfl rfl rfl ?_
  refine q_const (p2 := 2) rfl rfl ?_
  refine q_load (v := (6, 237, 0)) (p2 := 3) rfl rfl rfl rfl ?_
  refine q_getv (v := (6, 246, 0)) (p2 := 4) rfl hm3.2.2.2.2.2.2.2.2.2.1.choose_spec.1 (by decide) hm3.2.2.2.2.2.2.2.2.2.1.choose_spec.2.2.2.1 rfl ?_
  refine q_const (p2 := 5) rfl rfl ?_
  refine q_aldv (v := (0, 3, 0)) (p2 := 6) rfl (x_sc_246 hm3.2.2.2.2.2.2.2.2.2) (by omega) (by omega) rfl rfl ?_
  refine q_iop (w := 3 * 3) (z := 9) (p2 := 7) rfl (xo_mul 3 3) (by decide) rfl ?_
  refine q_iop (w := 8 + (4294967296 - 9 % 4294967296)) (z := 4294967295) (p2 := 8) rfl (xo_sub 8 9) (by decide) rfl ?_
  refine q_store (loc2 := [(6, 237, 0), (0, 8, 0), (0, 4294967295, 0)]) (p2 := 9) rfl rfl rfl rfl rfl ?_
  refine q_load (v := (0, 4294967295, 0)) (p2 := 10) rfl rfl rfl rfl ?_
  refine q_if0 (p2 := 11) rfl (by decide) rfl (fun hb => absurd hb (show ¬ (¬ (2147483647 < 2147483648)) by decide)) (fun _ => ?_)
  refine q_load (v := (0, 8, 0)) (p2 := 12) rfl rfl rfl rfl ?_
  refine q_const (p2 := 13) rfl rfl ?_
  refine q_iop (w := 8 / 3) (z := 2) (p2 := 14) rfl (xo_div (by decide) (by decide) (by decide)) (by decide) rfl ?_
  refine q_retv (v := (0, 2, 0)) rfl rfl ⟨rfl, by omega, by omega, ?_⟩
  refine q_store (loc2 := [(6, 0, 0), (0, 8, 0), (6, 237, 0), (0, 2, 0)]) (p2 := 19) rfl rfl rfl rfl rfl ?_
  refine q_load (v := (6, 237, 0)) (p2 := 20) rfl rfl rfl rfl ?_
  refine q_load (v := (0, 8, 0)) (p2 := 21) rfl rfl rfl rfl ?_
  refine q_callK (xs := [(0, 8, 0), (6, 237, 0)]) (p2 := 22) rfl rfl rfl rfl (x_rcv_s 237 hm3.2.2.2.2.2.2.2.2.2.1.choose_spec.1) rfl rfl ?_
  refine x_f_of rfl ?_
  refine q_load (v := (0, 8, 0)) (p2 := 1) rfl rfl rfl rfl ?_
  refine q_const (p2 := 2) rfl rfl ?_
  refine q_load (v := (6, 237, 0)) (p2 := 3) rfl rfl rfl rfl ?_
  refine q_getv (v := (6, 246, 0)) (p2 := 4) rfl hm3.2.2.2.2.2.2.2.2.2.1.choose_spec.1 (by decide) hm3.2.2.2.2.2.2.2.2.2.1.choose_spec.2.2.2.1 rfl ?_
  refine q_const (p2 := 5) rfl rfl ?_
  refine q_aldv (v := (0, 3, 0)) (p2 := 6) rfl (x_sc_246 hm3.2.2.2.2.2.2.2.2.2) (by omega) (by omega) rfl rfl ?_
  refine q_iop (w := 3 * 3) (z := 9) (p2 := 7) rfl (xo_mul 3 3) (by decide) rfl ?_
  refine q_iop (w := 8 + (4294967296 - 9 % 4294967296)) (z := 4294967295) (p2 := 8) rfl (xo_sub 8 9) (by decide) rfl ?_
  refine q_store (loc2 := [(6, 237, 0), (0, 8, 0), (0, 4294967295, 0)]) (p2 := 9) rfl rfl rfl rfl rfl ?_
  refine q_load (v := (0, 4294967295, 0)) (p2 := 10) rfl rfl rfl rfl ?_
  refine q_if0 (p2 := 11) rfl (by decide) rfl (fun hb => absurd hb (show ¬ (¬ (2147483647 < 2147483648)) by decide)) (fun _ => ?_)
  refine q_load (v := (0, 8, 0)) (p2 := 12) rfl rfl rfl rfl ?_
  refine q_const (p2 := 13) rfl rfl ?_
  refine q_iop (w := 8 % 3) (z := 2) (p2 := 14) rfl (xo_rem (by decide) (by decide) (by decide)) (by decide) rfl ?_
  refine q_retv (v := (0, 2, 0)) rfl rfl ⟨rfl, by omega, by omega, ?_⟩
  refine q_switch (tgt := 33) rfl (by decide) rfl ?_
  refine q_load (v := (6, 0, 0)) (p2 := 34) rfl rfl rfl rfl ?_
  have hm4 := (zq_H_at hH (frn1 0 (by omega) (by omega) (by omega)))
  refine q_getv (v := (6, 468, 0)) (p2 := 35) rfl hm4 (by decide) rfl rfl ?_
  refine q_load (v := (0, 2, 0)) (p2 := 36) rfl rfl rfl rfl ?_
  have hm5 := (zq_tp_at hB (frn1 1 (by omega) (by omega) (by omega)))
  have hm6 := (zTJ_at hTJ (fun j h1 h2 => (frn1 j (by omega) (by omega) (by omega))))
  have hm7 := (zEJ_at hEJ (fun j h1 h2 => (frn1 j (by omega) (by omega) (by omega))))
  have hm8 := (zq_nm_at hN (frn1 239 (by omega) (by omega) (by omega)) (frn1 242 (by omega) (by omega) (by omega)) (frn1 244 (by omega) (by omega) (by omega)))
  have hm9 := (x_SP_at hSP (fun j hj hne => by have hj2 := x_some_lt hlt0 hne; exact (frn1 j (by omega) (by omega) (by omega))))
  have hm10 := (zq_V5_at hV5 (frn1 485 (by omega) (by omega) (by omega)))
  have hm11 := (zq_SL_at hSL (frn1 482 (by omega) (by omega) (by omega)))
  have hm12 := (zq_RW_at hRW (frn1 483 (by omega) (by omega) (by omega)))
  have hm13 := (zq_J_at hJ (frn1 468 (by omega) (by omega) (by omega)) (frn1 469 (by omega) (by omega) (by omega)) (frn1 470 (by omega) (by omega) (by omega)))
  have hm14 := (zFJ_at hFJ (fun j h1 h2 => (frn1 j (by omega) (by omega) (by omega))))
  have hm15 := (zWJ_at hWJ (fun j h1 h2 => (frn1 j (by omega) (by omega) (by omega))))
  have hm16 := (zq_OV_at hOV (frn1 452 (by omega) (by omega) (by omega)) (frn1 453 (by omega) (by omega) (by omega)))
  refine q_callrB (xs := [(0, 2, 0), (6, 468, 0)]) (p2 := 37) rfl rfl rfl rfl (x_rcv_s 468 hm13.1) rfl (zc_jx_8 ⟨⟨_, _, hm4, (x_hw_at hhw (fun j hj hne => by have hj2 := x_some_lt hlt0 hne; exact (frn1 j (by omega) (by omega) (by omega))))⟩, hm5, hm6, hm7, hm8, ⟨_, ⟨_, _, _, _, _, _, _, _, _, _, hm3⟩, hco⟩, ⟨_, _, _, hPS1, hLKx1⟩, hm9, hm10, ⟨_, hm11⟩, hm12, hm13, hm14, hm15, ⟨_, _, hm16, hovn, hovh⟩⟩ (by omega) hpv (by omega) hI0 hI1 hI3 hcb) rfl (fun w17 φ17 n17 sl17 hn17 hN17 hs17 hT17 hR17 => ?_)
  obtain ⟨mi2, noted2, verd2, ins2, ver2, hw2, hmi2, hJI2, hG2⟩ := hR17
  subst hw2
  exact q_retv (v := (0, verd2, 0)) rfl rfl (⟨rfl, ⟨by omega, by omega⟩, ⟨by omega, by omega⟩, _, _, _, _, _, rfl, hmi2, hJI2, hG2⟩)
set_option maxHeartbeats 1000000 in
theorem zc_judge_bad {d n sl : Nat} {φ : FH} {tpd : Nat} {tp : Nat → Nat} {lf : Nat} {mi : Nat} {made : Nat} {sv : Nat} {svm : Nat} {comb : Nat → Nat} {hm : Nat → MV} {sc : Nat → Nat} {sm : Nat → MV} {mh : MV} {noted : Nat} {verd : Nat} {ins : Nat → Nat} {ver : Nat → Nat} {sz : Nat} {bw : Nat → Nat} {r : Nat} (hG : zG φ tpd tp lf mi made sv svm comb hm sc sm mh noted verd ins ver sz bw) (hn0 : 486 ≤ n) (hpv : ∀ i, x_pv2 (hm i)) (hmi : mi + 100 ≤ 20000) (hr : 9 ≤ r ∧ r < 1000) : x_f x_P (d + 2) 27 [(6, 0, 0), (0, r, 0), (11, 0, 0), (11, 0, 0)] φ n sl (x_bR n sl 0 0 (fun zw φ2 => zw = (0, 4294967295, 0) ∧ zG φ2 tpd tp lf mi made sv svm comb hm sc sm mh noted verd ins ver sz bw)) := by
  refine x_f_of rfl ?_
  have hG0 := hG
  obtain ⟨⟨hand, ie, hH, hhw⟩, hB, hTJ, hEJ, hN, hKJ, ⟨A, B, s9, hPS, hLK0⟩, hSP, hV5, ⟨slq, hSL⟩, hRW, hJ, hFJ, hWJ, ⟨ovn, ovh, hOV, hovn, hovh⟩⟩ := hG
  refine x_n_lt (fun hlt0 => ?_)
  have hmade := x_PS_lt hPS
  obtain ⟨co, ⟨top_, fr_, pc_, mm, st, lo, re, rs, fl, se, hKS⟩, hco⟩ := hKJ
  refine q_load (v := (6, 0, 0)) (p2 := 1) rfl rfl rfl rfl ?_
  refine q_getv (v := (6, 7, 0)) (p2 := 2) rfl hH (by decide) rfl rfl ?_
  refine q_getv (v := (6, 237, 0)) (p2 := 3) rfl hPS.1.choose_spec.1 (by decide) hPS.1.choose_spec.2.1 rfl ?_
  refine q_store (loc2 := [(6, 0, 0), (0, r, 0), (6, 237, 0), (11, 0, 0)]) (p2 := 4) rfl rfl rfl rfl rfl ?_
  refine q_load (v := (0, r, 0)) (p2 := 5) rfl rfl rfl rfl ?_
  refine q_if0_s (p2 := 6) rfl (by decide) (by omega) rfl (fun hb => absurd hb (show ¬ (r < 0) by omega)) (fun _ => ?_)
  refine q_load (v := (0, r, 0)) (p2 := 7) rfl rfl rfl rfl ?_
  refine q_load (v := (6, 237, 0)) (p2 := 8) rfl rfl rfl rfl ?_
  refine q_callK (xs := [(6, 237, 0)]) (p2 := 9) rfl rfl rfl rfl (x_rcv_s 237 hKS.2.2.2.2.2.2.2.2.2.1.choose_spec.1) rfl rfl ?_
  refine x_f_of rfl ?_
  refine q_const (p2 := 1) rfl rfl ?_
  refine q_load (v := (6, 237, 0)) (p2 := 2) rfl rfl rfl rfl ?_
  refine q_getv (v := (6, 246, 0)) (p2 := 3) rfl hKS.2.2.2.2.2.2.2.2.2.1.choose_spec.1 (by decide) hKS.2.2.2.2.2.2.2.2.2.1.choose_spec.2.2.2.1 rfl ?_
  refine q_const (p2 := 4) rfl rfl ?_
  refine q_aldv (v := (0, 3, 0)) (p2 := 5) rfl (x_sc_246 hKS.2.2.2.2.2.2.2.2.2) (by omega) (by omega) rfl rfl ?_
  refine q_iop (w := 3 * 3) (z := 9) (p2 := 6) rfl (xo_mul 3 3) (by decide) rfl ?_
  refine q_load (v := (6, 237, 0)) (p2 := 7) rfl rfl rfl rfl ?_
  refine q_getv (v := (6, 246, 0)) (p2 := 8) rfl hKS.2.2.2.2.2.2.2.2.2.1.choose_spec.1 (by decide) hKS.2.2.2.2.2.2.2.2.2.1.choose_spec.2.2.2.1 rfl ?_
  refine q_const (p2 := 9) rfl rfl ?_
  refine q_aldv (v := (0, 0, 0)) (p2 := 10) rfl (x_sc_246 hKS.2.2.2.2.2.2.2.2.2) (by omega) (by omega) rfl rfl ?_
  refine q_iop (w := 9 + 0) (z := 9) (p2 := 11) rfl (xo_add 9 0) (by decide) rfl ?_
  refine q_load (v := (6, 237, 0)) (p2 := 12) rfl rfl rfl rfl ?_
  refine q_getv (v := (6, 246, 0)) (p2 := 13) rfl hKS.2.2.2.2.2.2.2.2.2.1.choose_spec.1 (by decide) hKS.2.2.2.2.2.2.2.2.2.1.choose_spec.2.2.2.1 rfl ?_
  refine q_const (p2 := 14) rfl rfl ?_
  refine q_aldv (v := (0, 0, 0)) (p2 := 15) rfl (x_sc_246 hKS.2.2.2.2.2.2.2.2.2) (by omega) (by omega) rfl rfl ?_
  refine q_iop (w := 9 + 0) (z := 9) (p2 := 16) rfl (xo_add 9 0) (by decide) rfl ?_
  refine q_retv (v := (0, 9, 0)) rfl rfl ⟨rfl, by omega, by omega, ?_⟩
  refine q_icmp_s (p2 := 10) rfl (by decide) (by omega) (by omega) rfl (fun hb => absurd hb (show ¬ (r < 9) by omega)) (fun _ => ?_)
  refine q_const (p2 := 11) rfl rfl ?_
  exact q_retv (v := (0, 4294967295, 0)) rfl rfl (⟨rfl, ⟨by omega, by omega⟩, ⟨by omega, by omega⟩, rfl, ⟨⟨_, _, hH, hhw⟩, hB, hTJ, hEJ, hN, ⟨_, ⟨_, _, _, _, _, _, _, _, _, _, hKS⟩, hco⟩, ⟨_, _, _, hPS, hLK0⟩, hSP, hV5, ⟨_, hSL⟩, hRW, hJ, hFJ, hWJ, ⟨_, _, hOV, hovn, hovh⟩⟩⟩)
theorem zc_judged0_no {d n sl : Nat} {φ : FH} {tpd : Nat} {tp : Nat → Nat} {lf : Nat} {mi : Nat} {made : Nat} {sv : Nat} {svm : Nat} {comb : Nat → Nat} {hm : Nat → MV} {sc : Nat → Nat} {sm : Nat → MV} {mh : MV} {verd : Nat} {ins : Nat → Nat} {ver : Nat → Nat} {sz : Nat} {bw : Nat → Nat}  (hG : zG φ tpd tp lf mi made sv svm comb hm sc sm mh 0 verd ins ver sz bw) (hn0 : 486 ≤ n)  : x_f x_P (d + 1) 337 [(6, 0, 0), (0, 0, 0), (0, 0, 0)] φ n sl (x_r φ n sl (0, 4294967295, 0)) := by
  refine x_f_of rfl ?_
  have hG0 := hG
  obtain ⟨⟨hand, ie, hH, hhw⟩, hB, hTJ, hEJ, hN, hKJ, ⟨A, B, s9, hPS, hLK0⟩, hSP, hV5, ⟨slq, hSL⟩, hRW, hJ, hFJ, hWJ, ⟨ovn, ovh, hOV, hovn, hovh⟩⟩ := hG
  refine x_n_lt (fun hlt0 => ?_)
  have hmade := x_PS_lt hPS
  obtain ⟨co, ⟨top_, fr_, pc_, mm, st, lo, re, rs, fl, se, hKS⟩, hco⟩ := hKJ
  refine q_load (v := (0, 0, 0)) (p2 := 1) rfl rfl rfl rfl ?_
  refine q_if0_s (p2 := 2) rfl (by decide) (by omega) rfl (fun hb => absurd hb (show ¬ (0 < 0) by omega)) (fun _ => ?_)
  refine q_load (v := (0, 0, 0)) (p2 := 3) rfl rfl rfl rfl ?_
  refine q_load (v := (6, 0, 0)) (p2 := 4) rfl rfl rfl rfl ?_
  refine q_getv (v := (6, 468, 0)) (p2 := 5) rfl hH (by decide) rfl rfl ?_
  refine q_getv (v := (0, 0, 0)) (p2 := 6) rfl hJ.1 (by decide) rfl rfl ?_
  refine q_icmp_s (p2 := 7) rfl (by decide) (by omega) (by omega) rfl (fun _ => ?_) (fun hb => absurd (show ¬ (0 < 0) by omega) hb)
  refine q_const (p2 := 13) rfl rfl ?_
  exact q_retv (v := (0, 4294967295, 0)) rfl rfl (⟨rfl, rfl, rfl, rfl, rfl⟩)
theorem zc_judged1_no {d n sl : Nat} {φ : FH} {tpd : Nat} {tp : Nat → Nat} {lf : Nat} {mi : Nat} {made : Nat} {sv : Nat} {svm : Nat} {comb : Nat → Nat} {hm : Nat → MV} {sc : Nat → Nat} {sm : Nat → MV} {mh : MV} {verd : Nat} {ins : Nat → Nat} {ver : Nat → Nat} {sz : Nat} {bw : Nat → Nat}  (hG : zG φ tpd tp lf mi made sv svm comb hm sc sm mh 0 verd ins ver sz bw) (hn0 : 486 ≤ n)  : x_f x_P (d + 1) 337 [(6, 0, 0), (0, 0, 0), (0, 1, 0)] φ n sl (x_r φ n sl (0, 4294967295, 0)) := by
  refine x_f_of rfl ?_
  have hG0 := hG
  obtain ⟨⟨hand, ie, hH, hhw⟩, hB, hTJ, hEJ, hN, hKJ, ⟨A, B, s9, hPS, hLK0⟩, hSP, hV5, ⟨slq, hSL⟩, hRW, hJ, hFJ, hWJ, ⟨ovn, ovh, hOV, hovn, hovh⟩⟩ := hG
  refine x_n_lt (fun hlt0 => ?_)
  have hmade := x_PS_lt hPS
  obtain ⟨co, ⟨top_, fr_, pc_, mm, st, lo, re, rs, fl, se, hKS⟩, hco⟩ := hKJ
  refine q_load (v := (0, 0, 0)) (p2 := 1) rfl rfl rfl rfl ?_
  refine q_if0_s (p2 := 2) rfl (by decide) (by omega) rfl (fun hb => absurd hb (show ¬ (0 < 0) by omega)) (fun _ => ?_)
  refine q_load (v := (0, 0, 0)) (p2 := 3) rfl rfl rfl rfl ?_
  refine q_load (v := (6, 0, 0)) (p2 := 4) rfl rfl rfl rfl ?_
  refine q_getv (v := (6, 468, 0)) (p2 := 5) rfl hH (by decide) rfl rfl ?_
  refine q_getv (v := (0, 0, 0)) (p2 := 6) rfl hJ.1 (by decide) rfl rfl ?_
  refine q_icmp_s (p2 := 7) rfl (by decide) (by omega) (by omega) rfl (fun _ => ?_) (fun hb => absurd (show ¬ (0 < 0) by omega) hb)
  refine q_const (p2 := 13) rfl rfl ?_
  exact q_retv (v := (0, 4294967295, 0)) rfl rfl (⟨rfl, rfl, rfl, rfl, rfl⟩)
theorem zc_judged0 {d n sl : Nat} {φ : FH} {tpd : Nat} {tp : Nat → Nat} {lf : Nat} {mi : Nat} {made : Nat} {sv : Nat} {svm : Nat} {comb : Nat → Nat} {hm : Nat → MV} {sc : Nat → Nat} {sm : Nat → MV} {mh : MV} {noted : Nat} {verd : Nat} {ins : Nat → Nat} {ver : Nat → Nat} {sz : Nat} {bw : Nat → Nat}  (hG : zG φ tpd tp lf mi made sv svm comb hm sc sm mh noted verd ins ver sz bw) (hn0 : 486 ≤ n) (hno : 0 < noted ∧ noted ≤ 40) : x_f x_P (d + 1) 337 [(6, 0, 0), (0, 0, 0), (0, 0, 0)] φ n sl (x_r φ n sl (0, ins 0, 0)) := by
  refine x_f_of rfl ?_
  have hG0 := hG
  obtain ⟨⟨hand, ie, hH, hhw⟩, hB, hTJ, hEJ, hN, hKJ, ⟨A, B, s9, hPS, hLK0⟩, hSP, hV5, ⟨slq, hSL⟩, hRW, hJ, hFJ, hWJ, ⟨ovn, ovh, hOV, hovn, hovh⟩⟩ := hG
  refine x_n_lt (fun hlt0 => ?_)
  have hmade := x_PS_lt hPS
  obtain ⟨co, ⟨top_, fr_, pc_, mm, st, lo, re, rs, fl, se, hKS⟩, hco⟩ := hKJ
  refine q_load (v := (0, 0, 0)) (p2 := 1) rfl rfl rfl rfl ?_
  refine q_if0_s (p2 := 2) rfl (by decide) (by omega) rfl (fun hb => absurd hb (show ¬ (0 < 0) by omega)) (fun _ => ?_)
  refine q_load (v := (0, 0, 0)) (p2 := 3) rfl rfl rfl rfl ?_
  refine q_load (v := (6, 0, 0)) (p2 := 4) rfl rfl rfl rfl ?_
  refine q_getv (v := (6, 468, 0)) (p2 := 5) rfl hH (by decide) rfl rfl ?_
  refine q_getv (v := (0, noted, 0)) (p2 := 6) rfl hJ.1 (by decide) rfl rfl ?_
  refine q_icmp_s (p2 := 7) rfl (by decide) (by omega) (by omega) rfl (fun hb => absurd hb (show ¬ (¬ (0 < noted)) by omega)) (fun _ => ?_)
  refine q_load (v := (0, 0, 0)) (p2 := 8) rfl rfl rfl rfl ?_
  refine q_if0_s (p2 := 9) rfl (by decide) (by omega) rfl (fun hb => absurd hb (show ¬ (0 < 0) by omega)) (fun _ => ?_)
  refine q_load (v := (0, 0, 0)) (p2 := 10) rfl rfl rfl rfl ?_
  refine q_const (p2 := 11) rfl rfl ?_
  refine q_icmp_s (p2 := 12) rfl (by decide) (by omega) (by omega) rfl (fun _ => ?_) (fun hb => absurd (show ¬ (1 < 0) by omega) hb)
  refine q_load (v := (0, 0, 0)) (p2 := 15) rfl rfl rfl rfl ?_
  refine q_if0_s (p2 := 16) rfl (by decide) (by omega) rfl (fun hb => absurd hb (show ¬ (¬ (0 = 0)) by omega)) (fun _ => ?_)
  refine q_load (v := (6, 0, 0)) (p2 := 17) rfl rfl rfl rfl ?_
  refine q_getv (v := (6, 468, 0)) (p2 := 18) rfl hH (by decide) rfl rfl ?_
  refine q_getv (v := (6, 469, 0)) (p2 := 19) rfl hJ.1 (by decide) rfl rfl ?_
  refine q_load (v := (0, 0, 0)) (p2 := 20) rfl rfl rfl rfl ?_
  refine q_aldT (tag := 0) (v := ins 0) (p2 := 21) rfl hJ.2.1 (by omega) (by omega) rfl rfl ?_
  refine q_goto rfl ?_
  exact q_retv (v := (0, ins 0, 0)) rfl rfl (⟨rfl, rfl, rfl, rfl, rfl⟩)
theorem zc_judged1 {d n sl : Nat} {φ : FH} {tpd : Nat} {tp : Nat → Nat} {lf : Nat} {mi : Nat} {made : Nat} {sv : Nat} {svm : Nat} {comb : Nat → Nat} {hm : Nat → MV} {sc : Nat → Nat} {sm : Nat → MV} {mh : MV} {noted : Nat} {verd : Nat} {ins : Nat → Nat} {ver : Nat → Nat} {sz : Nat} {bw : Nat → Nat}  (hG : zG φ tpd tp lf mi made sv svm comb hm sc sm mh noted verd ins ver sz bw) (hn0 : 486 ≤ n) (hno : 0 < noted ∧ noted ≤ 40) : x_f x_P (d + 1) 337 [(6, 0, 0), (0, 0, 0), (0, 1, 0)] φ n sl (x_r φ n sl (0, ver 0, 0)) := by
  refine x_f_of rfl ?_
  have hG0 := hG
  obtain ⟨⟨hand, ie, hH, hhw⟩, hB, hTJ, hEJ, hN, hKJ, ⟨A, B, s9, hPS, hLK0⟩, hSP, hV5, ⟨slq, hSL⟩, hRW, hJ, hFJ, hWJ, ⟨ovn, ovh, hOV, hovn, hovh⟩⟩ := hG
  refine x_n_lt (fun hlt0 => ?_)
  have hmade := x_PS_lt hPS
  obtain ⟨co, ⟨top_, fr_, pc_, mm, st, lo, re, rs, fl, se, hKS⟩, hco⟩ := hKJ
  refine q_load (v := (0, 0, 0)) (p2 := 1) rfl rfl rfl rfl ?_
  refine q_if0_s (p2 := 2) rfl (by decide) (by omega) rfl (fun hb => absurd hb (show ¬ (0 < 0) by omega)) (fun _ => ?_)
  refine q_load (v := (0, 0, 0)) (p2 := 3) rfl rfl rfl rfl ?_
  refine q_load (v := (6, 0, 0)) (p2 := 4) rfl rfl rfl rfl ?_
  refine q_getv (v := (6, 468, 0)) (p2 := 5) rfl hH (by decide) rfl rfl ?_
  refine q_getv (v := (0, noted, 0)) (p2 := 6) rfl hJ.1 (by decide) rfl rfl ?_
  refine q_icmp_s (p2 := 7) rfl (by decide) (by omega) (by omega) rfl (fun hb => absurd hb (show ¬ (¬ (0 < noted)) by omega)) (fun _ => ?_)
  refine q_load (v := (0, 1, 0)) (p2 := 8) rfl rfl rfl rfl ?_
  refine q_if0_s (p2 := 9) rfl (by decide) (by omega) rfl (fun hb => absurd hb (show ¬ (1 < 0) by omega)) (fun _ => ?_)
  refine q_load (v := (0, 1, 0)) (p2 := 10) rfl rfl rfl rfl ?_
  refine q_const (p2 := 11) rfl rfl ?_
  refine q_icmp_s (p2 := 12) rfl (by decide) (by omega) (by omega) rfl (fun _ => ?_) (fun hb => absurd (show ¬ (1 < 1) by omega) hb)
  refine q_load (v := (0, 1, 0)) (p2 := 15) rfl rfl rfl rfl ?_
  refine q_if0_s (p2 := 16) rfl (by decide) (by omega) rfl (fun _ => ?_) (fun hb => absurd (show ¬ (1 = 0) by omega) hb)
  refine q_load (v := (6, 0, 0)) (p2 := 23) rfl rfl rfl rfl ?_
  refine q_getv (v := (6, 468, 0)) (p2 := 24) rfl hH (by decide) rfl rfl ?_
  refine q_getv (v := (6, 470, 0)) (p2 := 25) rfl hJ.1 (by decide) rfl rfl ?_
  refine q_load (v := (0, 0, 0)) (p2 := 26) rfl rfl rfl rfl ?_
  refine q_aldT (tag := 0) (v := ver 0) (p2 := 27) rfl hJ.2.2 (by omega) (by omega) rfl rfl ?_
  exact q_retv (v := (0, ver 0, 0)) rfl rfl (⟨rfl, rfl, rfl, rfl, rfl⟩)
end FPOP69
