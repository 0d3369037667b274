section FPOP67
theorem zKS_open {φ : FH} {tpd hand lf ie : Nat} {slq : Nat → Nat} {m : MV} (h1 : zq_H φ tpd hand lf ie) (h2 : zq_SL φ slq) (h : zKS φ m) : slq 0 = hand ∧ x_mv φ hand m := by
  obtain ⟨tpd2, hand2, lf2, ie2, slq2, g1, g2, g3, g4⟩ := h
  have e1 : some ((0, 0, 15, x_lf [(6, 1, 0), (0, tpd, 0), (6, 2, 0), (6, 7, 0), (6, 232, 0), (6, 236, 0), (6, 455, 0), (6, 468, 0), (6, 471, 0), (6, 478, 0), (6, hand, 0), (6, 482, 0), (6, 483, 0), (0, lf, 0), (0, ie, 0)]) : FC) = _ := h1.symm.trans g1
  have e2 := congrFun (congrArg (fun q : FC => q.2.2.2) (Option.some.inj e1)) 10
  have e3 : ((6, hand, 0) : XV) = (6, hand2, 0) := e2
  have e4 : hand = hand2 := congrArg (fun q : XV => q.2.1) e3
  have e5 := congrFun (congrArg (fun q : FC => q.2.2.2) (Option.some.inj (h2.symm.trans g2))) 0
  have e6 : slq 0 = slq2 0 := congrArg (fun q : XV => q.2.1) e5
  exact ⟨by rw [e6, g3, e4], by rw [e4]; exact g4⟩
theorem x_lk_refl {lik : Nat → Nat} {made : Nat} (m : MV) (h2 : m.1 = 6 → m.2.2.2.2.length ≤ 2) : x_lk lik made m m := by
  refine decide_eq_true ?_
  by_cases h6 : m.1 = 6
  · refine Or.inl ⟨⟨h6, h6⟩, rfl, ?_⟩
    have hl := h2 h6
    generalize m.2.2.2.2 = L at hl ⊢
    match L, hl with
    | [], _ => rfl
    | [a], _ =>
      show (if (x_gJ _ 1 0 0).1 = 1 then _ else 0) = 1
      have e : x_gJ (fun j => x_kn lik made (([a] : List Nat).getD 0 0) (([a] : List Nat).getD j 0)) 1 0 0 = (1, 0 ||| 1 <<< 0) := if_pos ⟨rfl, Or.inl rfl⟩
      show (if (x_gJ (fun j => x_kn lik made (([a] : List Nat).getD 0 0) (([a] : List Nat).getD j 0)) 1 0 0).1 = 1 then 1 else 0) = 1
      rw [e]; rfl
    | [a, b], _ =>
      have e : x_gJ (fun j => x_kn lik made (([a, b] : List Nat).getD 0 0) (([a, b] : List Nat).getD j 0)) 2 0 0 = (1, 0 ||| 1 <<< 0) := if_pos ⟨rfl, Or.inl rfl⟩
      have e2 : x_gJ (fun j => x_kn lik made (([a, b] : List Nat).getD 1 0) (([a, b] : List Nat).getD j 0)) 2 0 (0 ||| 1 <<< 0) = (1, 0 ||| 1 <<< 0 ||| 1 <<< 1) := by
        show (if (0 ||| 1 <<< 0) >>> 0 &&& 1 = 0 ∧ _ then _ else x_gJ _ 1 (0 + 1) (0 ||| 1 <<< 0)) = _
        rw [if_neg (fun z => absurd z.1 (by decide))]
        exact if_pos ⟨rfl, Or.inl rfl⟩
      show (if (x_gJ (fun j => x_kn lik made (([a, b] : List Nat).getD 0 0) (([a, b] : List Nat).getD j 0)) 2 0 0).1 = 1 then (if (x_gJ (fun j => x_kn lik made (([a, b] : List Nat).getD 1 0) (([a, b] : List Nat).getD j 0)) 2 0 (x_gJ (fun j => x_kn lik made (([a, b] : List Nat).getD 0 0) (([a, b] : List Nat).getD j 0)) 2 0 0).2).1 = 1 then 1 else 0) else 0) = 1
      rw [e]
      show (if (1 : Nat) = 1 then (if (x_gJ (fun j => x_kn lik made (([a, b] : List Nat).getD 1 0) (([a, b] : List Nat).getD j 0)) 2 0 (0 ||| 1 <<< 0)).1 = 1 then 1 else 0) else 0) = 1
      rw [e2]; rfl
  · refine Or.inr ⟨fun z => h6 z.1, ?_⟩
    by_cases h0 : m.1 = 0
    · exact Or.inl ⟨h0, h0⟩
    · refine Or.inr ⟨rfl, ?_⟩
      by_cases h5 : m.1 = 5
      · exact Or.inl ⟨h5, Or.inl rfl⟩
      · exact Or.inr ⟨⟨h5, h0, h6⟩, rfl⟩
set_option maxHeartbeats 1000000 in
theorem zc_keep0 {d n sl : Nat} {φ : FH} {tpd : Nat} {tp : Nat → Nat} {lf : Nat} {mi : Nat} {made : Nat} {sv : Nat} {svm : Nat} {comb : Nat → Nat} {hm : Nat → MV} {sc : Nat → Nat} {sm : Nat → MV} {mh : MV} {noted : Nat} {verd : Nat} {ins : Nat → Nat} {ver : Nat → Nat} {sz : Nat} {bw : Nat → Nat}  (hG : zG φ tpd tp lf mi made sv svm comb hm sc sm mh noted verd ins ver sz bw) (hn0 : 486 ≤ n) (hpv : ∀ i, x_pv2 (hm i)) (hmi : mi + 100 ≤ 20000) (h9 : mh.2.2.1 ≠ 9) : x_f x_P (d + 1) 32 [(6, 0, 0), (0, 0, 0)] φ n sl (x_bR n sl 0 0 (fun zw φ2 => zw = (0, mh.1, 0) ∧ zG φ2 tpd tp lf mi made sv svm comb hm sc sm mh noted verd ins ver sz bw ∧ zKS φ2 mh)) := by
  refine x_f_of rfl ?_
  have hG0 := hG
  obtain ⟨⟨hand, ie, hH, hhw⟩, hB, hTJ, hEJ, hN, hKJ, ⟨A, B, s9, hPS, hLK0⟩, hSP, hV5, ⟨slq, hSL⟩, hRW, hJ, hFJ, hWJ, ⟨ovn, ovh, hOV, hovn, hovh⟩⟩ := hG
  refine x_n_lt (fun hlt0 => ?_)
  have hmade := x_PS_lt hPS
  obtain ⟨co, ⟨top_, fr_, pc_, mm, st, lo, re, rs, fl, se, hKS⟩, hco⟩ := hKJ
  have hmv : x_mv φ hand mh := hhw.resolve_right (fun z => h9 (by rw [z.2]; rfl))
  have hh6 := hmv.1
  obtain ⟨fG, sG, lG, aG, oG, cG, hW, hg, hk7⟩ := x_hw_g hhw hV5
  have hl0 := hlt0 _ _ hW
  refine q_load (v := (0, 0, 0)) (p2 := 1) rfl rfl rfl rfl ?_
  refine q_if0_s (p2 := 2) rfl (by decide) (by omega) rfl (fun hb => absurd hb (show ¬ (0 < 0) by omega)) (fun _ => ?_)
  refine q_load (v := (0, 0, 0)) (p2 := 3) rfl rfl rfl rfl ?_
  refine q_const (p2 := 4) rfl rfl ?_
  refine q_icmp_s (p2 := 5) rfl (by decide) (by omega) (by omega) rfl (fun _ => ?_) (fun hb => absurd (show 0 < 4 by omega) hb)
  refine q_load (v := (6, 0, 0)) (p2 := 8) rfl rfl rfl rfl ?_
  refine q_getv (v := (6, 482, 0)) (p2 := 9) rfl hH (by decide) rfl rfl ?_
  refine q_load (v := (0, 0, 0)) (p2 := 10) rfl rfl rfl rfl ?_
  refine q_load (v := (6, 0, 0)) (p2 := 11) rfl rfl rfl rfl ?_
  refine q_getv (v := (6, hand, 0)) (p2 := 12) rfl hH (by decide) rfl rfl ?_
  refine q_astE (v := (6, hand, 0)) (w := (6, hand, 0)) (p2 := 13) rfl hSL (by omega) (by omega) (x_ok_r hW rfl) (x_nv_same rfl (by decide)) rfl (fun φ1 f1 hh1 hg1 ho1 fr1 => ?_)
  have hs1 := zq_SL_st_482 hSL hh1 hg1 ho1 fr1
  refine q_load (v := (6, 0, 0)) (p2 := 14) rfl rfl rfl rfl ?_
  have hm2 := (zq_H_at hH (fr1 0 (by decide)))
  refine q_getv (v := (6, hand, 0)) (p2 := 15) rfl hm2 (by decide) rfl rfl ?_
  refine q_getv (v := (0, mh.1, 0)) (p2 := 16) rfl ((fr1 hand (by omega)).trans hW) (by decide) hg.1 rfl ?_
  refine x_n_lt (fun hlt4 => ?_)
  have hv3 := x_mv_at hmv (fun j hj hne => by have hj2 := x_some_lt hlt0 hne; exact (fr1 j (by omega)))
  have hm5 := (zq_tp_at hB (fr1 1 (by decide)))
  have hm6 := (zTJ_at hTJ (fun j h1 h2 => (fr1 j (by omega))))
  have hm7 := (zEJ_at hEJ (fun j h1 h2 => (fr1 j (by omega))))
  have hm8 := (zq_nm_at hN (fr1 239 (by decide)) (fr1 242 (by decide)) (fr1 244 (by decide)))
  have hm9 := (x_KS_at2 hKS (fun j h1 h2 h3 h4 => (fr1 j (by omega))))
  have hm10 := (x_PS_at hPS (fun j hj hne => by have hj2 := x_some_lt hlt0 hne; exact (fr1 j (by omega))))
  have hm11 := (x_LK_at2 hLK0 (fun j h1 h2 => (fr1 j (by omega))))
  have hm12 := (x_SP_at hSP (fun j hj hne => by have hj2 := x_some_lt hlt0 hne; exact (fr1 j (by omega))))
  have hm13 := (zq_V5_at hV5 (fr1 485 (by decide)))
  have hm14 := (zq_RW_at hRW (fr1 483 (by decide)))
  have hm15 := (zq_J_at hJ (fr1 468 (by decide)) (fr1 469 (by decide)) (fr1 470 (by decide)))
  have hm16 := (zFJ_at hFJ (fun j h1 h2 => (fr1 j (by omega))))
  have hm17 := (zWJ_at hWJ (fun j h1 h2 => (fr1 j (by omega))))
  have hm18 := (zq_OV_at hOV (fr1 452 (by decide)) (fr1 453 (by decide)))
  exact q_retv (v := (0, mh.1, 0)) rfl rfl (⟨rfl, ⟨by omega, by omega⟩, ⟨by omega, by omega⟩, rfl, ⟨⟨_, _, hm2, (Or.inl hv3)⟩, hm5, hm6, hm7, hm8, ⟨_, ⟨_, _, _, _, _, _, _, _, _, _, hm9⟩, hco⟩, ⟨_, _, _, hm10, hm11⟩, hm12, hm13, ⟨_, hs1⟩, hm14, hm15, hm16, hm17, ⟨_, _, hm18, hovn, hovh⟩⟩, ⟨_, _, _, _, _, hm2, hs1, x_s_eq, hv3⟩⟩)
set_option maxHeartbeats 1000000 in
theorem zc_like0 {d n sl : Nat} {φ : FH} {tpd : Nat} {tp : Nat → Nat} {lf : Nat} {mi : Nat} {made : Nat} {sv : Nat} {svm : Nat} {comb : Nat → Nat} {hm : Nat → MV} {sc : Nat → Nat} {sm : Nat → MV} {mh : MV} {noted : Nat} {verd : Nat} {ins : Nat → Nat} {ver : Nat → Nat} {sz : Nat} {bw : Nat → Nat}  (hG : zG φ tpd tp lf mi made sv svm comb hm sc sm mh noted verd ins ver sz bw) (hn0 : 486 ≤ n) (hpv : ∀ i, x_pv2 (hm i)) (hmi : mi + 100 ≤ 20000) (hks : zKS φ mh) (hp2 : x_pv2 mh) (hl2 : mh.1 = 6 → mh.2.2.2.2.length ≤ 2) : x_f x_P (d + 6) 336 [(6, 0, 0), (0, 0, 0)] φ n sl (x_bR n sl 0 0 (fun zw φ2 => zw = (0, 1, 0) ∧ zG φ2 tpd tp lf mi made sv svm comb hm sc sm mh noted verd ins ver sz bw)) := by
  refine x_f_of rfl ?_
  have hG0 := hG
  obtain ⟨⟨hand, ie, hH, hhw⟩, hB, hTJ, hEJ, hN, hKJ, ⟨A, B, s9, hPS, hLK0⟩, hSP, hV5, ⟨slq, hSL⟩, hRW, hJ, hFJ, hWJ, ⟨ovn, ovh, hOV, hovn, hovh⟩⟩ := hG
  refine x_n_lt (fun hlt0 => ?_)
  have hmade := x_PS_lt hPS
  obtain ⟨co, ⟨top_, fr_, pc_, mm, st, lo, re, rs, fl, se, hKS⟩, hco⟩ := hKJ
  obtain ⟨hs0, hmv⟩ := zKS_open hH hSL hks
  refine q_load (v := (0, 0, 0)) (p2 := 1) rfl rfl rfl rfl ?_
  refine q_if0_s (p2 := 2) rfl (by decide) (by omega) rfl (fun hb => absurd hb (show ¬ (0 < 0) by omega)) (fun _ => ?_)
  refine q_load (v := (0, 0, 0)) (p2 := 3) rfl rfl rfl rfl ?_
  refine q_const (p2 := 4) rfl rfl ?_
  refine q_icmp_s (p2 := 5) rfl (by decide) (by omega) (by omega) rfl (fun _ => ?_) (fun hb => absurd (show 0 < 4 by omega) hb)
  refine q_load (v := (6, 0, 0)) (p2 := 8) rfl rfl rfl rfl ?_
  refine q_getv (v := (6, 7, 0)) (p2 := 9) rfl hH (by decide) rfl rfl ?_
  refine q_callvE (xs := [(6, 7, 0)]) (p2 := 10) rfl rfl rfl rfl (x_rcv_s 7 hPS.1.choose_spec.1) rfl (e_prepare hPS hLK0.1 hpv hKS.2.2.2.2.2.2.2.2.2) (Nat.le_refl _) (Nat.le_refl _) rfl (fun φ1 hR1 => ?_)
  obtain ⟨A1, B1, hPS1, hLK1, frn1⟩ := hR1
  have hAB1 := x_pop_AB hPS1.1.choose_spec
  obtain ⟨lik1, lb1, hL1, hLb1, hlk1⟩ := id hLK1
  refine x_n_lt (fun hlt2 => ?_)
  have hLKx1 : x_LK φ1 A1 B1 made 0 comb hm ∧ _ := ⟨hLK1, hAB1⟩
  refine q_load (v := (6, 0, 0)) (p2 := 11) rfl rfl rfl rfl ?_
  have hm3 := (zq_H_at hH (frn1 0 (by omega) (by omega) (by omega)))
  refine q_getv (v := (6, 7, 0)) (p2 := 12) rfl hm3 (by decide) rfl rfl ?_
  refine q_load (v := (6, 0, 0)) (p2 := 13) rfl rfl rfl rfl ?_
  refine q_getv (v := (6, hand, 0)) (p2 := 14) rfl hm3 (by decide) rfl rfl ?_
  refine q_load (v := (6, 0, 0)) (p2 := 15) rfl rfl rfl rfl ?_
  refine q_getv (v := (6, 482, 0)) (p2 := 16) rfl hm3 (by decide) rfl rfl ?_
  refine q_load (v := (0, 0, 0)) (p2 := 17) rfl rfl rfl rfl ?_
  have hm4 := (zq_SL_at hSL (frn1 482 (by omega) (by omega) (by omega)))
  refine q_aldT (tag := 6) (v := hand) (p2 := 18) rfl hm4 (by omega) (by omega) hs0 rfl ?_
  have hv5 := x_mv_at hmv (fun j hj hne => by have hj2 := x_some_lt hlt0 hne; exact (frn1 j (by omega) (by omega) (by omega)))
  refine q_callr (xs := [(6, hand, 0), (6, hand, 0), (6, 7, 0)]) (p2 := 19) rfl rfl rfl rfl (x_rcv_s 7 hPS1.1.choose_spec.1) rfl (x_r_yes (e_alike hPS1.1.choose_spec (x_row_at2 hL1 rfl) hv5 hv5 hp2 hp2) (x_lk_refl mh hl2)) (Nat.le_refl _) (Nat.le_refl _) rfl ?_
  refine q_if0_s (p2 := 20) rfl (by decide) (by omega) rfl (fun hb => absurd hb (show ¬ (1 = 0) by omega)) (fun _ => ?_)
  refine q_const (p2 := 21) rfl rfl ?_
  refine q_goto rfl ?_
  have hm6 := (zq_tp_at hB (frn1 1 (by omega) (by omega) (by omega)))
  have hm7 := (zTJ_at hTJ (fun j h1 h2 => (frn1 j (by omega) (by omega) (by omega))))
  have hm8 := (zEJ_at hEJ (fun j h1 h2 => (frn1 j (by omega) (by omega) (by omega))))
  have hm9 := (zq_nm_at hN (frn1 239 (by omega) (by omega) (by omega)) (frn1 242 (by omega) (by omega) (by omega)) (frn1 244 (by omega) (by omega) (by omega)))
  have hm10 := (x_KS_at2 hKS (fun j h1 h2 h3 h4 => (frn1 j (by omega) (by omega) (by omega))))
  have hm11 := (x_SP_at hSP (fun j hj hne => by have hj2 := x_some_lt hlt0 hne; exact (frn1 j (by omega) (by omega) (by omega))))
  have hm12 := (zq_V5_at hV5 (frn1 485 (by omega) (by omega) (by omega)))
  have hm13 := (zq_RW_at hRW (frn1 483 (by omega) (by omega) (by omega)))
  have hm14 := (zq_J_at hJ (frn1 468 (by omega) (by omega) (by omega)) (frn1 469 (by omega) (by omega) (by omega)) (frn1 470 (by omega) (by omega) (by omega)))
  have hm15 := (zFJ_at hFJ (fun j h1 h2 => (frn1 j (by omega) (by omega) (by omega))))
  have hm16 := (zWJ_at hWJ (fun j h1 h2 => (frn1 j (by omega) (by omega) (by omega))))
  have hm17 := (zq_OV_at hOV (frn1 452 (by omega) (by omega) (by omega)) (frn1 453 (by omega) (by omega) (by omega)))
  exact q_retv (v := (0, 1, 0)) rfl rfl (⟨rfl, ⟨by omega, by omega⟩, ⟨by omega, by omega⟩, rfl, ⟨⟨_, _, hm3, (Or.inl hv5)⟩, hm6, hm7, hm8, hm9, ⟨_, ⟨_, _, _, _, _, _, _, _, _, _, hm10⟩, hco⟩, ⟨_, _, _, hPS1, hLKx1⟩, hm11, hm12, ⟨_, hm4⟩, hm13, hm14, hm15, hm16, ⟨_, _, hm17, hovn, hovh⟩⟩⟩)
theorem zc_a_209_0 {d n sl : Nat} {φ : FH}    : x_f x_P (d + 1) 209 [(0, 0, 0)] φ n sl (x_r φ n sl (0, 0, 0)) := by
  refine x_f_of rfl ?_
  refine q_load (v := (0, 0, 0)) (p2 := 1) rfl rfl rfl rfl ?_
  refine q_switch (tgt := 2) rfl (by decide) rfl ?_
  refine q_const (p2 := 3) rfl rfl ?_
  exact q_retv (v := (0, 0, 0)) rfl rfl (⟨rfl, rfl, rfl, rfl, rfl⟩)
theorem zc_a_209_1 {d n sl : Nat} {φ : FH}    : x_f x_P (d + 1) 209 [(0, 1, 0)] φ n sl (x_r φ n sl (0, 3, 0)) := by
  refine x_f_of rfl ?_
  refine q_load (v := (0, 1, 0)) (p2 := 1) rfl rfl rfl rfl ?_
  refine q_switch (tgt := 8) rfl (by decide) rfl ?_
  refine q_const (p2 := 9) rfl rfl ?_
  exact q_retv (v := (0, 3, 0)) rfl rfl (⟨rfl, rfl, rfl, rfl, rfl⟩)
theorem zc_a_126_0_1 {d n sl : Nat} {φ : FH}    : x_f x_P (d + 2) 126 [(0, 0, 0), (0, 1, 0)] φ n sl (x_r φ n sl (0, 0, 0)) := by
  refine x_f_of rfl ?_
  refine q_load (v := (0, 0, 0)) (p2 := 1) rfl rfl rfl rfl ?_
  refine q_callr (xs := [(0, 0, 0)]) (p2 := 2) rfl rfl rfl rfl (fun _ _ => rfl) rfl (zc_a_209_0 ) (Nat.le_refl _) (Nat.le_refl _) rfl ?_
  refine q_load (v := (0, 1, 0)) (p2 := 3) rfl rfl rfl rfl ?_
  refine q_callr (xs := [(0, 1, 0)]) (p2 := 4) rfl rfl rfl rfl (fun _ _ => rfl) rfl (zc_a_209_1 ) (Nat.le_refl _) (Nat.le_refl _) rfl ?_
  refine q_icmp_s (p2 := 5) rfl (by decide) (by omega) (by omega) rfl (fun hb => absurd hb (show ¬ (¬ (0 < 3)) by omega)) (fun _ => ?_)
  refine q_load (v := (0, 0, 0)) (p2 := 6) rfl rfl rfl rfl ?_
  refine q_goto rfl ?_
  exact q_retv (v := (0, 0, 0)) rfl rfl (⟨rfl, rfl, rfl, rfl, rfl⟩)
theorem zc_j_note_01 {d n sl : Nat} {φ : FH} {noted : Nat} {ins : Nat → Nat} {ver : Nat → Nat} {x : Nat} (hJ : zq_J φ noted 0 ins ver) (hc0 : noted < 2147483648) : x_f x_P (d + 3) 122 [(6, 468, 0), (0, x, 0), (0, 1, 0)] φ n sl (x_vR n sl (fun φ2 => zq_J φ2 noted 0 ins ver ∧ ∀ j, j ≠ 468 → φ2 j = φ j)) := by
  refine x_f_of rfl ?_
  refine q_load (v := (6, 468, 0)) (p2 := 1) rfl rfl rfl rfl ?_
  refine q_load (v := (6, 468, 0)) (p2 := 2) rfl rfl rfl rfl ?_
  refine q_getv (v := (0, 0, 0)) (p2 := 3) rfl hJ.1 (by decide) rfl rfl ?_
  refine q_load (v := (0, 1, 0)) (p2 := 4) rfl rfl rfl rfl ?_
  refine q_callr (xs := [(0, 1, 0), (0, 0, 0)]) (p2 := 5) rfl rfl rfl rfl (fun _ _ => rfl) rfl (zc_a_126_0_1 ) (Nat.le_refl _) (Nat.le_refl _) rfl ?_
  refine q_putfE (v := (0, 0, 0)) (p2 := 6) rfl hJ.1 (by decide) rfl rfl (fun φ1 f1 hh1 hg1 ho1 fr1 => ?_)
  have hs1 := zq_J_put_468_5 hJ hh1 hg1 ho1 fr1
  refine q_load (v := (0, 1, 0)) (p2 := 7) rfl rfl rfl rfl ?_
  refine q_const (p2 := 8) rfl rfl ?_
  refine q_icmp_s (p2 := 9) rfl (by decide) (by omega) (by omega) rfl (fun _ => ?_) (fun hb => absurd (show 1 = 1 by omega) hb)
  exact q_ret rfl (⟨rfl, rfl, rfl, hs1, fun j hj0 => (fr1 j (by omega))⟩)
theorem zc_a_126_0_0 {d n sl : Nat} {φ : FH}    : x_f x_P (d + 2) 126 [(0, 0, 0), (0, 0, 0)] φ n sl (x_r φ n sl (0, 0, 0)) := by
  refine x_f_of rfl ?_
  refine q_load (v := (0, 0, 0)) (p2 := 1) rfl rfl rfl rfl ?_
  refine q_callr (xs := [(0, 0, 0)]) (p2 := 2) rfl rfl rfl rfl (fun _ _ => rfl) rfl (zc_a_209_0 ) (Nat.le_refl _) (Nat.le_refl _) rfl ?_
  refine q_load (v := (0, 0, 0)) (p2 := 3) rfl rfl rfl rfl ?_
  refine q_callr (xs := [(0, 0, 0)]) (p2 := 4) rfl rfl rfl rfl (fun _ _ => rfl) rfl (zc_a_209_0 ) (Nat.le_refl _) (Nat.le_refl _) rfl ?_
  refine q_icmp_s (p2 := 5) rfl (by decide) (by omega) (by omega) rfl (fun _ => ?_) (fun hb => absurd (show ¬ (0 < 0) by omega) hb)
  refine q_load (v := (0, 0, 0)) (p2 := 8) rfl rfl rfl rfl ?_
  exact q_retv (v := (0, 0, 0)) rfl rfl (⟨rfl, rfl, rfl, rfl, rfl⟩)
theorem zc_j_note_00 {d n sl : Nat} {φ : FH} {noted : Nat} {ins : Nat → Nat} {ver : Nat → Nat} {x : Nat} (hJ : zq_J φ noted 0 ins ver) (hc0 : noted < 40) : x_f x_P (d + 3) 122 [(6, 468, 0), (0, x, 0), (0, 0, 0)] φ n sl (x_vR n sl (fun φ2 => zq_J φ2 (noted + 1) 0 (x_s ins noted x) (x_s ver noted 0) ∧ ∀ j, j ≠ 468 → j ≠ 469 → j ≠ 470 → φ2 j = φ j)) := by
  refine x_f_of rfl ?_
  refine q_load (v := (6, 468, 0)) (p2 := 1) rfl rfl rfl rfl ?_
  refine q_load (v := (6, 468, 0)) (p2 := 2) rfl rfl rfl rfl ?_
  refine q_getv (v := (0, 0, 0)) (p2 := 3) rfl hJ.1 (by decide) rfl rfl ?_
  refine q_load (v := (0, 0, 0)) (p2 := 4) rfl rfl rfl rfl ?_
  refine q_callr (xs := [(0, 0, 0), (0, 0, 0)]) (p2 := 5) rfl rfl rfl rfl (fun _ _ => rfl) rfl (zc_a_126_0_0 ) (Nat.le_refl _) (Nat.le_refl _) rfl ?_
  refine q_putfE (v := (0, 0, 0)) (p2 := 6) rfl hJ.1 (by decide) rfl rfl (fun φ1 f1 hh1 hg1 ho1 fr1 => ?_)
  have hs1 := zq_J_put_468_5 hJ hh1 hg1 ho1 fr1
  refine q_load (v := (0, 0, 0)) (p2 := 7) rfl rfl rfl rfl ?_
  refine q_const (p2 := 8) rfl rfl ?_
  refine q_icmp_s (p2 := 9) rfl (by decide) (by omega) (by omega) rfl (fun hb => absurd hb (show ¬ (0 = 1) by omega)) (fun _ => ?_)
  refine q_load (v := (6, 468, 0)) (p2 := 10) rfl rfl rfl rfl ?_
  refine q_getv (v := (0, noted, 0)) (p2 := 11) rfl hs1.1 (by decide) rfl rfl ?_
  refine q_load (v := (6, 468, 0)) (p2 := 12) rfl rfl rfl rfl ?_
  refine q_getv (v := (6, 469, 0)) (p2 := 13) rfl hs1.1 (by decide) rfl rfl ?_
  refine q_alen (p2 := 14) rfl hs1.2.1 rfl (by omega) rfl ?_
  refine q_icmp_s (p2 := 15) rfl (by decide) (by omega) (by omega) rfl (fun hb => absurd hb (show ¬ (¬ (noted < 40)) by omega)) (fun _ => ?_)
  refine q_load (v := (6, 468, 0)) (p2 := 16) rfl rfl rfl rfl ?_
  refine q_getv (v := (6, 469, 0)) (p2 := 17) rfl hs1.1 (by decide) rfl rfl ?_
  refine q_load (v := (6, 468, 0)) (p2 := 18) rfl rfl rfl rfl ?_
  refine q_getv (v := (0, noted, 0)) (p2 := 19) rfl hs1.1 (by decide) rfl rfl ?_
  refine q_load (v := (0, x, 0)) (p2 := 20) rfl rfl rfl rfl ?_
  refine q_astE (v := (0, x, 0)) (w := (0, x, 0)) (p2 := 21) rfl hs1.2.1 (by omega) (by omega) (x_ok_0 rfl) (x_nv_same rfl (by decide)) rfl (fun φ2 f2 hh2 hg2 ho2 fr2 => ?_)
  have hs2 := zq_J_st_469 hs1 hh2 hg2 ho2 fr2
  refine q_load (v := (6, 468, 0)) (p2 := 22) rfl rfl rfl rfl ?_
  refine q_getv (v := (6, 470, 0)) (p2 := 23) rfl hs2.1 (by decide) rfl rfl ?_
  refine q_load (v := (6, 468, 0)) (p2 := 24) rfl rfl rfl rfl ?_
  refine q_getv (v := (0, noted, 0)) (p2 := 25) rfl hs2.1 (by decide) rfl rfl ?_
  refine q_load (v := (0, 0, 0)) (p2 := 26) rfl rfl rfl rfl ?_
  refine q_astE (v := (0, 0, 0)) (w := (0, 0, 0)) (p2 := 27) rfl hs2.2.2 (by omega) (by omega) (x_ok_0 rfl) (x_nv_same rfl (by decide)) rfl (fun φ3 f3 hh3 hg3 ho3 fr3 => ?_)
  have hs3 := zq_J_st_470 hs2 hh3 hg3 ho3 fr3
  refine q_load (v := (6, 468, 0)) (p2 := 28) rfl rfl rfl rfl ?_
  refine q_dup (p2 := 29) rfl rfl rfl ?_
  refine q_getv (v := (0, noted, 0)) (p2 := 30) rfl hs3.1 (by decide) rfl rfl ?_
  refine q_const (p2 := 31) rfl rfl ?_
  refine q_iaddz (z := noted + 1) (p2 := 32) rfl (by omega) (by omega) rfl ?_
  refine q_putfE (v := (0, noted + 1, 0)) (p2 := 33) rfl hs3.1 (by decide) rfl rfl (fun φ4 f4 hh4 hg4 ho4 fr4 => ?_)
  have hs4 := zq_J_put_468_4 hs3 hh4 hg4 ho4 fr4
  exact q_ret rfl (⟨rfl, rfl, rfl, hs4, fun j hj0 hj1 hj2 => ((fr4 j (by omega)).trans ((fr3 j (by omega)).trans ((fr2 j (by omega)).trans (fr1 j (by omega)))))⟩)
theorem zc_a_126_1_1 {d n sl : Nat} {φ : FH}    : x_f x_P (d + 2) 126 [(0, 1, 0), (0, 1, 0)] φ n sl (x_r φ n sl (0, 1, 0)) := by
  refine x_f_of rfl ?_
  refine q_load (v := (0, 1, 0)) (p2 := 1) rfl rfl rfl rfl ?_
  refine q_callr (xs := [(0, 1, 0)]) (p2 := 2) rfl rfl rfl rfl (fun _ _ => rfl) rfl (zc_a_209_1 ) (Nat.le_refl _) (Nat.le_refl _) rfl ?_
  refine q_load (v := (0, 1, 0)) (p2 := 3) rfl rfl rfl rfl ?_
  refine q_callr (xs := [(0, 1, 0)]) (p2 := 4) rfl rfl rfl rfl (fun _ _ => rfl) rfl (zc_a_209_1 ) (Nat.le_refl _) (Nat.le_refl _) rfl ?_
  refine q_icmp_s (p2 := 5) rfl (by decide) (by omega) (by omega) rfl (fun _ => ?_) (fun hb => absurd (show ¬ (3 < 3) by omega) hb)
  refine q_load (v := (0, 1, 0)) (p2 := 8) rfl rfl rfl rfl ?_
  exact q_retv (v := (0, 1, 0)) rfl rfl (⟨rfl, rfl, rfl, rfl, rfl⟩)
theorem zc_j_note_11 {d n sl : Nat} {φ : FH} {noted : Nat} {ins : Nat → Nat} {ver : Nat → Nat} {x : Nat} (hJ : zq_J φ noted 1 ins ver) (hc0 : noted < 2147483648) : x_f x_P (d + 3) 122 [(6, 468, 0), (0, x, 0), (0, 1, 0)] φ n sl (x_vR n sl (fun φ2 => zq_J φ2 noted 1 ins ver ∧ ∀ j, j ≠ 468 → φ2 j = φ j)) := by
  refine x_f_of rfl ?_
  refine q_load (v := (6, 468, 0)) (p2 := 1) rfl rfl rfl rfl ?_
  refine q_load (v := (6, 468, 0)) (p2 := 2) rfl rfl rfl rfl ?_
  refine q_getv (v := (0, 1, 0)) (p2 := 3) rfl hJ.1 (by decide) rfl rfl ?_
  refine q_load (v := (0, 1, 0)) (p2 := 4) rfl rfl rfl rfl ?_
  refine q_callr (xs := [(0, 1, 0), (0, 1, 0)]) (p2 := 5) rfl rfl rfl rfl (fun _ _ => rfl) rfl (zc_a_126_1_1 ) (Nat.le_refl _) (Nat.le_refl _) rfl ?_
  refine q_putfE (v := (0, 1, 0)) (p2 := 6) rfl hJ.1 (by decide) rfl rfl (fun φ1 f1 hh1 hg1 ho1 fr1 => ?_)
  have hs1 := zq_J_put_468_5 hJ hh1 hg1 ho1 fr1
  refine q_load (v := (0, 1, 0)) (p2 := 7) rfl rfl rfl rfl ?_
  refine q_const (p2 := 8) rfl rfl ?_
  refine q_icmp_s (p2 := 9) rfl (by decide) (by omega) (by omega) rfl (fun _ => ?_) (fun hb => absurd (show 1 = 1 by omega) hb)
  exact q_ret rfl (⟨rfl, rfl, rfl, hs1, fun j hj0 => (fr1 j (by omega))⟩)
theorem zc_a_126_1_0 {d n sl : Nat} {φ : FH}    : x_f x_P (d + 2) 126 [(0, 1, 0), (0, 0, 0)] φ n sl (x_r φ n sl (0, 0, 0)) := by
  refine x_f_of rfl ?_
  refine q_load (v := (0, 1, 0)) (p2 := 1) rfl rfl rfl rfl ?_
  refine q_callr (xs := [(0, 1, 0)]) (p2 := 2) rfl rfl rfl rfl (fun _ _ => rfl) rfl (zc_a_209_1 ) (Nat.le_refl _) (Nat.le_refl _) rfl ?_
  refine q_load (v := (0, 0, 0)) (p2 := 3) rfl rfl rfl rfl ?_
  refine q_callr (xs := [(0, 0, 0)]) (p2 := 4) rfl rfl rfl rfl (fun _ _ => rfl) rfl (zc_a_209_0 ) (Nat.le_refl _) (Nat.le_refl _) rfl ?_
  refine q_icmp_s (p2 := 5) rfl (by decide) (by omega) (by omega) rfl (fun _ => ?_) (fun hb => absurd (show ¬ (3 < 0) by omega) hb)
  refine q_load (v := (0, 0, 0)) (p2 := 8) rfl rfl rfl rfl ?_
  exact q_retv (v := (0, 0, 0)) rfl rfl (⟨rfl, rfl, rfl, rfl, rfl⟩)
theorem zc_j_note_10 {d n sl : Nat} {φ : FH} {noted : Nat} {ins : Nat → Nat} {ver : Nat → Nat} {x : Nat} (hJ : zq_J φ noted 1 ins ver) (hc0 : noted < 40) : x_f x_P (d + 3) 122 [(6, 468, 0), (0, x, 0), (0, 0, 0)] φ n sl (x_vR n sl (fun φ2 => zq_J φ2 (noted + 1) 0 (x_s ins noted x) (x_s ver noted 0) ∧ ∀ j, j ≠ 468 → j ≠ 469 → j ≠ 470 → φ2 j = φ j)) := by
  refine x_f_of rfl ?_
  refine q_load (v := (6, 468, 0)) (p2 := 1) rfl rfl rfl rfl ?_
  refine q_load (v := (6, 468, 0)) (p2 := 2) rfl rfl rfl rfl ?_
  refine q_getv (v := (0, 1, 0)) (p2 := 3) rfl hJ.1 (by decide) rfl rfl ?_
  refine q_load (v := (0, 0, 0)) (p2 := 4) rfl rfl rfl rfl ?_
  refine q_callr (xs := [(0, 0, 0), (0, 1, 0)]) (p2 := 5) rfl rfl rfl rfl (fun _ _ => rfl) rfl (zc_a_126_1_0 ) (Nat.le_refl _) (Nat.le_refl _) rfl ?_
  refine q_putfE (v := (0, 0, 0)) (p2 := 6) rfl hJ.1 (by decide) rfl rfl (fun φ1 f1 hh1 hg1 ho1 fr1 => ?_)
  have hs1 := zq_J_put_468_5 hJ hh1 hg1 ho1 fr1
  refine q_load (v := (0, 0, 0)) (p2 := 7) rfl rfl rfl rfl ?_
  refine q_const (p2 := 8) rfl rfl ?_
  refine q_icmp_s (p2 := 9) rfl (by decide) (by omega) (by omega) rfl (fun hb => absurd hb (show ¬ (0 = 1) by omega)) (fun _ => ?_)
  refine q_load (v := (6, 468, 0)) (p2 := 10) rfl rfl rfl rfl ?_
  refine q_getv (v := (0, noted, 0)) (p2 := 11) rfl hs1.1 (by decide) rfl rfl ?_
  refine q_load (v := (6, 468, 0)) (p2 := 12) rfl rfl rfl rfl ?_
  refine q_getv (v := (6, 469, 0)) (p2 := 13) rfl hs1.1 (by decide) rfl rfl ?_
  refine q_alen (p2 := 14) rfl hs1.2.1 rfl (by omega) rfl ?_
  refine q_icmp_s (p2 := 15) rfl (by decide) (by omega) (by omega) rfl (fun hb => absurd hb (show ¬ (¬ (noted < 40)) by omega)) (fun _ => ?_)
  refine q_load (v := (6, 468, 0)) (p2 := 16) rfl rfl rfl rfl ?_
  refine q_getv (v := (6, 469, 0)) (p2 := 17) rfl hs1.1 (by decide) rfl rfl ?_
  refine q_load (v := (6, 468, 0)) (p2 := 18) rfl rfl rfl rfl ?_
  refine q_getv (v := (0, noted, 0)) (p2 := 19) rfl hs1.1 (by decide) rfl rfl ?_
  refine q_load (v := (0, x, 0)) (p2 := 20) rfl rfl rfl rfl ?_
  refine q_astE (v := (0, x, 0)) (w := (0, x, 0)) (p2 := 21) rfl hs1.2.1 (by omega) (by omega) (x_ok_0 rfl) (x_nv_same rfl (by decide)) rfl (fun φ2 f2 hh2 hg2 ho2 fr2 => ?_)
  have hs2 := zq_J_st_469 hs1 hh2 hg2 ho2 fr2
  refine q_load (v := (6, 468, 0)) (p2 := 22) rfl rfl rfl rfl ?_
  refine q_getv (v := (6, 470, 0)) (p2 := 23) rfl hs2.1 (by decide) rfl rfl ?_
  refine q_load (v := (6, 468, 0)) (p2 := 24) rfl rfl rfl rfl ?_
  refine q_getv (v := (0, noted, 0)) (p2 := 25) rfl hs2.1 (by decide) rfl rfl ?_
  refine q_load (v := (0, 0, 0)) (p2 := 26) rfl rfl rfl rfl ?_
  refine q_astE (v := (0, 0, 0)) (w := (0, 0, 0)) (p2 := 27) rfl hs2.2.2 (by omega) (by omega) (x_ok_0 rfl) (x_nv_same rfl (by decide)) rfl (fun φ3 f3 hh3 hg3 ho3 fr3 => ?_)
  have hs3 := zq_J_st_470 hs2 hh3 hg3 ho3 fr3
  refine q_load (v := (6, 468, 0)) (p2 := 28) rfl rfl rfl rfl ?_
  refine q_dup (p2 := 29) rfl rfl rfl ?_
  refine q_getv (v := (0, noted, 0)) (p2 := 30) rfl hs3.1 (by decide) rfl rfl ?_
  refine q_const (p2 := 31) rfl rfl ?_
  refine q_iaddz (z := noted + 1) (p2 := 32) rfl (by omega) (by omega) rfl ?_
  refine q_putfE (v := (0, noted + 1, 0)) (p2 := 33) rfl hs3.1 (by decide) rfl rfl (fun φ4 f4 hh4 hg4 ho4 fr4 => ?_)
  have hs4 := zq_J_put_468_4 hs3 hh4 hg4 ho4 fr4
  exact q_ret rfl (⟨rfl, rfl, rfl, hs4, fun j hj0 hj1 hj2 => ((fr4 j (by omega)).trans ((fr3 j (by omega)).trans ((fr2 j (by omega)).trans (fr1 j (by omega)))))⟩)
theorem zc_j_clear {d n sl : Nat} {φ : FH} {noted : Nat} {verd : Nat} {ins : Nat → Nat} {ver : Nat → Nat} (hJ : zq_J φ noted verd ins ver)  : x_f x_P (d + 1) 48 [(6, 468, 0)] φ n sl (x_vR n sl (fun φ2 => zq_J φ2 0 1 ins ver ∧ ∀ j, j ≠ 468 → φ2 j = φ j)) := by
  refine x_f_of rfl ?_
  refine q_load (v := (6, 468, 0)) (p2 := 1) rfl rfl rfl rfl ?_
  refine q_const (p2 := 2) rfl rfl ?_
  refine q_putfE (v := (0, 0, 0)) (p2 := 3) rfl hJ.1 (by decide) rfl rfl (fun φ1 f1 hh1 hg1 ho1 fr1 => ?_)
  have hs1 := zq_J_put_468_4 hJ hh1 hg1 ho1 fr1
  refine q_load (v := (6, 468, 0)) (p2 := 4) rfl rfl rfl rfl ?_
  refine q_const (p2 := 5) rfl rfl ?_
  refine q_putfE (v := (0, 1, 0)) (p2 := 6) rfl hs1.1 (by decide) rfl rfl (fun φ2 f2 hh2 hg2 ho2 fr2 => ?_)
  have hs2 := zq_J_put_468_5 hs1 hh2 hg2 ho2 fr2
  exact q_ret rfl (⟨rfl, rfl, rfl, hs2, fun j hj0 => ((fr2 j (by omega)).trans (fr1 j (by omega)))⟩)
theorem e_heldByM {d n sl A B made sv svm st x a : Nat} {φ : FH} {comb : Nat → Nat} {hm : Nat → MV} {m : MV} (hS : x_PS φ A B made sv svm st comb hm) (hx : x < 40) (ha : a < 40) (hk : hm (x * 40 + a) = m) : x_f x_P (d + 1) 118 [(6, 7, 0), (0, x, 0), (0, a, 0)] φ n sl (x_bR n sl 0 0 (fun w φ2 => ∃ v, w = (6, v, 0) ∧ x_mv φ2 v m ∧ φ2 = φ)) := by
  refine x_f_mono (e_heldByP hS.1.choose_spec (x_PS_H hS) hx ha) (fun u w φ2 n2 sl2 q => ?_)
  obtain ⟨q1, q2, q3, q4, q5⟩ := q
  subst q3
  exact ⟨q1, ⟨by omega, by omega⟩, ⟨by omega, by omega⟩, _, q2, hk ▸ x_PS_M hS _ (by omega), rfl⟩
theorem zc_jb0_00 {d n sl : Nat} {φ : FH} {A : Nat} {B : Nat} {made : Nat} {sv : Nat} {svm : Nat} {s9 : Nat} {comb : Nat → Nat} {hm : Nat → MV} {noted : Nat} {verd : Nat} {ins : Nat → Nat} {ver : Nat → Nat} {x : Nat}  (hPS : x_PS φ A B made sv svm s9 comb hm) (hS : x_sch φ) (hJ : zq_J φ noted verd ins ver) (hn0 : 486 ≤ n) (hx : x < 40) (h0 : hm (x * 40 + 0) = MV0) (h1 : hm (x * 40 + 1) = MV0)  : x_f x_P (d + 2) 121 [(6, 468, 0), (0, x, 0), (0, 0, 0), (11, 0, 0), (11, 0, 0), (11, 0, 0)] φ n sl (x_r φ n sl (0, 1, 0)) := by
  refine x_f_of rfl ?_
  refine x_n_lt (fun hlt0 => ?_)
  refine q_const (p2 := 1) rfl rfl ?_
  refine q_store (loc2 := [(6, 468, 0), (0, x, 0), (0, 0, 0), (0, 0, 0), (11, 0, 0), (11, 0, 0)]) (p2 := 2) rfl rfl rfl rfl rfl ?_
  refine q_load (v := (0, 0, 0)) (p2 := 3) rfl rfl rfl rfl ?_
  refine q_load (v := (6, 468, 0)) (p2 := 4) rfl rfl rfl rfl ?_
  refine q_getv (v := (6, 7, 0)) (p2 := 5) rfl hJ.1 (by decide) rfl rfl ?_
  refine q_getv (v := (6, 237, 0)) (p2 := 6) rfl hPS.1.choose_spec.1 (by decide) hPS.1.choose_spec.2.1 rfl ?_
  refine q_getv (v := (6, 246, 0)) (p2 := 7) rfl hS.1.choose_spec.1 (by decide) hS.1.choose_spec.2.2.2.1 rfl ?_
  refine q_const (p2 := 8) rfl rfl ?_
  refine q_aldv (v := (0, 5, 0)) (p2 := 9) rfl (x_sc_246 hS) (by omega) (by omega) rfl rfl ?_
  refine q_icmp_s (p2 := 10) rfl (by decide) (by omega) (by omega) rfl (fun hb => absurd hb (show ¬ (¬ (0 < 5)) by omega)) (fun _ => ?_)
  refine q_load (v := (6, 468, 0)) (p2 := 11) rfl rfl rfl rfl ?_
  refine q_getv (v := (6, 7, 0)) (p2 := 12) rfl hJ.1 (by decide) rfl rfl ?_
  refine q_getv (v := (6, 237, 0)) (p2 := 13) rfl hPS.1.choose_spec.1 (by decide) hPS.1.choose_spec.2.1 rfl ?_
  refine q_getv (v := (6, 271, 0)) (p2 := 14) rfl hS.1.choose_spec.1 (by decide) hS.1.choose_spec.2.2.2.2.2.2.2.2.1 rfl ?_
  refine q_load (v := (0, 0, 0)) (p2 := 15) rfl rfl rfl rfl ?_
  refine q_aldv (v := (6, 272, 0)) (p2 := 16) rfl (x_sc_271 hS) (by omega) (by omega) rfl rfl ?_
  refine q_store (loc2 := [(6, 468, 0), (0, x, 0), (0, 0, 0), (0, 0, 0), (6, 272, 0), (11, 0, 0)]) (p2 := 17) rfl rfl rfl rfl rfl ?_
  refine q_load (v := (6, 272, 0)) (p2 := 18) rfl rfl rfl rfl ?_
  refine q_const (p2 := 19) rfl rfl ?_
  refine q_aldv (v := (0, 0, 0)) (p2 := 20) rfl (x_sc_272 hS) (by omega) (by omega) rfl rfl ?_
  refine q_store (loc2 := [(6, 468, 0), (0, x, 0), (0, 0, 0), (0, 0, 0), (6, 272, 0), (0, 0, 0)]) (p2 := 21) rfl rfl rfl rfl rfl ?_
  refine q_load (v := (6, 272, 0)) (p2 := 22) rfl rfl rfl rfl ?_
  refine q_const (p2 := 23) rfl rfl ?_
  refine q_aldv (v := (0, 0, 0)) (p2 := 24) rfl (x_sc_272 hS) (by omega) (by omega) rfl rfl ?_
  refine q_load (v := (0, 0, 0)) (p2 := 25) rfl rfl rfl rfl ?_
  refine q_icmp_s (p2 := 26) rfl (by decide) (by omega) (by omega) rfl (fun hb => absurd hb (show ¬ (¬ (0 = 0)) by omega)) (fun _ => ?_)
  refine q_load (v := (0, 0, 0)) (p2 := 27) rfl rfl rfl rfl ?_
  refine q_const (p2 := 28) rfl rfl ?_
  refine q_icmp_s (p2 := 29) rfl (by decide) (by omega) (by omega) rfl (fun _ => ?_) (fun hb => absurd (show ¬ (0 = 2) by omega) hb)
  refine q_load (v := (6, 272, 0)) (p2 := 45) rfl rfl rfl rfl ?_
  refine q_const (p2 := 46) rfl rfl ?_
  refine q_aldv (v := (0, 0, 0)) (p2 := 47) rfl (x_sc_272 hS) (by omega) (by omega) rfl rfl ?_
  refine q_load (v := (0, 0, 0)) (p2 := 48) rfl rfl rfl rfl ?_
  refine q_icmp_s (p2 := 49) rfl (by decide) (by omega) (by omega) rfl (fun hb => absurd hb (show ¬ (¬ (0 = 0)) by omega)) (fun _ => ?_)
  refine q_load (v := (0, 0, 0)) (p2 := 50) rfl rfl rfl rfl ?_
  refine q_if0_s (p2 := 51) rfl (by decide) (by omega) rfl (fun hb => absurd hb (show ¬ (¬ (0 = 0)) by omega)) (fun _ => ?_)
  refine q_load (v := (6, 468, 0)) (p2 := 52) rfl rfl rfl rfl ?_
  refine q_load (v := (6, 468, 0)) (p2 := 53) rfl rfl rfl rfl ?_
  refine q_getv (v := (6, 7, 0)) (p2 := 54) rfl hJ.1 (by decide) rfl rfl ?_
  refine q_load (v := (0, x, 0)) (p2 := 55) rfl rfl rfl rfl ?_
  refine q_load (v := (0, 0, 0)) (p2 := 56) rfl rfl rfl rfl ?_
  refine q_callrB (xs := [(0, 0, 0), (0, x, 0), (6, 7, 0)]) (p2 := 57) rfl rfl rfl rfl (x_rcv_s 7 hPS.1.choose_spec.1) rfl (e_heldByM hPS (by omega) (by omega) h0) rfl (fun w1 φ1 n1 sl1 hn1 hN1 hs1 hT1 hR1 => ?_)
  obtain ⟨v1, hwv1, hV1, hphi1⟩ := hR1
  subst hwv1
  have frn1 : ∀ j, φ1 j = φ j := fun j => by rw [hphi1]
  refine x_n_lt (fun hlt2 => ?_)
  have hz3 := x_mv_lt hV1 hlt2
  have hy3 := hV1.1
  refine q_load (v := (6, 272, 0)) (p2 := 58) rfl rfl rfl rfl ?_
  have hm4 := (zq_J_at hJ (frn1 468) (frn1 469) (frn1 470))
  refine q_callK (xs := [(6, 272, 0), (6, v1, 0), (6, 468, 0)]) (p2 := 59) rfl rfl rfl rfl (x_rcv_s 468 hm4.1) rfl rfl ?_
  refine x_f_of rfl ?_
  refine q_load (v := (6, v1, 0)) (p2 := 1) rfl rfl rfl rfl ?_
  obtain ⟨fV5, hW5, hg5⟩ := x_mv_gS hV1 (by decide)
  have hl5 := hlt2 _ _ hW5
  have h6_5 := hV1.1
  refine q_getv (v := (0, 0, 0)) (p2 := 2) rfl hW5 (by decide) hg5.1 rfl ?_
  refine q_if0_s (p2 := 3) rfl (by decide) (by omega) rfl (fun hb => absurd hb (show ¬ (¬ (0 = 0)) by omega)) (fun _ => ?_)
  refine q_load (v := (6, 272, 0)) (p2 := 4) rfl rfl rfl rfl ?_
  refine q_const (p2 := 5) rfl rfl ?_
  have hm6 := (x_sch_at hS (fun j h1 h2 => (frn1 j)))
  refine q_aldv (v := (0, 1, 0)) (p2 := 6) rfl (x_sc_272 hm6) (by omega) (by omega) rfl rfl ?_
  refine q_const (p2 := 7) rfl rfl ?_
  refine q_icmp_s (p2 := 8) rfl (by decide) (by omega) (by omega) rfl (fun hb => absurd hb (show ¬ (¬ (1 = 1)) by omega)) (fun _ => ?_)
  refine q_const (p2 := 9) rfl rfl ?_
  refine q_goto rfl ?_
  refine q_retv (v := (0, 1, 0)) rfl rfl ⟨rfl, by omega, by omega, ?_⟩
  refine q_if0_s (p2 := 60) rfl (by decide) (by omega) rfl (fun _ => ?_) (fun hb => absurd (show ¬ (1 = 0) by omega) hb)
  refine q_iinc (z := 1) (loc2 := [(6, 468, 0), (0, x, 0), (0, 0, 0), (0, 1, 0), (6, 272, 0), (0, 0, 0)]) (p2 := 63) rfl rfl (by decide) rfl rfl ?_
  refine q_goto rfl ?_
  refine q_load (v := (0, 1, 0)) (p2 := 3) rfl rfl rfl rfl ?_
  refine q_load (v := (6, 468, 0)) (p2 := 4) rfl rfl rfl rfl ?_
  refine q_getv (v := (6, 7, 0)) (p2 := 5) rfl hm4.1 (by decide) rfl rfl ?_
  have hm7 := (x_PS_at hPS (fun j hj hne => by have hj2 := x_some_lt hlt0 hne; exact (frn1 j)))
  refine q_getv (v := (6, 237, 0)) (p2 := 6) rfl hm7.1.choose_spec.1 (by decide) hm7.1.choose_spec.2.1 rfl ?_
  refine q_getv (v := (6, 246, 0)) (p2 := 7) rfl hm6.1.choose_spec.1 (by decide) hm6.1.choose_spec.2.2.2.1 rfl ?_
  refine q_const (p2 := 8) rfl rfl ?_
  refine q_aldv (v := (0, 5, 0)) (p2 := 9) rfl (x_sc_246 hm6) (by omega) (by omega) rfl rfl ?_
  refine q_icmp_s (p2 := 10) rfl (by decide) (by omega) (by omega) rfl (fun hb => absurd hb (show ¬ (¬ (1 < 5)) by omega)) (fun _ => ?_)
  refine q_load (v := (6, 468, 0)) (p2 := 11) rfl rfl rfl rfl ?_
  refine q_getv (v := (6, 7, 0)) (p2 := 12) rfl hm4.1 (by decide) rfl rfl ?_
  refine q_getv (v := (6, 237, 0)) (p2 := 13) rfl hm7.1.choose_spec.1 (by decide) hm7.1.choose_spec.2.1 rfl ?_
  refine q_getv (v := (6, 271, 0)) (p2 := 14) rfl hm6.1.choose_spec.1 (by decide) hm6.1.choose_spec.2.2.2.2.2.2.2.2.1 rfl ?_
  refine q_load (v := (0, 1, 0)) (p2 := 15) rfl rfl rfl rfl ?_
  refine q_aldv (v := (6, 273, 0)) (p2 := 16) rfl (x_sc_271 hm6) (by omega) (by omega) rfl rfl ?_
  refine q_store (loc2 := [(6, 468, 0), (0, x, 0), (0, 0, 0), (0, 1, 0), (6, 273, 0), (0, 0, 0)]) (p2 := 17) rfl rfl rfl rfl rfl ?_
  refine q_load (v := (6, 273, 0)) (p2 := 18) rfl rfl rfl rfl ?_
  refine q_const (p2 := 19) rfl rfl ?_
  refine q_aldv (v := (0, 0, 0)) (p2 := 20) rfl (x_sc_273 hm6) (by omega) (by omega) rfl rfl ?_
  refine q_store (loc2 := [(6, 468, 0), (0, x, 0), (0, 0, 0), (0, 1, 0), (6, 273, 0), (0, 0, 0)]) (p2 := 21) rfl rfl rfl rfl rfl ?_
  refine q_load (v := (6, 273, 0)) (p2 := 22) rfl rfl rfl rfl ?_
  refine q_const (p2 := 23) rfl rfl ?_
  refine q_aldv (v := (0, 0, 0)) (p2 := 24) rfl (x_sc_273 hm6) (by omega) (by omega) rfl rfl ?_
  refine q_load (v := (0, 0, 0)) (p2 := 25) rfl rfl rfl rfl ?_
  refine q_icmp_s (p2 := 26) rfl (by decide) (by omega) (by omega) rfl (fun hb => absurd hb (show ¬ (¬ (0 = 0)) by omega)) (fun _ => ?_)
  refine q_load (v := (0, 0, 0)) (p2 := 27) rfl rfl rfl rfl ?_
  refine q_const (p2 := 28) rfl rfl ?_
  refine q_icmp_s (p2 := 29) rfl (by decide) (by omega) (by omega) rfl (fun _ => ?_) (fun hb => absurd (show ¬ (0 = 2) by omega) hb)
  refine q_load (v := (6, 273, 0)) (p2 := 45) rfl rfl rfl rfl ?_
  refine q_const (p2 := 46) rfl rfl ?_
  refine q_aldv (v := (0, 0, 0)) (p2 := 47) rfl (x_sc_273 hm6) (by omega) (by omega) rfl rfl ?_
  refine q_load (v := (0, 0, 0)) (p2 := 48) rfl rfl rfl rfl ?_
  refine q_icmp_s (p2 := 49) rfl (by decide) (by omega) (by omega) rfl (fun hb => absurd hb (show ¬ (¬ (0 = 0)) by omega)) (fun _ => ?_)
  refine q_load (v := (0, 0, 0)) (p2 := 50) rfl rfl rfl rfl ?_
  refine q_if0_s (p2 := 51) rfl (by decide) (by omega) rfl (fun hb => absurd hb (show ¬ (¬ (0 = 0)) by omega)) (fun _ => ?_)
  refine q_load (v := (6, 468, 0)) (p2 := 52) rfl rfl rfl rfl ?_
  refine q_load (v := (6, 468, 0)) (p2 := 53) rfl rfl rfl rfl ?_
  refine q_getv (v := (6, 7, 0)) (p2 := 54) rfl hm4.1 (by decide) rfl rfl ?_
  refine q_load (v := (0, x, 0)) (p2 := 55) rfl rfl rfl rfl ?_
  refine q_load (v := (0, 1, 0)) (p2 := 56) rfl rfl rfl rfl ?_
  refine q_callrB (xs := [(0, 1, 0), (0, x, 0), (6, 7, 0)]) (p2 := 57) rfl rfl rfl rfl (x_rcv_s 7 hm7.1.choose_spec.1) rfl (e_heldByM hm7 (by omega) (by omega) h1) rfl (fun w8 φ8 n8 sl8 hn8 hN8 hs8 hT8 hR8 => ?_)
  obtain ⟨v8, hwv8, hV8, hphi8⟩ := hR8
  subst hwv8
  have frn8 : ∀ j, φ8 j = φ1 j := fun j => by rw [hphi8]
  refine x_n_lt (fun hlt9 => ?_)
  have hz10 := x_mv_lt hV8 hlt9
  have hy10 := hV8.1
  refine q_load (v := (6, 273, 0)) (p2 := 58) rfl rfl rfl rfl ?_
  have hm11 := (zq_J_at hm4 (frn8 468) (frn8 469) (frn8 470))
  refine q_callK (xs := [(6, 273, 0), (6, v8, 0), (6, 468, 0)]) (p2 := 59) rfl rfl rfl rfl (x_rcv_s 468 hm11.1) rfl rfl ?_
  refine x_f_of rfl ?_
  refine q_load (v := (6, v8, 0)) (p2 := 1) rfl rfl rfl rfl ?_
  obtain ⟨fV12, hW12, hg12⟩ := x_mv_gS hV8 (by decide)
  have hl12 := hlt9 _ _ hW12
  have h6_12 := hV8.1
  refine q_getv (v := (0, 0, 0)) (p2 := 2) rfl hW12 (by decide) hg12.1 rfl ?_
  refine q_if0_s (p2 := 3) rfl (by decide) (by omega) rfl (fun hb => absurd hb (show ¬ (¬ (0 = 0)) by omega)) (fun _ => ?_)
  refine q_load (v := (6, 273, 0)) (p2 := 4) rfl rfl rfl rfl ?_
  refine q_const (p2 := 5) rfl rfl ?_
  have hm13 := (x_sch_at hm6 (fun j h1 h2 => (frn8 j)))
  refine q_aldv (v := (0, 1, 0)) (p2 := 6) rfl (x_sc_273 hm13) (by omega) (by omega) rfl rfl ?_
  refine q_const (p2 := 7) rfl rfl ?_
  refine q_icmp_s (p2 := 8) rfl (by decide) (by omega) (by omega) rfl (fun hb => absurd hb (show ¬ (¬ (1 = 1)) by omega)) (fun _ => ?_)
  refine q_const (p2 := 9) rfl rfl ?_
  refine q_goto rfl ?_
  refine q_retv (v := (0, 1, 0)) rfl rfl ⟨rfl, by omega, by omega, ?_⟩
  refine q_if0_s (p2 := 60) rfl (by decide) (by omega) rfl (fun _ => ?_) (fun hb => absurd (show ¬ (1 = 0) by omega) hb)
  refine q_iinc (z := 2) (loc2 := [(6, 468, 0), (0, x, 0), (0, 0, 0), (0, 2, 0), (6, 273, 0), (0, 0, 0)]) (p2 := 63) rfl rfl (by decide) rfl rfl ?_
  refine q_goto rfl ?_
  refine q_load (v := (0, 2, 0)) (p2 := 3) rfl rfl rfl rfl ?_
  refine q_load (v := (6, 468, 0)) (p2 := 4) rfl rfl rfl rfl ?_
  refine q_getv (v := (6, 7, 0)) (p2 := 5) rfl hm11.1 (by decide) rfl rfl ?_
  have hm14 := (x_PS_at hm7 (fun j hj hne => by have hj2 := x_some_lt hlt2 hne; exact (frn8 j)))
  refine q_getv (v := (6, 237, 0)) (p2 := 6) rfl hm14.1.choose_spec.1 (by decide) hm14.1.choose_spec.2.1 rfl ?_
  refine q_getv (v := (6, 246, 0)) (p2 := 7) rfl hm13.1.choose_spec.1 (by decide) hm13.1.choose_spec.2.2.2.1 rfl ?_
  refine q_const (p2 := 8) rfl rfl ?_
  refine q_aldv (v := (0, 5, 0)) (p2 := 9) rfl (x_sc_246 hm13) (by omega) (by omega) rfl rfl ?_
  refine q_icmp_s (p2 := 10) rfl (by decide) (by omega) (by omega) rfl (fun hb => absurd hb (show ¬ (¬ (2 < 5)) by omega)) (fun _ => ?_)
  refine q_load (v := (6, 468, 0)) (p2 := 11) rfl rfl rfl rfl ?_
  refine q_getv (v := (6, 7, 0)) (p2 := 12) rfl hm11.1 (by decide) rfl rfl ?_
  refine q_getv (v := (6, 237, 0)) (p2 := 13) rfl hm14.1.choose_spec.1 (by decide) hm14.1.choose_spec.2.1 rfl ?_
  refine q_getv (v := (6, 271, 0)) (p2 := 14) rfl hm13.1.choose_spec.1 (by decide) hm13.1.choose_spec.2.2.2.2.2.2.2.2.1 rfl ?_
  refine q_load (v := (0, 2, 0)) (p2 := 15) rfl rfl rfl rfl ?_
  refine q_aldv (v := (6, 274, 0)) (p2 := 16) rfl (x_sc_271 hm13) (by omega) (by omega) rfl rfl ?_
  refine q_store (loc2 := [(6, 468, 0), (0, x, 0), (0, 0, 0), (0, 2, 0), (6, 274, 0), (0, 0, 0)]) (p2 := 17) rfl rfl rfl rfl rfl ?_
  refine q_load (v := (6, 274, 0)) (p2 := 18) rfl rfl rfl rfl ?_
  refine q_const (p2 := 19) rfl rfl ?_
  refine q_aldv (v := (0, 1, 0)) (p2 := 20) rfl (x_sc_274 hm13) (by omega) (by omega) rfl rfl ?_
  refine q_store (loc2 := [(6, 468, 0), (0, x, 0), (0, 0, 0), (0, 2, 0), (6, 274, 0), (0, 1, 0)]) (p2 := 21) rfl rfl rfl rfl rfl ?_
  refine q_load (v := (6, 274, 0)) (p2 := 22) rfl rfl rfl rfl ?_
  refine q_const (p2 := 23) rfl rfl ?_
  refine q_aldv (v := (0, 0, 0)) (p2 := 24) rfl (x_sc_274 hm13) (by omega) (by omega) rfl rfl ?_
  refine q_load (v := (0, 0, 0)) (p2 := 25) rfl rfl rfl rfl ?_
  refine q_icmp_s (p2 := 26) rfl (by decide) (by omega) (by omega) rfl (fun hb => absurd hb (show ¬ (¬ (0 = 0)) by omega)) (fun _ => ?_)
  refine q_load (v := (0, 1, 0)) (p2 := 27) rfl rfl rfl rfl ?_
  refine q_const (p2 := 28) rfl rfl ?_
  refine q_icmp_s (p2 := 29) rfl (by decide) (by omega) (by omega) rfl (fun _ => ?_) (fun hb => absurd (show ¬ (1 = 2) by omega) hb)
  refine q_load (v := (6, 274, 0)) (p2 := 45) rfl rfl rfl rfl ?_
  refine q_const (p2 := 46) rfl rfl ?_
  refine q_aldv (v := (0, 0, 0)) (p2 := 47) rfl (x_sc_274 hm13) (by omega) (by omega) rfl rfl ?_
  refine q_load (v := (0, 0, 0)) (p2 := 48) rfl rfl rfl rfl ?_
  refine q_icmp_s (p2 := 49) rfl (by decide) (by omega) (by omega) rfl (fun hb => absurd hb (show ¬ (¬ (0 = 0)) by omega)) (fun _ => ?_)
  refine q_load (v := (0, 1, 0)) (p2 := 50) rfl rfl rfl rfl ?_
  refine q_if0_s (p2 := 51) rfl (by decide) (by omega) rfl (fun _ => ?_) (fun hb => absurd (show ¬ (1 = 0) by omega) hb)
  refine q_iinc (z := 3) (loc2 := [(6, 468, 0), (0, x, 0), (0, 0, 0), (0, 3, 0), (6, 274, 0), (0, 1, 0)]) (p2 := 63) rfl rfl (by decide) rfl rfl ?_
  refine q_goto rfl ?_
  refine q_load (v := (0, 3, 0)) (p2 := 3) rfl rfl rfl rfl ?_
  refine q_load (v := (6, 468, 0)) (p2 := 4) rfl rfl rfl rfl ?_
  refine q_getv (v := (6, 7, 0)) (p2 := 5) rfl hm11.1 (by decide) rfl rfl ?_
  refine q_getv (v := (6, 237, 0)) (p2 := 6) rfl hm14.1.choose_spec.1 (by decide) hm14.1.choose_spec.2.1 rfl ?_
  refine q_getv (v := (6, 246, 0)) (p2 := 7) rfl hm13.1.choose_spec.1 (by decide) hm13.1.choose_spec.2.2.2.1 rfl ?_
  refine q_const (p2 := 8) rfl rfl ?_
  refine q_aldv (v := (0, 5, 0)) (p2 := 9) rfl (x_sc_246 hm13) (by omega) (by omega) rfl rfl ?_
  refine q_icmp_s (p2 := 10) rfl (by decide) (by omega) (by omega) rfl (fun hb => absurd hb (show ¬ (¬ (3 < 5)) by omega)) (fun _ => ?_)
  refine q_load (v := (6, 468, 0)) (p2 := 11) rfl rfl rfl rfl ?_
  refine q_getv (v := (6, 7, 0)) (p2 := 12) rfl hm11.1 (by decide) rfl rfl ?_
  refine q_getv (v := (6, 237, 0)) (p2 := 13) rfl hm14.1.choose_spec.1 (by decide) hm14.1.choose_spec.2.1 rfl ?_
  refine q_getv (v := (6, 271, 0)) (p2 := 14) rfl hm13.1.choose_spec.1 (by decide) hm13.1.choose_spec.2.2.2.2.2.2.2.2.1 rfl ?_
  refine q_load (v := (0, 3, 0)) (p2 := 15) rfl rfl rfl rfl ?_
  refine q_aldv (v := (6, 275, 0)) (p2 := 16) rfl (x_sc_271 hm13) (by omega) (by omega) rfl rfl ?_
  refine q_store (loc2 := [(6, 468, 0), (0, x, 0), (0, 0, 0), (0, 3, 0), (6, 275, 0), (0, 1, 0)]) (p2 := 17) rfl rfl rfl rfl rfl ?_
  refine q_load (v := (6, 275, 0)) (p2 := 18) rfl rfl rfl rfl ?_
  refine q_const (p2 := 19) rfl rfl ?_
  refine q_aldv (v := (0, 0, 0)) (p2 := 20) rfl (x_sc_275 hm13) (by omega) (by omega) rfl rfl ?_
  refine q_store (loc2 := [(6, 468, 0), (0, x, 0), (0, 0, 0), (0, 3, 0), (6, 275, 0), (0, 0, 0)]) (p2 := 21) rfl rfl rfl rfl rfl ?_
  refine q_load (v := (6, 275, 0)) (p2 := 22) rfl rfl rfl rfl ?_
  refine q_const (p2 := 23) rfl rfl ?_
  refine q_aldv (v := (0, 1, 0)) (p2 := 24) rfl (x_sc_275 hm13) (by omega) (by omega) rfl rfl ?_
  refine q_load (v := (0, 0, 0)) (p2 := 25) rfl rfl rfl rfl ?_
  refine q_icmp_s (p2 := 26) rfl (by decide) (by omega) (by omega) rfl (fun _ => ?_) (fun hb => absurd (show ¬ (1 = 0) by omega) hb)
  refine q_load (v := (6, 275, 0)) (p2 := 45) rfl rfl rfl rfl ?_
  refine q_const (p2 := 46) rfl rfl ?_
  refine q_aldv (v := (0, 1, 0)) (p2 := 47) rfl (x_sc_275 hm13) (by omega) (by omega) rfl rfl ?_
  refine q_load (v := (0, 0, 0)) (p2 := 48) rfl rfl rfl rfl ?_
  refine q_icmp_s (p2 := 49) rfl (by decide) (by omega) (by omega) rfl (fun _ => ?_) (fun hb => absurd (show ¬ (1 = 0) by omega) hb)
  refine q_iinc (z := 4) (loc2 := [(6, 468, 0), (0, x, 0), (0, 0, 0), (0, 4, 0), (6, 275, 0), (0, 0, 0)]) (p2 := 63) rfl rfl (by decide) rfl rfl ?_
  refine q_goto rfl ?_
  refine q_load (v := (0, 4, 0)) (p2 := 3) rfl rfl rfl rfl ?_
  refine q_load (v := (6, 468, 0)) (p2 := 4) rfl rfl rfl rfl ?_
  refine q_getv (v := (6, 7, 0)) (p2 := 5) rfl hm11.1 (by decide) rfl rfl ?_
  refine q_getv (v := (6, 237, 0)) (p2 := 6) rfl hm14.1.choose_spec.1 (by decide) hm14.1.choose_spec.2.1 rfl ?_
  refine q_getv (v := (6, 246, 0)) (p2 := 7) rfl hm13.1.choose_spec.1 (by decide) hm13.1.choose_spec.2.2.2.1 rfl ?_
  refine q_const (p2 := 8) rfl rfl ?_
  refine q_aldv (v := (0, 5, 0)) (p2 := 9) rfl (x_sc_246 hm13) (by omega) (by omega) rfl rfl ?_
  refine q_icmp_s (p2 := 10) rfl (by decide) (by omega) (by omega) rfl (fun hb => absurd hb (show ¬ (¬ (4 < 5)) by omega)) (fun _ => ?_)
  refine q_load (v := (6, 468, 0)) (p2 := 11) rfl rfl rfl rfl ?_
  refine q_getv (v := (6, 7, 0)) (p2 := 12) rfl hm11.1 (by decide) rfl rfl ?_
  refine q_getv (v := (6, 237, 0)) (p2 := 13) rfl hm14.1.choose_spec.1 (by decide) hm14.1.choose_spec.2.1 rfl ?_
  refine q_getv (v := (6, 271, 0)) (p2 := 14) rfl hm13.1.choose_spec.1 (by decide) hm13.1.choose_spec.2.2.2.2.2.2.2.2.1 rfl ?_
  refine q_load (v := (0, 4, 0)) (p2 := 15) rfl rfl rfl rfl ?_
  refine q_aldv (v := (6, 276, 0)) (p2 := 16) rfl (x_sc_271 hm13) (by omega) (by omega) rfl rfl ?_
  refine q_store (loc2 := [(6, 468, 0), (0, x, 0), (0, 0, 0), (0, 4, 0), (6, 276, 0), (0, 0, 0)]) (p2 := 17) rfl rfl rfl rfl rfl ?_
  refine q_load (v := (6, 276, 0)) (p2 := 18) rfl rfl rfl rfl ?_
  refine q_const (p2 := 19) rfl rfl ?_
  refine q_aldv (v := (0, 2, 0)) (p2 := 20) rfl (x_sc_276 hm13) (by omega) (by omega) rfl rfl ?_
  refine q_store (loc2 := [(6, 468, 0), (0, x, 0), (0, 0, 0), (0, 4, 0), (6, 276, 0), (0, 2, 0)]) (p2 := 21) rfl rfl rfl rfl rfl ?_
  refine q_load (v := (6, 276, 0)) (p2 := 22) rfl rfl rfl rfl ?_
  refine q_const (p2 := 23) rfl rfl ?_
  refine q_aldv (v := (0, 2, 0)) (p2 := 24) rfl (x_sc_276 hm13) (by omega) (by omega) rfl rfl ?_
  refine q_load (v := (0, 0, 0)) (p2 := 25) rfl rfl rfl rfl ?_
  refine q_icmp_s (p2 := 26) rfl (by decide) (by omega) (by omega) rfl (fun _ => ?_) (fun hb => absurd (show ¬ (2 = 0) by omega) hb)
  refine q_load (v := (6, 276, 0)) (p2 := 45) rfl rfl rfl rfl ?_
  refine q_const (p2 := 46) rfl rfl ?_
  refine q_aldv (v := (0, 2, 0)) (p2 := 47) rfl (x_sc_276 hm13) (by omega) (by omega) rfl rfl ?_
  refine q_load (v := (0, 0, 0)) (p2 := 48) rfl rfl rfl rfl ?_
  refine q_icmp_s (p2 := 49) rfl (by decide) (by omega) (by omega) rfl (fun _ => ?_) (fun hb => absurd (show ¬ (2 = 0) by omega) hb)
  refine q_iinc (z := 5) (loc2 := [(6, 468, 0), (0, x, 0), (0, 0, 0), (0, 5, 0), (6, 276, 0), (0, 2, 0)]) (p2 := 63) rfl rfl (by decide) rfl rfl ?_
  refine q_goto rfl ?_
  refine q_load (v := (0, 5, 0)) (p2 := 3) rfl rfl rfl rfl ?_
  refine q_load (v := (6, 468, 0)) (p2 := 4) rfl rfl rfl rfl ?_
  refine q_getv (v := (6, 7, 0)) (p2 := 5) rfl hm11.1 (by decide) rfl rfl ?_
  refine q_getv (v := (6, 237, 0)) (p2 := 6) rfl hm14.1.choose_spec.1 (by decide) hm14.1.choose_spec.2.1 rfl ?_
  refine q_getv (v := (6, 246, 0)) (p2 := 7) rfl hm13.1.choose_spec.1 (by decide) hm13.1.choose_spec.2.2.2.1 rfl ?_
  refine q_const (p2 := 8) rfl rfl ?_
  refine q_aldv (v := (0, 5, 0)) (p2 := 9) rfl (x_sc_246 hm13) (by omega) (by omega) rfl rfl ?_
  refine q_icmp_s (p2 := 10) rfl (by decide) (by omega) (by omega) rfl (fun _ => ?_) (fun hb => absurd (show ¬ (5 < 5) by omega) hb)
  refine q_const (p2 := 65) rfl rfl ?_
  exact q_retv (v := (0, 1, 0)) rfl rfl (⟨rfl, rfl, funext (fun j => ((frn8 j).trans (frn1 j))), by omega, by omega⟩)
theorem zc_jb0_06 {d n sl : Nat} {φ : FH} {A : Nat} {B : Nat} {made : Nat} {sv : Nat} {svm : Nat} {s9 : Nat} {comb : Nat → Nat} {hm : Nat → MV} {noted : Nat} {verd : Nat} {ins : Nat → Nat} {ver : Nat → Nat} {x : Nat} {L : List Nat} (hPS : x_PS φ A B made sv svm s9 comb hm) (hS : x_sch φ) (hJ : zq_J φ noted verd ins ver) (hn0 : 486 ≤ n) (hx : x < 40) (h0 : hm (x * 40 + 0) = MV0) (h1 : hm (x * 40 + 1) = (6, 0, 3, 5, L)) (hL2 : L.length ≤ 2) : x_f x_P (d + 4) 121 [(6, 468, 0), (0, x, 0), (0, 0, 0), (11, 0, 0), (11, 0, 0), (11, 0, 0)] φ n sl (x_r φ n sl (0, 1, 0)) := by
  refine x_f_of rfl ?_
  refine x_n_lt (fun hlt0 => ?_)
  refine q_const (p2 := 1) rfl rfl ?_
  refine q_store (loc2 := [(6, 468, 0), (0, x, 0), (0, 0, 0), (0, 0, 0), (11, 0, 0), (11, 0, 0)]) (p2 := 2) rfl rfl rfl rfl rfl ?_
  refine q_load (v := (0, 0, 0)) (p2 := 3) rfl rfl rfl rfl ?_
  refine q_load (v := (6, 468, 0)) (p2 := 4) rfl rfl rfl rfl ?_
  refine q_getv (v := (6, 7, 0)) (p2 := 5) rfl hJ.1 (by decide) rfl rfl ?_
  refine q_getv (v := (6, 237, 0)) (p2 := 6) rfl hPS.1.choose_spec.1 (by decide) hPS.1.choose_spec.2.1 rfl ?_
  refine q_getv (v := (6, 246, 0)) (p2 := 7) rfl hS.1.choose_spec.1 (by decide) hS.1.choose_spec.2.2.2.1 rfl ?_
  refine q_const (p2 := 8) rfl rfl ?_
  refine q_aldv (v := (0, 5, 0)) (p2 := 9) rfl (x_sc_246 hS) (by omega) (by omega) rfl rfl ?_
  refine q_icmp_s (p2 := 10) rfl (by decide) (by omega) (by omega) rfl (fun hb => absurd hb (show ¬ (¬ (0 < 5)) by omega)) (fun _ => ?_)
  refine q_load (v := (6, 468, 0)) (p2 := 11) rfl rfl rfl rfl ?_
  refine q_getv (v := (6, 7, 0)) (p2 := 12) rfl hJ.1 (by decide) rfl rfl ?_
  refine q_getv (v := (6, 237, 0)) (p2 := 13) rfl hPS.1.choose_spec.1 (by decide) hPS.1.choose_spec.2.1 rfl ?_
  refine q_getv (v := (6, 271, 0)) (p2 := 14) rfl hS.1.choose_spec.1 (by decide) hS.1.choose_spec.2.2.2.2.2.2.2.2.1 rfl ?_
  refine q_load (v := (0, 0, 0)) (p2 := 15) rfl rfl rfl rfl ?_
  refine q_aldv (v := (6, 272, 0)) (p2 := 16) rfl (x_sc_271 hS) (by omega) (by omega) rfl rfl ?_
  refine q_store (loc2 := [(6, 468, 0), (0, x, 0), (0, 0, 0), (0, 0, 0), (6, 272, 0), (11, 0, 0)]) (p2 := 17) rfl rfl rfl rfl rfl ?_
  refine q_load (v := (6, 272, 0)) (p2 := 18) rfl rfl rfl rfl ?_
  refine q_const (p2 := 19) rfl rfl ?_
  refine q_aldv (v := (0, 0, 0)) (p2 := 20) rfl (x_sc_272 hS) (by omega) (by omega) rfl rfl ?_
  refine q_store (loc2 := [(6, 468, 0), (0, x, 0), (0, 0, 0), (0, 0, 0), (6, 272, 0), (0, 0, 0)]) (p2 := 21) rfl rfl rfl rfl rfl ?_
  refine q_load (v := (6, 272, 0)) (p2 := 22) rfl rfl rfl rfl ?_
  refine q_const (p2 := 23) rfl rfl ?_
  refine q_aldv (v := (0, 0, 0)) (p2 := 24) rfl (x_sc_272 hS) (by omega) (by omega) rfl rfl ?_
  refine q_load (v := (0, 0, 0)) (p2 := 25) rfl rfl rfl rfl ?_
  refine q_icmp_s (p2 := 26) rfl (by decide) (by omega) (by omega) rfl (fun hb => absurd hb (show ¬ (¬ (0 = 0)) by omega)) (fun _ => ?_)
  refine q_load (v := (0, 0, 0)) (p2 := 27) rfl rfl rfl rfl ?_
  refine q_const (p2 := 28) rfl rfl ?_
  refine q_icmp_s (p2 := 29) rfl (by decide) (by omega) (by omega) rfl (fun _ => ?_) (fun hb => absurd (show ¬ (0 = 2) by omega) hb)
  refine q_load (v := (6, 272, 0)) (p2 := 45) rfl rfl rfl rfl ?_
  refine q_const (p2 := 46) rfl rfl ?_
  refine q_aldv (v := (0, 0, 0)) (p2 := 47) rfl (x_sc_272 hS) (by omega) (by omega) rfl rfl ?_
  refine q_load (v := (0, 0, 0)) (p2 := 48) rfl rfl rfl rfl ?_
  refine q_icmp_s (p2 := 49) rfl (by decide) (by omega) (by omega) rfl (fun hb => absurd hb (show ¬ (¬ (0 = 0)) by omega)) (fun _ => ?_)
  refine q_load (v := (0, 0, 0)) (p2 := 50) rfl rfl rfl rfl ?_
  refine q_if0_s (p2 := 51) rfl (by decide) (by omega) rfl (fun hb => absurd hb (show ¬ (¬ (0 = 0)) by omega)) (fun _ => ?_)
  refine q_load (v := (6, 468, 0)) (p2 := 52) rfl rfl rfl rfl ?_
  refine q_load (v := (6, 468, 0)) (p2 := 53) rfl rfl rfl rfl ?_
  refine q_getv (v := (6, 7, 0)) (p2 := 54) rfl hJ.1 (by decide) rfl rfl ?_
  refine q_load (v := (0, x, 0)) (p2 := 55) rfl rfl rfl rfl ?_
  refine q_load (v := (0, 0, 0)) (p2 := 56) rfl rfl rfl rfl ?_
  refine q_callrB (xs := [(0, 0, 0), (0, x, 0), (6, 7, 0)]) (p2 := 57) rfl rfl rfl rfl (x_rcv_s 7 hPS.1.choose_spec.1) rfl (e_heldByM hPS (by omega) (by omega) h0) rfl (fun w1 φ1 n1 sl1 hn1 hN1 hs1 hT1 hR1 => ?_)
  obtain ⟨v1, hwv1, hV1, hphi1⟩ := hR1
  subst hwv1
  have frn1 : ∀ j, φ1 j = φ j := fun j => by rw [hphi1]
  refine x_n_lt (fun hlt2 => ?_)
  have hz3 := x_mv_lt hV1 hlt2
  have hy3 := hV1.1
  refine q_load (v := (6, 272, 0)) (p2 := 58) rfl rfl rfl rfl ?_
  have hm4 := (zq_J_at hJ (frn1 468) (frn1 469) (frn1 470))
  refine q_callK (xs := [(6, 272, 0), (6, v1, 0), (6, 468, 0)]) (p2 := 59) rfl rfl rfl rfl (x_rcv_s 468 hm4.1) rfl rfl ?_
  refine x_f_of rfl ?_
  refine q_load (v := (6, v1, 0)) (p2 := 1) rfl rfl rfl rfl ?_
  obtain ⟨fV5, hW5, hg5⟩ := x_mv_gS hV1 (by decide)
  have hl5 := hlt2 _ _ hW5
  have h6_5 := hV1.1
  refine q_getv (v := (0, 0, 0)) (p2 := 2) rfl hW5 (by decide) hg5.1 rfl ?_
  refine q_if0_s (p2 := 3) rfl (by decide) (by omega) rfl (fun hb => absurd hb (show ¬ (¬ (0 = 0)) by omega)) (fun _ => ?_)
  refine q_load (v := (6, 272, 0)) (p2 := 4) rfl rfl rfl rfl ?_
  refine q_const (p2 := 5) rfl rfl ?_
  have hm6 := (x_sch_at hS (fun j h1 h2 => (frn1 j)))
  refine q_aldv (v := (0, 1, 0)) (p2 := 6) rfl (x_sc_272 hm6) (by omega) (by omega) rfl rfl ?_
  refine q_const (p2 := 7) rfl rfl ?_
  refine q_icmp_s (p2 := 8) rfl (by decide) (by omega) (by omega) rfl (fun hb => absurd hb (show ¬ (¬ (1 = 1)) by omega)) (fun _ => ?_)
  refine q_const (p2 := 9) rfl rfl ?_
  refine q_goto rfl ?_
  refine q_retv (v := (0, 1, 0)) rfl rfl ⟨rfl, by omega, by omega, ?_⟩
  refine q_if0_s (p2 := 60) rfl (by decide) (by omega) rfl (fun _ => ?_) (fun hb => absurd (show ¬ (1 = 0) by omega) hb)
  refine q_iinc (z := 1) (loc2 := [(6, 468, 0), (0, x, 0), (0, 0, 0), (0, 1, 0), (6, 272, 0), (0, 0, 0)]) (p2 := 63) rfl rfl (by decide) rfl rfl ?_
  refine q_goto rfl ?_
  refine q_load (v := (0, 1, 0)) (p2 := 3) rfl rfl rfl rfl ?_
  refine q_load (v := (6, 468, 0)) (p2 := 4) rfl rfl rfl rfl ?_
  refine q_getv (v := (6, 7, 0)) (p2 := 5) rfl hm4.1 (by decide) rfl rfl ?_
  have hm7 := (x_PS_at hPS (fun j hj hne => by have hj2 := x_some_lt hlt0 hne; exact (frn1 j)))
  refine q_getv (v := (6, 237, 0)) (p2 := 6) rfl hm7.1.choose_spec.1 (by decide) hm7.1.choose_spec.2.1 rfl ?_
  refine q_getv (v := (6, 246, 0)) (p2 := 7) rfl hm6.1.choose_spec.1 (by decide) hm6.1.choose_spec.2.2.2.1 rfl ?_
  refine q_const (p2 := 8) rfl rfl ?_
  refine q_aldv (v := (0, 5, 0)) (p2 := 9) rfl (x_sc_246 hm6) (by omega) (by omega) rfl rfl ?_
  refine q_icmp_s (p2 := 10) rfl (by decide) (by omega) (by omega) rfl (fun hb => absurd hb (show ¬ (¬ (1 < 5)) by omega)) (fun _ => ?_)
  refine q_load (v := (6, 468, 0)) (p2 := 11) rfl rfl rfl rfl ?_
  refine q_getv (v := (6, 7, 0)) (p2 := 12) rfl hm4.1 (by decide) rfl rfl ?_
  refine q_getv (v := (6, 237, 0)) (p2 := 13) rfl hm7.1.choose_spec.1 (by decide) hm7.1.choose_spec.2.1 rfl ?_
  refine q_getv (v := (6, 271, 0)) (p2 := 14) rfl hm6.1.choose_spec.1 (by decide) hm6.1.choose_spec.2.2.2.2.2.2.2.2.1 rfl ?_
  refine q_load (v := (0, 1, 0)) (p2 := 15) rfl rfl rfl rfl ?_
  refine q_aldv (v := (6, 273, 0)) (p2 := 16) rfl (x_sc_271 hm6) (by omega) (by omega) rfl rfl ?_
  refine q_store (loc2 := [(6, 468, 0), (0, x, 0), (0, 0, 0), (0, 1, 0), (6, 273, 0), (0, 0, 0)]) (p2 := 17) rfl rfl rfl rfl rfl ?_
  refine q_load (v := (6, 273, 0)) (p2 := 18) rfl rfl rfl rfl ?_
  refine q_const (p2 := 19) rfl rfl ?_
  refine q_aldv (v := (0, 0, 0)) (p2 := 20) rfl (x_sc_273 hm6) (by omega) (by omega) rfl rfl ?_
  refine q_store (loc2 := [(6, 468, 0), (0, x, 0), (0, 0, 0), (0, 1, 0), (6, 273, 0), (0, 0, 0)]) (p2 := 21) rfl rfl rfl rfl rfl ?_
  refine q_load (v := (6, 273, 0)) (p2 := 22) rfl rfl rfl rfl ?_
  refine q_const (p2 := 23) rfl rfl ?_
  refine q_aldv (v := (0, 0, 0)) (p2 := 24) rfl (x_sc_273 hm6) (by omega) (by omega) rfl rfl ?_
  refine q_load (v := (0, 0, 0)) (p2 := 25) rfl rfl rfl rfl ?_
  refine q_icmp_s (p2 := 26) rfl (by decide) (by omega) (by omega) rfl (fun hb => absurd hb (show ¬ (¬ (0 = 0)) by omega)) (fun _ => ?_)
  refine q_load (v := (0, 0, 0)) (p2 := 27) rfl rfl rfl rfl ?_
  refine q_const (p2 := 28) rfl rfl ?_
  refine q_icmp_s (p2 := 29) rfl (by decide) (by omega) (by omega) rfl (fun _ => ?_) (fun hb => absurd (show ¬ (0 = 2) by omega) hb)
  refine q_load (v := (6, 273, 0)) (p2 := 45) rfl rfl rfl rfl ?_
  refine q_const (p2 := 46) rfl rfl ?_
  refine q_aldv (v := (0, 0, 0)) (p2 := 47) rfl (x_sc_273 hm6) (by omega) (by omega) rfl rfl ?_
  refine q_load (v := (0, 0, 0)) (p2 := 48) rfl rfl rfl rfl ?_
  refine q_icmp_s (p2 := 49) rfl (by decide) (by omega) (by omega) rfl (fun hb => absurd hb (show ¬ (¬ (0 = 0)) by omega)) (fun _ => ?_)
  refine q_load (v := (0, 0, 0)) (p2 := 50) rfl rfl rfl rfl ?_
  refine q_if0_s (p2 := 51) rfl (by decide) (by omega) rfl (fun hb => absurd hb (show ¬ (¬ (0 = 0)) by omega)) (fun _ => ?_)
  refine q_load (v := (6, 468, 0)) (p2 := 52) rfl rfl rfl rfl ?_
  refine q_load (v := (6, 468, 0)) (p2 := 53) rfl rfl rfl rfl ?_
  refine q_getv (v := (6, 7, 0)) (p2 := 54) rfl hm4.1 (by decide) rfl rfl ?_
  refine q_load (v := (0, x, 0)) (p2 := 55) rfl rfl rfl rfl ?_
  refine q_load (v := (0, 1, 0)) (p2 := 56) rfl rfl rfl rfl ?_
  refine q_callrB (xs := [(0, 1, 0), (0, x, 0), (6, 7, 0)]) (p2 := 57) rfl rfl rfl rfl (x_rcv_s 7 hm7.1.choose_spec.1) rfl (e_heldByM hm7 (by omega) (by omega) h1) rfl (fun w8 φ8 n8 sl8 hn8 hN8 hs8 hT8 hR8 => ?_)
  obtain ⟨v8, hwv8, hV8, hphi8⟩ := hR8
  subst hwv8
  have frn8 : ∀ j, φ8 j = φ1 j := fun j => by rw [hphi8]
  refine x_n_lt (fun hlt9 => ?_)
  have hz10 := x_mv_lt hV8 hlt9
  have hy10 := hV8.1
  refine q_load (v := (6, 273, 0)) (p2 := 58) rfl rfl rfl rfl ?_
  have hm11 := (zq_J_at hm4 (frn8 468) (frn8 469) (frn8 470))
  refine q_callK (xs := [(6, 273, 0), (6, v8, 0), (6, 468, 0)]) (p2 := 59) rfl rfl rfl rfl (x_rcv_s 468 hm11.1) rfl rfl ?_
  refine x_f_of rfl ?_
  refine q_load (v := (6, v8, 0)) (p2 := 1) rfl rfl rfl rfl ?_
  obtain ⟨fA12, cA12, gA12, h8_12, hW12, hg12, hcA12, hgA12, hlA12, hLA12⟩ := x_mv_gA hV8
  have hl12 := hlt9 _ _ hW12
  have h6_12 := hV8.1
  have hlB12 : L.length ≤ 24 := hlA12
  refine q_getv (v := (0, 6, 0)) (p2 := 2) rfl hW12 (by decide) hg12.1 rfl ?_
  refine q_if0_s (p2 := 3) rfl (by decide) (by omega) rfl (fun _ => ?_) (fun hb => absurd (show ¬ (6 = 0) by omega) hb)
  refine q_load (v := (6, v8, 0)) (p2 := 13) rfl rfl rfl rfl ?_
  refine q_getv (v := (0, 6, 0)) (p2 := 14) rfl hW12 (by decide) hg12.1 rfl ?_
  refine q_const (p2 := 15) rfl rfl ?_
  refine q_icmp_s (p2 := 16) rfl (by decide) (by omega) (by omega) rfl (fun hb => absurd hb (show ¬ (¬ (6 = 6)) by omega)) (fun _ => ?_)
  refine q_load (v := (6, v8, 0)) (p2 := 17) rfl rfl rfl rfl ?_
  refine q_getv (v := (0, 3, 0)) (p2 := 18) rfl hW12 (by decide) hg12.2.2.1 rfl ?_
  refine q_if0_s (p2 := 19) rfl (by decide) (by omega) rfl (fun hb => absurd hb (show ¬ (3 = 0) by omega)) (fun _ => ?_)
  refine q_load (v := (6, 468, 0)) (p2 := 20) rfl rfl rfl rfl ?_
  refine q_load (v := (6, v8, 0)) (p2 := 21) rfl rfl rfl rfl ?_
  refine q_getv (v := (6, cA12, 0)) (p2 := 22) rfl hW12 (by decide) hg12.2.2.2.2.2.2 rfl ?_
  refine q_alen (p2 := 23) rfl hcA12 rfl (by omega) rfl ?_
  refine q_load (v := (6, 273, 0)) (p2 := 24) rfl rfl rfl rfl ?_
  refine q_const (p2 := 25) rfl rfl ?_
  have hm13 := (x_sch_at hm6 (fun j h1 h2 => (frn8 j)))
  refine q_aldv (v := (0, 1, 0)) (p2 := 26) rfl (x_sc_273 hm13) (by omega) (by omega) rfl rfl ?_
  refine q_callK (xs := [(0, 1, 0), (0, L.length, 0), (6, 468, 0)]) (p2 := 27) rfl rfl rfl rfl (x_rcv_s 468 hm11.1) rfl rfl ?_
  refine x_f_of rfl ?_
  refine q_load (v := (6, 468, 0)) (p2 := 1) rfl rfl rfl rfl ?_
  refine q_getv (v := (6, 7, 0)) (p2 := 2) rfl hm11.1 (by decide) rfl rfl ?_
  have hm14 := (x_PS_at hm7 (fun j hj hne => by have hj2 := x_some_lt hlt2 hne; exact (frn8 j)))
  refine q_getv (v := (6, 237, 0)) (p2 := 3) rfl hm14.1.choose_spec.1 (by decide) hm14.1.choose_spec.2.1 rfl ?_
  refine q_load (v := (0, 1, 0)) (p2 := 4) rfl rfl rfl rfl ?_
  refine q_const (p2 := 5) rfl rfl ?_
  refine q_callK (xs := [(0, 6, 0), (0, 1, 0), (6, 237, 0)]) (p2 := 6) rfl rfl rfl rfl (x_rcv_s 237 hm13.1.choose_spec.1) rfl rfl ?_
  refine x_f_of rfl ?_
  refine q_load (v := (0, 1, 0)) (p2 := 1) rfl rfl rfl rfl ?_
  refine q_if0_s (p2 := 2) rfl (by decide) (by omega) rfl (fun hb => absurd hb (show ¬ (1 < 0) by omega)) (fun _ => ?_)
  refine q_load (v := (0, 1, 0)) (p2 := 3) rfl rfl rfl rfl ?_
  refine q_load (v := (6, 237, 0)) (p2 := 4) rfl rfl rfl rfl ?_
  refine q_getv (v := (6, 312, 0)) (p2 := 5) rfl hm13.1.choose_spec.1 (by decide) hm13.1.choose_spec.2.2.2.2.2.2.2.2.2.1 rfl ?_
  refine q_alen (p2 := 6) rfl (x_sc_312 hm13) rfl (by omega) rfl ?_
  refine q_icmp_s (p2 := 7) rfl (by decide) (by omega) (by omega) rfl (fun hb => absurd hb (show ¬ (¬ (1 < 128)) by omega)) (fun _ => ?_)
  refine q_load (v := (0, 6, 0)) (p2 := 8) rfl rfl rfl rfl ?_
  refine q_if0_s (p2 := 9) rfl (by decide) (by omega) rfl (fun hb => absurd hb (show ¬ (6 < 0) by omega)) (fun _ => ?_)
  refine q_load (v := (0, 6, 0)) (p2 := 10) rfl rfl rfl rfl ?_
  refine q_const (p2 := 11) rfl rfl ?_
  refine q_icmp_s (p2 := 12) rfl (by decide) (by omega) (by omega) rfl (fun _ => ?_) (fun hb => absurd (show 6 < 9 by omega) hb)
  refine q_load (v := (6, 237, 0)) (p2 := 15) rfl rfl rfl rfl ?_
  refine q_getv (v := (6, 312, 0)) (p2 := 16) rfl hm13.1.choose_spec.1 (by decide) hm13.1.choose_spec.2.2.2.2.2.2.2.2.2.1 rfl ?_
  refine q_load (v := (0, 1, 0)) (p2 := 17) rfl rfl rfl rfl ?_
  refine q_aldv (v := (6, 314, 0)) (p2 := 18) rfl (x_sc_312 hm13) (by omega) (by omega) rfl rfl ?_
  refine q_load (v := (0, 6, 0)) (p2 := 19) rfl rfl rfl rfl ?_
  refine q_aldv (v := (0, 5, 0)) (p2 := 20) rfl (x_sc_314 hm13) (by omega) (by omega) rfl rfl ?_
  refine q_retv (v := (0, 5, 0)) rfl rfl ⟨rfl, by omega, by omega, ?_⟩
  refine q_store (loc2 := [(6, 468, 0), (0, L.length, 0), (0, 1, 0), (0, 5, 0)]) (p2 := 7) rfl rfl rfl rfl rfl ?_
  refine q_load (v := (0, L.length, 0)) (p2 := 8) rfl rfl rfl rfl ?_
  refine q_load (v := (6, 468, 0)) (p2 := 9) rfl rfl rfl rfl ?_
  refine q_getv (v := (6, 7, 0)) (p2 := 10) rfl hm11.1 (by decide) rfl rfl ?_
  refine q_getv (v := (6, 237, 0)) (p2 := 11) rfl hm14.1.choose_spec.1 (by decide) hm14.1.choose_spec.2.1 rfl ?_
  refine q_load (v := (0, 1, 0)) (p2 := 12) rfl rfl rfl rfl ?_
  refine q_const (p2 := 13) rfl rfl ?_
  refine q_callK (xs := [(0, 5, 0), (0, 1, 0), (6, 237, 0)]) (p2 := 14) rfl rfl rfl rfl (x_rcv_s 237 hm13.1.choose_spec.1) rfl rfl ?_
  refine x_f_of rfl ?_
  refine q_load (v := (0, 1, 0)) (p2 := 1) rfl rfl rfl rfl ?_
  refine q_if0_s (p2 := 2) rfl (by decide) (by omega) rfl (fun hb => absurd hb (show ¬ (1 < 0) by omega)) (fun _ => ?_)
  refine q_load (v := (0, 1, 0)) (p2 := 3) rfl rfl rfl rfl ?_
  refine q_load (v := (6, 237, 0)) (p2 := 4) rfl rfl rfl rfl ?_
  refine q_getv (v := (6, 312, 0)) (p2 := 5) rfl hm13.1.choose_spec.1 (by decide) hm13.1.choose_spec.2.2.2.2.2.2.2.2.2.1 rfl ?_
  refine q_alen (p2 := 6) rfl (x_sc_312 hm13) rfl (by omega) rfl ?_
  refine q_icmp_s (p2 := 7) rfl (by decide) (by omega) (by omega) rfl (fun hb => absurd hb (show ¬ (¬ (1 < 128)) by omega)) (fun _ => ?_)
  refine q_load (v := (0, 5, 0)) (p2 := 8) rfl rfl rfl rfl ?_
  refine q_if0_s (p2 := 9) rfl (by decide) (by omega) rfl (fun hb => absurd hb (show ¬ (5 < 0) by omega)) (fun _ => ?_)
  refine q_load (v := (0, 5, 0)) (p2 := 10) rfl rfl rfl rfl ?_
  refine q_const (p2 := 11) rfl rfl ?_
  refine q_icmp_s (p2 := 12) rfl (by decide) (by omega) (by omega) rfl (fun _ => ?_) (fun hb => absurd (show 5 < 9 by omega) hb)
  refine q_load (v := (6, 237, 0)) (p2 := 15) rfl rfl rfl rfl ?_
  refine q_getv (v := (6, 312, 0)) (p2 := 16) rfl hm13.1.choose_spec.1 (by decide) hm13.1.choose_spec.2.2.2.2.2.2.2.2.2.1 rfl ?_
  refine q_load (v := (0, 1, 0)) (p2 := 17) rfl rfl rfl rfl ?_
  refine q_aldv (v := (6, 314, 0)) (p2 := 18) rfl (x_sc_312 hm13) (by omega) (by omega) rfl rfl ?_
  refine q_load (v := (0, 5, 0)) (p2 := 19) rfl rfl rfl rfl ?_
  refine q_aldv (v := (0, 0, 0)) (p2 := 20) rfl (x_sc_314 hm13) (by omega) (by omega) rfl rfl ?_
  refine q_retv (v := (0, 0, 0)) rfl rfl ⟨rfl, by omega, by omega, ?_⟩
  refine q_icmp_s (p2 := 15) rfl (by decide) (by omega) (by omega) rfl (fun hb => absurd hb (show ¬ (L.length < 0) by omega)) (fun _ => ?_)
  refine q_load (v := (0, 5, 0)) (p2 := 16) rfl rfl rfl rfl ?_
  refine q_if0_s (p2 := 17) rfl (by decide) (by omega) rfl (fun hb => absurd hb (show ¬ (5 < 0) by omega)) (fun _ => ?_)
  refine q_load (v := (0, L.length, 0)) (p2 := 18) rfl rfl rfl rfl ?_
  refine q_load (v := (0, 5, 0)) (p2 := 19) rfl rfl rfl rfl ?_
  refine q_icmp_s (p2 := 20) rfl (by decide) (by omega) (by omega) rfl (fun hb => absurd hb (show ¬ (5 < L.length) by omega)) (fun _ => ?_)
  refine q_const (p2 := 21) rfl rfl ?_
  refine q_goto rfl ?_
  refine q_retv (v := (0, 1, 0)) rfl rfl ⟨rfl, by omega, by omega, ?_⟩
  refine q_if0_s (p2 := 28) rfl (by decide) (by omega) rfl (fun hb => absurd hb (show ¬ (1 = 0) by omega)) (fun _ => ?_)
  refine q_const (p2 := 29) rfl rfl ?_
  refine q_goto rfl ?_
  refine q_retv (v := (0, 1, 0)) rfl rfl ⟨rfl, by omega, by omega, ?_⟩
  refine q_if0_s (p2 := 60) rfl (by decide) (by omega) rfl (fun _ => ?_) (fun hb => absurd (show ¬ (1 = 0) by omega) hb)
  refine q_iinc (z := 2) (loc2 := [(6, 468, 0), (0, x, 0), (0, 0, 0), (0, 2, 0), (6, 273, 0), (0, 0, 0)]) (p2 := 63) rfl rfl (by decide) rfl rfl ?_
  refine q_goto rfl ?_
  refine q_load (v := (0, 2, 0)) (p2 := 3) rfl rfl rfl rfl ?_
  refine q_load (v := (6, 468, 0)) (p2 := 4) rfl rfl rfl rfl ?_
  refine q_getv (v := (6, 7, 0)) (p2 := 5) rfl hm11.1 (by decide) rfl rfl ?_
  refine q_getv (v := (6, 237, 0)) (p2 := 6) rfl hm14.1.choose_spec.1 (by decide) hm14.1.choose_spec.2.1 rfl ?_
  refine q_getv (v := (6, 246, 0)) (p2 := 7) rfl hm13.1.choose_spec.1 (by decide) hm13.1.choose_spec.2.2.2.1 rfl ?_
  refine q_const (p2 := 8) rfl rfl ?_
  refine q_aldv (v := (0, 5, 0)) (p2 := 9) rfl (x_sc_246 hm13) (by omega) (by omega) rfl rfl ?_
  refine q_icmp_s (p2 := 10) rfl (by decide) (by omega) (by omega) rfl (fun hb => absurd hb (show ¬ (¬ (2 < 5)) by omega)) (fun _ => ?_)
  refine q_load (v := (6, 468, 0)) (p2 := 11) rfl rfl rfl rfl ?_
  refine q_getv (v := (6, 7, 0)) (p2 := 12) rfl hm11.1 (by decide) rfl rfl ?_
  refine q_getv (v := (6, 237, 0)) (p2 := 13) rfl hm14.1.choose_spec.1 (by decide) hm14.1.choose_spec.2.1 rfl ?_
  refine q_getv (v := (6, 271, 0)) (p2 := 14) rfl hm13.1.choose_spec.1 (by decide) hm13.1.choose_spec.2.2.2.2.2.2.2.2.1 rfl ?_
  refine q_load (v := (0, 2, 0)) (p2 := 15) rfl rfl rfl rfl ?_
  refine q_aldv (v := (6, 274, 0)) (p2 := 16) rfl (x_sc_271 hm13) (by omega) (by omega) rfl rfl ?_
  refine q_store (loc2 := [(6, 468, 0), (0, x, 0), (0, 0, 0), (0, 2, 0), (6, 274, 0), (0, 0, 0)]) (p2 := 17) rfl rfl rfl rfl rfl ?_
  refine q_load (v := (6, 274, 0)) (p2 := 18) rfl rfl rfl rfl ?_
  refine q_const (p2 := 19) rfl rfl ?_
  refine q_aldv (v := (0, 1, 0)) (p2 := 20) rfl (x_sc_274 hm13) (by omega) (by omega) rfl rfl ?_
  refine q_store (loc2 := [(6, 468, 0), (0, x, 0), (0, 0, 0), (0, 2, 0), (6, 274, 0), (0, 1, 0)]) (p2 := 21) rfl rfl rfl rfl rfl ?_
  refine q_load (v := (6, 274, 0)) (p2 := 22) rfl rfl rfl rfl ?_
  refine q_const (p2 := 23) rfl rfl ?_
  refine q_aldv (v := (0, 0, 0)) (p2 := 24) rfl (x_sc_274 hm13) (by omega) (by omega) rfl rfl ?_
  refine q_load (v := (0, 0, 0)) (p2 := 25) rfl rfl rfl rfl ?_
  refine q_icmp_s (p2 := 26) rfl (by decide) (by omega) (by omega) rfl (fun hb => absurd hb (show ¬ (¬ (0 = 0)) by omega)) (fun _ => ?_)
  refine q_load (v := (0, 1, 0)) (p2 := 27) rfl rfl rfl rfl ?_
  refine q_const (p2 := 28) rfl rfl ?_
  refine q_icmp_s (p2 := 29) rfl (by decide) (by omega) (by omega) rfl (fun _ => ?_) (fun hb => absurd (show ¬ (1 = 2) by omega) hb)
  refine q_load (v := (6, 274, 0)) (p2 := 45) rfl rfl rfl rfl ?_
  refine q_const (p2 := 46) rfl rfl ?_
  refine q_aldv (v := (0, 0, 0)) (p2 := 47) rfl (x_sc_274 hm13) (by omega) (by omega) rfl rfl ?_
  refine q_load (v := (0, 0, 0)) (p2 := 48) rfl rfl rfl rfl ?_
  refine q_icmp_s (p2 := 49) rfl (by decide) (by omega) (by omega) rfl (fun hb => absurd hb (show ¬ (¬ (0 = 0)) by omega)) (fun _ => ?_)
  refine q_load (v := (0, 1, 0)) (p2 := 50) rfl rfl rfl rfl ?_
  refine q_if0_s (p2 := 51) rfl (by decide) (by omega) rfl (fun _ => ?_) (fun hb => absurd (show ¬ (1 = 0) by omega) hb)
  refine q_iinc (z := 3) (loc2 := [(6, 468, 0), (0, x, 0), (0, 0, 0), (0, 3, 0), (6, 274, 0), (0, 1, 0)]) (p2 := 63) rfl rfl (by decide) rfl rfl ?_
  refine q_goto rfl ?_
  refine q_load (v := (0, 3, 0)) (p2 := 3) rfl rfl rfl rfl ?_
  refine q_load (v := (6, 468, 0)) (p2 := 4) rfl rfl rfl rfl ?_
  refine q_getv (v := (6, 7, 0)) (p2 := 5) rfl hm11.1 (by decide) rfl rfl ?_
  refine q_getv (v := (6, 237, 0)) (p2 := 6) rfl hm14.1.choose_spec.1 (by decide) hm14.1.choose_spec.2.1 rfl ?_
  refine q_getv (v := (6, 246, 0)) (p2 := 7) rfl hm13.1.choose_spec.1 (by decide) hm13.1.choose_spec.2.2.2.1 rfl ?_
  refine q_const (p2 := 8) rfl rfl ?_
  refine q_aldv (v := (0, 5, 0)) (p2 := 9) rfl (x_sc_246 hm13) (by omega) (by omega) rfl rfl ?_
  refine q_icmp_s (p2 := 10) rfl (by decide) (by omega) (by omega) rfl (fun hb => absurd hb (show ¬ (¬ (3 < 5)) by omega)) (fun _ => ?_)
  refine q_load (v := (6, 468, 0)) (p2 := 11) rfl rfl rfl rfl ?_
  refine q_getv (v := (6, 7, 0)) (p2 := 12) rfl hm11.1 (by decide) rfl rfl ?_
  refine q_getv (v := (6, 237, 0)) (p2 := 13) rfl hm14.1.choose_spec.1 (by decide) hm14.1.choose_spec.2.1 rfl ?_
  refine q_getv (v := (6, 271, 0)) (p2 := 14) rfl hm13.1.choose_spec.1 (by decide) hm13.1.choose_spec.2.2.2.2.2.2.2.2.1 rfl ?_
  refine q_load (v := (0, 3, 0)) (p2 := 15) rfl rfl rfl rfl ?_
  refine q_aldv (v := (6, 275, 0)) (p2 := 16) rfl (x_sc_271 hm13) (by omega) (by omega) rfl rfl ?_
  refine q_store (loc2 := [(6, 468, 0), (0, x, 0), (0, 0, 0), (0, 3, 0), (6, 275, 0), (0, 1, 0)]) (p2 := 17) rfl rfl rfl rfl rfl ?_
  refine q_load (v := (6, 275, 0)) (p2 := 18) rfl rfl rfl rfl ?_
  refine q_const (p2 := 19) rfl rfl ?_
  refine q_aldv (v := (0, 0, 0)) (p2 := 20) rfl (x_sc_275 hm13) (by omega) (by omega) rfl rfl ?_
  refine q_store (loc2 := [(6, 468, 0), (0, x, 0), (0, 0, 0), (0, 3, 0), (6, 275, 0), (0, 0, 0)]) (p2 := 21) rfl rfl rfl rfl rfl ?_
  refine q_load (v := (6, 275, 0)) (p2 := 22) rfl rfl rfl rfl ?_
  refine q_const (p2 := 23) rfl rfl ?_
  refine q_aldv (v := (0, 1, 0)) (p2 := 24) rfl (x_sc_275 hm13) (by omega) (by omega) rfl rfl ?_
  refine q_load (v := (0, 0, 0)) (p2 := 25) rfl rfl rfl rfl ?_
  refine q_icmp_s (p2 := 26) rfl (by decide) (by omega) (by omega) rfl (fun _ => ?_) (fun hb => absurd (show ¬ (1 = 0) by omega) hb)
  refine q_load (v := (6, 275, 0)) (p2 := 45) rfl rfl rfl rfl ?_
  refine q_const (p2 := 46) rfl rfl ?_
  refine q_aldv (v := (0, 1, 0)) (p2 := 47) rfl (x_sc_275 hm13) (by omega) (by omega) rfl rfl ?_
  refine q_load (v := (0, 0, 0)) (p2 := 48) rfl rfl rfl rfl ?_
  refine q_icmp_s (p2 := 49) rfl (by decide) (by omega) (by omega) rfl (fun _ => ?_) (fun hb => absurd (show ¬ (1 = 0) by omega) hb)
  refine q_iinc (z := 4) (loc2 := [(6, 468, 0), (0, x, 0), (0, 0, 0), (0, 4, 0), (6, 275, 0), (0, 0, 0)]) (p2 := 63) rfl rfl (by decide) rfl rfl ?_
  refine q_goto rfl ?_
  refine q_load (v := (0, 4, 0)) (p2 := 3) rfl rfl rfl rfl ?_
  refine q_load (v := (6, 468, 0)) (p2 := 4) rfl rfl rfl rfl ?_
  refine q_getv (v := (6, 7, 0)) (p2 := 5) rfl hm11.1 (by decide) rfl rfl ?_
  refine q_getv (v := (6, 237, 0)) (p2 := 6) rfl hm14.1.choose_spec.1 (by decide) hm14.1.choose_spec.2.1 rfl ?_
  refine q_getv (v := (6, 246, 0)) (p2 := 7) rfl hm13.1.choose_spec.1 (by decide) hm13.1.choose_spec.2.2.2.1 rfl ?_
  refine q_const (p2 := 8) rfl rfl ?_
  refine q_aldv (v := (0, 5, 0)) (p2 := 9) rfl (x_sc_246 hm13) (by omega) (by omega) rfl rfl ?_
  refine q_icmp_s (p2 := 10) rfl (by decide) (by omega) (by omega) rfl (fun hb => absurd hb (show ¬ (¬ (4 < 5)) by omega)) (fun _ => ?_)
  refine q_load (v := (6, 468, 0)) (p2 := 11) rfl rfl rfl rfl ?_
  refine q_getv (v := (6, 7, 0)) (p2 := 12) rfl hm11.1 (by decide) rfl rfl ?_
  refine q_getv (v := (6, 237, 0)) (p2 := 13) rfl hm14.1.choose_spec.1 (by decide) hm14.1.choose_spec.2.1 rfl ?_
  refine q_getv (v := (6, 271, 0)) (p2 := 14) rfl hm13.1.choose_spec.1 (by decide) hm13.1.choose_spec.2.2.2.2.2.2.2.2.1 rfl ?_
  refine q_load (v := (0, 4, 0)) (p2 := 15) rfl rfl rfl rfl ?_
  refine q_aldv (v := (6, 276, 0)) (p2 := 16) rfl (x_sc_271 hm13) (by omega) (by omega) rfl rfl ?_
  refine q_store (loc2 := [(6, 468, 0), (0, x, 0), (0, 0, 0), (0, 4, 0), (6, 276, 0), (0, 0, 0)]) (p2 := 17) rfl rfl rfl rfl rfl ?_
  refine q_load (v := (6, 276, 0)) (p2 := 18) rfl rfl rfl rfl ?_
  refine q_const (p2 := 19) rfl rfl ?_
  refine q_aldv (v := (0, 2, 0)) (p2 := 20) rfl (x_sc_276 hm13) (by omega) (by omega) rfl rfl ?_
  refine q_store (loc2 := [(6, 468, 0), (0, x, 0), (0, 0, 0), (0, 4, 0), (6, 276, 0), (0, 2, 0)]) (p2 := 21) rfl rfl rfl rfl rfl ?_
  refine q_load (v := (6, 276, 0)) (p2 := 22) rfl rfl rfl rfl ?_
  refine q_const (p2 := 23) rfl rfl ?_
  refine q_aldv (v := (0, 2, 0)) (p2 := 24) rfl (x_sc_276 hm13) (by omega) (by omega) rfl rfl ?_
  refine q_load (v := (0, 0, 0)) (p2 := 25) rfl rfl rfl rfl ?_
  refine q_icmp_s (p2 := 26) rfl (by decide) (by omega) (by omega) rfl (fun _ => ?_) (fun hb => absurd (show ¬ (2 = 0) by omega) hb)
  refine q_load (v := (6, 276, 0)) (p2 := 45) rfl rfl rfl rfl ?_
  refine q_const (p2 := 46) rfl rfl ?_
  refine q_aldv (v := (0, 2, 0)) (p2 := 47) rfl (x_sc_276 hm13) (by omega) (by omega) rfl rfl ?_
  refine q_load (v := (0, 0, 0)) (p2 := 48) rfl rfl rfl rfl ?_
  refine q_icmp_s (p2 := 49) rfl (by decide) (by omega) (by omega) rfl (fun _ => ?_) (fun hb => absurd (show ¬ (2 = 0) by omega) hb)
  refine q_iinc (z := 5) (loc2 := [(6, 468, 0), (0, x, 0), (0, 0, 0), (0, 5, 0), (6, 276, 0), (0, 2, 0)]) (p2 := 63) rfl rfl (by decide) rfl rfl ?_
  refine q_goto rfl ?_
  refine q_load (v := (0, 5, 0)) (p2 := 3) rfl rfl rfl rfl ?_
  refine q_load (v := (6, 468, 0)) (p2 := 4) rfl rfl rfl rfl ?_
  refine q_getv (v := (6, 7, 0)) (p2 := 5) rfl hm11.1 (by decide) rfl rfl ?_
  refine q_getv (v := (6, 237, 0)) (p2 := 6) rfl hm14.1.choose_spec.1 (by decide) hm14.1.choose_spec.2.1 rfl ?_
  refine q_getv (v := (6, 246, 0)) (p2 := 7) rfl hm13.1.choose_spec.1 (by decide) hm13.1.choose_spec.2.2.2.1 rfl ?_
  refine q_const (p2 := 8) rfl rfl ?_
  refine q_aldv (v := (0, 5, 0)) (p2 := 9) rfl (x_sc_246 hm13) (by omega) (by omega) rfl rfl ?_
  refine q_icmp_s (p2 := 10) rfl (by decide) (by omega) (by omega) rfl (fun _ => ?_) (fun hb => absurd (show ¬ (5 < 5) by omega) hb)
  refine q_const (p2 := 65) rfl rfl ?_
  exact q_retv (v := (0, 1, 0)) rfl rfl (⟨rfl, rfl, funext (fun j => ((frn8 j).trans (frn1 j))), by omega, by omega⟩)
theorem zc_jb0_10 {d n sl : Nat} {φ : FH} {A : Nat} {B : Nat} {made : Nat} {sv : Nat} {svm : Nat} {s9 : Nat} {comb : Nat → Nat} {hm : Nat → MV} {noted : Nat} {verd : Nat} {ins : Nat → Nat} {ver : Nat → Nat} {x : Nat} {ka : Nat} (hPS : x_PS φ A B made sv svm s9 comb hm) (hS : x_sch φ) (hJ : zq_J φ noted verd ins ver) (hn0 : 486 ≤ n) (hx : x < 40) (h0 : hm (x * 40 + 0) = (1, ka, 0, 0, [])) (h1 : hm (x * 40 + 1) = MV0)  : x_f x_P (d + 2) 121 [(6, 468, 0), (0, x, 0), (0, 0, 0), (11, 0, 0), (11, 0, 0), (11, 0, 0)] φ n sl (x_r φ n sl (0, 1, 0)) := by
  refine x_f_of rfl ?_
  refine x_n_lt (fun hlt0 => ?_)
  refine q_const (p2 := 1) rfl rfl ?_
  refine q_store (loc2 := [(6, 468, 0), (0, x, 0), (0, 0, 0), (0, 0, 0), (11, 0, 0), (11, 0, 0)]) (p2 := 2) rfl rfl rfl rfl rfl ?_
  refine q_load (v := (0, 0, 0)) (p2 := 3) rfl rfl rfl rfl ?_
  refine q_load (v := (6, 468, 0)) (p2 := 4) rfl rfl rfl rfl ?_
  refine q_getv (v := (6, 7, 0)) (p2 := 5) rfl hJ.1 (by decide) rfl rfl ?_
  refine q_getv (v := (6, 237, 0)) (p2 := 6) rfl hPS.1.choose_spec.1 (by decide) hPS.1.choose_spec.2.1 rfl ?_
  refine q_getv (v := (6, 246, 0)) (p2 := 7) rfl hS.1.choose_spec.1 (by decide) hS.1.choose_spec.2.2.2.1 rfl ?_
  refine q_const (p2 := 8) rfl rfl ?_
  refine q_aldv (v := (0, 5, 0)) (p2 := 9) rfl (x_sc_246 hS) (by omega) (by omega) rfl rfl ?_
  refine q_icmp_s (p2 := 10) rfl (by decide) (by omega) (by omega) rfl (fun hb => absurd hb (show ¬ (¬ (0 < 5)) by omega)) (fun _ => ?_)
  refine q_load (v := (6, 468, 0)) (p2 := 11) rfl rfl rfl rfl ?_
  refine q_getv (v := (6, 7, 0)) (p2 := 12) rfl hJ.1 (by decide) rfl rfl ?_
  refine q_getv (v := (6, 237, 0)) (p2 := 13) rfl hPS.1.choose_spec.1 (by decide) hPS.1.choose_spec.2.1 rfl ?_
  refine q_getv (v := (6, 271, 0)) (p2 := 14) rfl hS.1.choose_spec.1 (by decide) hS.1.choose_spec.2.2.2.2.2.2.2.2.1 rfl ?_
  refine q_load (v := (0, 0, 0)) (p2 := 15) rfl rfl rfl rfl ?_
  refine q_aldv (v := (6, 272, 0)) (p2 := 16) rfl (x_sc_271 hS) (by omega) (by omega) rfl rfl ?_
  refine q_store (loc2 := [(6, 468, 0), (0, x, 0), (0, 0, 0), (0, 0, 0), (6, 272, 0), (11, 0, 0)]) (p2 := 17) rfl rfl rfl rfl rfl ?_
  refine q_load (v := (6, 272, 0)) (p2 := 18) rfl rfl rfl rfl ?_
  refine q_const (p2 := 19) rfl rfl ?_
  refine q_aldv (v := (0, 0, 0)) (p2 := 20) rfl (x_sc_272 hS) (by omega) (by omega) rfl rfl ?_
  refine q_store (loc2 := [(6, 468, 0), (0, x, 0), (0, 0, 0), (0, 0, 0), (6, 272, 0), (0, 0, 0)]) (p2 := 21) rfl rfl rfl rfl rfl ?_
  refine q_load (v := (6, 272, 0)) (p2 := 22) rfl rfl rfl rfl ?_
  refine q_const (p2 := 23) rfl rfl ?_
  refine q_aldv (v := (0, 0, 0)) (p2 := 24) rfl (x_sc_272 hS) (by omega) (by omega) rfl rfl ?_
  refine q_load (v := (0, 0, 0)) (p2 := 25) rfl rfl rfl rfl ?_
  refine q_icmp_s (p2 := 26) rfl (by decide) (by omega) (by omega) rfl (fun hb => absurd hb (show ¬ (¬ (0 = 0)) by omega)) (fun _ => ?_)
  refine q_load (v := (0, 0, 0)) (p2 := 27) rfl rfl rfl rfl ?_
  refine q_const (p2 := 28) rfl rfl ?_
  refine q_icmp_s (p2 := 29) rfl (by decide) (by omega) (by omega) rfl (fun _ => ?_) (fun hb => absurd (show ¬ (0 = 2) by omega) hb)
  refine q_load (v := (6, 272, 0)) (p2 := 45) rfl rfl rfl rfl ?_
  refine q_const (p2 := 46) rfl rfl ?_
  refine q_aldv (v := (0, 0, 0)) (p2 := 47) rfl (x_sc_272 hS) (by omega) (by omega) rfl rfl ?_
  refine q_load (v := (0, 0, 0)) (p2 := 48) rfl rfl rfl rfl ?_
  refine q_icmp_s (p2 := 49) rfl (by decide) (by omega) (by omega) rfl (fun hb => absurd hb (show ¬ (¬ (0 = 0)) by omega)) (fun _ => ?_)
  refine q_load (v := (0, 0, 0)) (p2 := 50) rfl rfl rfl rfl ?_
  refine q_if0_s (p2 := 51) rfl (by decide) (by omega) rfl (fun hb => absurd hb (show ¬ (¬ (0 = 0)) by omega)) (fun _ => ?_)
  refine q_load (v := (6, 468, 0)) (p2 := 52) rfl rfl rfl rfl ?_
  refine q_load (v := (6, 468, 0)) (p2 := 53) rfl rfl rfl rfl ?_
  refine q_getv (v := (6, 7, 0)) (p2 := 54) rfl hJ.1 (by decide) rfl rfl ?_
  refine q_load (v := (0, x, 0)) (p2 := 55) rfl rfl rfl rfl ?_
  refine q_load (v := (0, 0, 0)) (p2 := 56) rfl rfl rfl rfl ?_
  refine q_callrB (xs := [(0, 0, 0), (0, x, 0), (6, 7, 0)]) (p2 := 57) rfl rfl rfl rfl (x_rcv_s 7 hPS.1.choose_spec.1) rfl (e_heldByM hPS (by omega) (by omega) h0) rfl (fun w1 φ1 n1 sl1 hn1 hN1 hs1 hT1 hR1 => ?_)
  obtain ⟨v1, hwv1, hV1, hphi1⟩ := hR1
  subst hwv1
  have frn1 : ∀ j, φ1 j = φ j := fun j => by rw [hphi1]
  refine x_n_lt (fun hlt2 => ?_)
  have hz3 := x_mv_lt hV1 hlt2
  have hy3 := hV1.1
  refine q_load (v := (6, 272, 0)) (p2 := 58) rfl rfl rfl rfl ?_
  have hm4 := (zq_J_at hJ (frn1 468) (frn1 469) (frn1 470))
  refine q_callK (xs := [(6, 272, 0), (6, v1, 0), (6, 468, 0)]) (p2 := 59) rfl rfl rfl rfl (x_rcv_s 468 hm4.1) rfl rfl ?_
  refine x_f_of rfl ?_
  refine q_load (v := (6, v1, 0)) (p2 := 1) rfl rfl rfl rfl ?_
  obtain ⟨fV5, hW5, hg5⟩ := x_mv_gS hV1 (by decide)
  have hl5 := hlt2 _ _ hW5
  have h6_5 := hV1.1
  refine q_getv (v := (0, 1, 0)) (p2 := 2) rfl hW5 (by decide) hg5.1 rfl ?_
  refine q_if0_s (p2 := 3) rfl (by decide) (by omega) rfl (fun _ => ?_) (fun hb => absurd (show ¬ (1 = 0) by omega) hb)
  refine q_load (v := (6, v1, 0)) (p2 := 13) rfl rfl rfl rfl ?_
  refine q_getv (v := (0, 1, 0)) (p2 := 14) rfl hW5 (by decide) hg5.1 rfl ?_
  refine q_const (p2 := 15) rfl rfl ?_
  refine q_icmp_s (p2 := 16) rfl (by decide) (by omega) (by omega) rfl (fun _ => ?_) (fun hb => absurd (show ¬ (1 = 6) by omega) hb)
  refine q_const (p2 := 29) rfl rfl ?_
  refine q_goto rfl ?_
  refine q_retv (v := (0, 1, 0)) rfl rfl ⟨rfl, by omega, by omega, ?_⟩
  refine q_if0_s (p2 := 60) rfl (by decide) (by omega) rfl (fun _ => ?_) (fun hb => absurd (show ¬ (1 = 0) by omega) hb)
  refine q_iinc (z := 1) (loc2 := [(6, 468, 0), (0, x, 0), (0, 0, 0), (0, 1, 0), (6, 272, 0), (0, 0, 0)]) (p2 := 63) rfl rfl (by decide) rfl rfl ?_
  refine q_goto rfl ?_
  refine q_load (v := (0, 1, 0)) (p2 := 3) rfl rfl rfl rfl ?_
  refine q_load (v := (6, 468, 0)) (p2 := 4) rfl rfl rfl rfl ?_
  refine q_getv (v := (6, 7, 0)) (p2 := 5) rfl hm4.1 (by decide) rfl rfl ?_
  have hm6 := (x_PS_at hPS (fun j hj hne => by have hj2 := x_some_lt hlt0 hne; exact (frn1 j)))
  refine q_getv (v := (6, 237, 0)) (p2 := 6) rfl hm6.1.choose_spec.1 (by decide) hm6.1.choose_spec.2.1 rfl ?_
  have hm7 := (x_sch_at hS (fun j h1 h2 => (frn1 j)))
  refine q_getv (v := (6, 246, 0)) (p2 := 7) rfl hm7.1.choose_spec.1 (by decide) hm7.1.choose_spec.2.2.2.1 rfl ?_
  refine q_const (p2 := 8) rfl rfl ?_
  refine q_aldv (v := (0, 5, 0)) (p2 := 9) rfl (x_sc_246 hm7) (by omega) (by omega) rfl rfl ?_
  refine q_icmp_s (p2 := 10) rfl (by decide) (by omega) (by omega) rfl (fun hb => absurd hb (show ¬ (¬ (1 < 5)) by omega)) (fun _ => ?_)
  refine q_load (v := (6, 468, 0)) (p2 := 11) rfl rfl rfl rfl ?_
  refine q_getv (v := (6, 7, 0)) (p2 := 12) rfl hm4.1 (by decide) rfl rfl ?_
  refine q_getv (v := (6, 237, 0)) (p2 := 13) rfl hm6.1.choose_spec.1 (by decide) hm6.1.choose_spec.2.1 rfl ?_
  refine q_getv (v := (6, 271, 0)) (p2 := 14) rfl hm7.1.choose_spec.1 (by decide) hm7.1.choose_spec.2.2.2.2.2.2.2.2.1 rfl ?_
  refine q_load (v := (0, 1, 0)) (p2 := 15) rfl rfl rfl rfl ?_
  refine q_aldv (v := (6, 273, 0)) (p2 := 16) rfl (x_sc_271 hm7) (by omega) (by omega) rfl rfl ?_
  refine q_store (loc2 := [(6, 468, 0), (0, x, 0), (0, 0, 0), (0, 1, 0), (6, 273, 0), (0, 0, 0)]) (p2 := 17) rfl rfl rfl rfl rfl ?_
  refine q_load (v := (6, 273, 0)) (p2 := 18) rfl rfl rfl rfl ?_
  refine q_const (p2 := 19) rfl rfl ?_
  refine q_aldv (v := (0, 0, 0)) (p2 := 20) rfl (x_sc_273 hm7) (by omega) (by omega) rfl rfl ?_
  refine q_store (loc2 := [(6, 468, 0), (0, x, 0), (0, 0, 0), (0, 1, 0), (6, 273, 0), (0, 0, 0)]) (p2 := 21) rfl rfl rfl rfl rfl ?_
  refine q_load (v := (6, 273, 0)) (p2 := 22) rfl rfl rfl rfl ?_
  refine q_const (p2 := 23) rfl rfl ?_
  refine q_aldv (v := (0, 0, 0)) (p2 := 24) rfl (x_sc_273 hm7) (by omega) (by omega) rfl rfl ?_
  refine q_load (v := (0, 0, 0)) (p2 := 25) rfl rfl rfl rfl ?_
  refine q_icmp_s (p2 := 26) rfl (by decide) (by omega) (by omega) rfl (fun hb => absurd hb (show ¬ (¬ (0 = 0)) by omega)) (fun _ => ?_)
  refine q_load (v := (0, 0, 0)) (p2 := 27) rfl rfl rfl rfl ?_
  refine q_const (p2 := 28) rfl rfl ?_
  refine q_icmp_s (p2 := 29) rfl (by decide) (by omega) (by omega) rfl (fun _ => ?_) (fun hb => absurd (show ¬ (0 = 2) by omega) hb)
  refine q_load (v := (6, 273, 0)) (p2 := 45) rfl rfl rfl rfl ?_
  refine q_const (p2 := 46) rfl rfl ?_
  refine q_aldv (v := (0, 0, 0)) (p2 := 47) rfl (x_sc_273 hm7) (by omega) (by omega) rfl rfl ?_
  refine q_load (v := (0, 0, 0)) (p2 := 48) rfl rfl rfl rfl ?_
  refine q_icmp_s (p2 := 49) rfl (by decide) (by omega) (by omega) rfl (fun hb => absurd hb (show ¬ (¬ (0 = 0)) by omega)) (fun _ => ?_)
  refine q_load (v := (0, 0, 0)) (p2 := 50) rfl rfl rfl rfl ?_
  refine q_if0_s (p2 := 51) rfl (by decide) (by omega) rfl (fun hb => absurd hb (show ¬ (¬ (0 = 0)) by omega)) (fun _ => ?_)
  refine q_load (v := (6, 468, 0)) (p2 := 52) rfl rfl rfl rfl ?_
  refine q_load (v := (6, 468, 0)) (p2 := 53) rfl rfl rfl rfl ?_
  refine q_getv (v := (6, 7, 0)) (p2 := 54) rfl hm4.1 (by decide) rfl rfl ?_
  refine q_load (v := (0, x, 0)) (p2 := 55) rfl rfl rfl rfl ?_
  refine q_load (v := (0, 1, 0)) (p2 := 56) rfl rfl rfl rfl ?_
  refine q_callrB (xs := [(0, 1, 0), (0, x, 0), (6, 7, 0)]) (p2 := 57) rfl rfl rfl rfl (x_rcv_s 7 hm6.1.choose_spec.1) rfl (e_heldByM hm6 (by omega) (by omega) h1) rfl (fun w8 φ8 n8 sl8 hn8 hN8 hs8 hT8 hR8 => ?_)
  obtain ⟨v8, hwv8, hV8, hphi8⟩ := hR8
  subst hwv8
  have frn8 : ∀ j, φ8 j = φ1 j := fun j => by rw [hphi8]
  refine x_n_lt (fun hlt9 => ?_)
  have hz10 := x_mv_lt hV8 hlt9
  have hy10 := hV8.1
  refine q_load (v := (6, 273, 0)) (p2 := 58) rfl rfl rfl rfl ?_
  have hm11 := (zq_J_at hm4 (frn8 468) (frn8 469) (frn8 470))
  refine q_callK (xs := [(6, 273, 0), (6, v8, 0), (6, 468, 0)]) (p2 := 59) rfl rfl rfl rfl (x_rcv_s 468 hm11.1) rfl rfl ?_
  refine x_f_of rfl ?_
  refine q_load (v := (6, v8, 0)) (p2 := 1) rfl rfl rfl rfl ?_
  obtain ⟨fV12, hW12, hg12⟩ := x_mv_gS hV8 (by decide)
  have hl12 := hlt9 _ _ hW12
  have h6_12 := hV8.1
  refine q_getv (v := (0, 0, 0)) (p2 := 2) rfl hW12 (by decide) hg12.1 rfl ?_
  refine q_if0_s (p2 := 3) rfl (by decide) (by omega) rfl (fun hb => absurd hb (show ¬ (¬ (0 = 0)) by omega)) (fun _ => ?_)
  refine q_load (v := (6, 273, 0)) (p2 := 4) rfl rfl rfl rfl ?_
  refine q_const (p2 := 5) rfl rfl ?_
  have hm13 := (x_sch_at hm7 (fun j h1 h2 => (frn8 j)))
  refine q_aldv (v := (0, 1, 0)) (p2 := 6) rfl (x_sc_273 hm13) (by omega) (by omega) rfl rfl ?_
  refine q_const (p2 := 7) rfl rfl ?_
  refine q_icmp_s (p2 := 8) rfl (by decide) (by omega) (by omega) rfl (fun hb => absurd hb (show ¬ (¬ (1 = 1)) by omega)) (fun _ => ?_)
  refine q_const (p2 := 9) rfl rfl ?_
  refine q_goto rfl ?_
  refine q_retv (v := (0, 1, 0)) rfl rfl ⟨rfl, by omega, by omega, ?_⟩
  refine q_if0_s (p2 := 60) rfl (by decide) (by omega) rfl (fun _ => ?_) (fun hb => absurd (show ¬ (1 = 0) by omega) hb)
  refine q_iinc (z := 2) (loc2 := [(6, 468, 0), (0, x, 0), (0, 0, 0), (0, 2, 0), (6, 273, 0), (0, 0, 0)]) (p2 := 63) rfl rfl (by decide) rfl rfl ?_
  refine q_goto rfl ?_
  refine q_load (v := (0, 2, 0)) (p2 := 3) rfl rfl rfl rfl ?_
  refine q_load (v := (6, 468, 0)) (p2 := 4) rfl rfl rfl rfl ?_
  refine q_getv (v := (6, 7, 0)) (p2 := 5) rfl hm11.1 (by decide) rfl rfl ?_
  have hm14 := (x_PS_at hm6 (fun j hj hne => by have hj2 := x_some_lt hlt2 hne; exact (frn8 j)))
  refine q_getv (v := (6, 237, 0)) (p2 := 6) rfl hm14.1.choose_spec.1 (by decide) hm14.1.choose_spec.2.1 rfl ?_
  refine q_getv (v := (6, 246, 0)) (p2 := 7) rfl hm13.1.choose_spec.1 (by decide) hm13.1.choose_spec.2.2.2.1 rfl ?_
  refine q_const (p2 := 8) rfl rfl ?_
  refine q_aldv (v := (0, 5, 0)) (p2 := 9) rfl (x_sc_246 hm13) (by omega) (by omega) rfl rfl ?_
  refine q_icmp_s (p2 := 10) rfl (by decide) (by omega) (by omega) rfl (fun hb => absurd hb (show ¬ (¬ (2 < 5)) by omega)) (fun _ => ?_)
  refine q_load (v := (6, 468, 0)) (p2 := 11) rfl rfl rfl rfl ?_
  refine q_getv (v := (6, 7, 0)) (p2 := 12) rfl hm11.1 (by decide) rfl rfl ?_
  refine q_getv (v := (6, 237, 0)) (p2 := 13) rfl hm14.1.choose_spec.1 (by decide) hm14.1.choose_spec.2.1 rfl ?_
  refine q_getv (v := (6, 271, 0)) (p2 := 14) rfl hm13.1.choose_spec.1 (by decide) hm13.1.choose_spec.2.2.2.2.2.2.2.2.1 rfl ?_
  refine q_load (v := (0, 2, 0)) (p2 := 15) rfl rfl rfl rfl ?_
  refine q_aldv (v := (6, 274, 0)) (p2 := 16) rfl (x_sc_271 hm13) (by omega) (by omega) rfl rfl ?_
  refine q_store (loc2 := [(6, 468, 0), (0, x, 0), (0, 0, 0), (0, 2, 0), (6, 274, 0), (0, 0, 0)]) (p2 := 17) rfl rfl rfl rfl rfl ?_
  refine q_load (v := (6, 274, 0)) (p2 := 18) rfl rfl rfl rfl ?_
  refine q_const (p2 := 19) rfl rfl ?_
  refine q_aldv (v := (0, 1, 0)) (p2 := 20) rfl (x_sc_274 hm13) (by omega) (by omega) rfl rfl ?_
  refine q_store (loc2 := [(6, 468, 0), (0, x, 0), (0, 0, 0), (0, 2, 0), (6, 274, 0), (0, 1, 0)]) (p2 := 21) rfl rfl rfl rfl rfl ?_
  refine q_load (v := (6, 274, 0)) (p2 := 22) rfl rfl rfl rfl ?_
  refine q_const (p2 := 23) rfl rfl ?_
  refine q_aldv (v := (0, 0, 0)) (p2 := 24) rfl (x_sc_274 hm13) (by omega) (by omega) rfl rfl ?_
  refine q_load (v := (0, 0, 0)) (p2 := 25) rfl rfl rfl rfl ?_
  refine q_icmp_s (p2 := 26) rfl (by decide) (by omega) (by omega) rfl (fun hb => absurd hb (show ¬ (¬ (0 = 0)) by omega)) (fun _ => ?_)
  refine q_load (v := (0, 1, 0)) (p2 := 27) rfl rfl rfl rfl ?_
  refine q_const (p2 := 28) rfl rfl ?_
  refine q_icmp_s (p2 := 29) rfl (by decide) (by omega) (by omega) rfl (fun _ => ?_) (fun hb => absurd (show ¬ (1 = 2) by omega) hb)
  refine q_load (v := (6, 274, 0)) (p2 := 45) rfl rfl rfl rfl ?_
  refine q_const (p2 := 46) rfl rfl ?_
  refine q_aldv (v := (0, 0, 0)) (p2 := 47) rfl (x_sc_274 hm13) (by omega) (by omega) rfl rfl ?_
  refine q_load (v := (0, 0, 0)) (p2 := 48) rfl rfl rfl rfl ?_
  refine q_icmp_s (p2 := 49) rfl (by decide) (by omega) (by omega) rfl (fun hb => absurd hb (show ¬ (¬ (0 = 0)) by omega)) (fun _ => ?_)
  refine q_load (v := (0, 1, 0)) (p2 := 50) rfl rfl rfl rfl ?_
  refine q_if0_s (p2 := 51) rfl (by decide) (by omega) rfl (fun _ => ?_) (fun hb => absurd (show ¬ (1 = 0) by omega) hb)
  refine q_iinc (z := 3) (loc2 := [(6, 468, 0), (0, x, 0), (0, 0, 0), (0, 3, 0), (6, 274, 0), (0, 1, 0)]) (p2 := 63) rfl rfl (by decide) rfl rfl ?_
  refine q_goto rfl ?_
  refine q_load (v := (0, 3, 0)) (p2 := 3) rfl rfl rfl rfl ?_
  refine q_load (v := (6, 468, 0)) (p2 := 4) rfl rfl rfl rfl ?_
  refine q_getv (v := (6, 7, 0)) (p2 := 5) rfl hm11.1 (by decide) rfl rfl ?_
  refine q_getv (v := (6, 237, 0)) (p2 := 6) rfl hm14.1.choose_spec.1 (by decide) hm14.1.choose_spec.2.1 rfl ?_
  refine q_getv (v := (6, 246, 0)) (p2 := 7) rfl hm13.1.choose_spec.1 (by decide) hm13.1.choose_spec.2.2.2.1 rfl ?_
  refine q_const (p2 := 8) rfl rfl ?_
  refine q_aldv (v := (0, 5, 0)) (p2 := 9) rfl (x_sc_246 hm13) (by omega) (by omega) rfl rfl ?_
  refine q_icmp_s (p2 := 10) rfl (by decide) (by omega) (by omega) rfl (fun hb => absurd hb (show ¬ (¬ (3 < 5)) by omega)) (fun _ => ?_)
  refine q_load (v := (6, 468, 0)) (p2 := 11) rfl rfl rfl rfl ?_
  refine q_getv (v := (6, 7, 0)) (p2 := 12) rfl hm11.1 (by decide) rfl rfl ?_
  refine q_getv (v := (6, 237, 0)) (p2 := 13) rfl hm14.1.choose_spec.1 (by decide) hm14.1.choose_spec.2.1 rfl ?_
  refine q_getv (v := (6, 271, 0)) (p2 := 14) rfl hm13.1.choose_spec.1 (by decide) hm13.1.choose_spec.2.2.2.2.2.2.2.2.1 rfl ?_
  refine q_load (v := (0, 3, 0)) (p2 := 15) rfl rfl rfl rfl ?_
  refine q_aldv (v := (6, 275, 0)) (p2 := 16) rfl (x_sc_271 hm13) (by omega) (by omega) rfl rfl ?_
  refine q_store (loc2 := [(6, 468, 0), (0, x, 0), (0, 0, 0), (0, 3, 0), (6, 275, 0), (0, 1, 0)]) (p2 := 17) rfl rfl rfl rfl rfl ?_
  refine q_load (v := (6, 275, 0)) (p2 := 18) rfl rfl rfl rfl ?_
  refine q_const (p2 := 19) rfl rfl ?_
  refine q_aldv (v := (0, 0, 0)) (p2 := 20) rfl (x_sc_275 hm13) (by omega) (by omega) rfl rfl ?_
  refine q_store (loc2 := [(6, 468, 0), (0, x, 0), (0, 0, 0), (0, 3, 0), (6, 275, 0), (0, 0, 0)]) (p2 := 21) rfl rfl rfl rfl rfl ?_
  refine q_load (v := (6, 275, 0)) (p2 := 22) rfl rfl rfl rfl ?_
  refine q_const (p2 := 23) rfl rfl ?_
  refine q_aldv (v := (0, 1, 0)) (p2 := 24) rfl (x_sc_275 hm13) (by omega) (by omega) rfl rfl ?_
  refine q_load (v := (0, 0, 0)) (p2 := 25) rfl rfl rfl rfl ?_
  refine q_icmp_s (p2 := 26) rfl (by decide) (by omega) (by omega) rfl (fun _ => ?_) (fun hb => absurd (show ¬ (1 = 0) by omega) hb)
  refine q_load (v := (6, 275, 0)) (p2 := 45) rfl rfl rfl rfl ?_
  refine q_const (p2 := 46) rfl rfl ?_
  refine q_aldv (v := (0, 1, 0)) (p2 := 47) rfl (x_sc_275 hm13) (by omega) (by omega) rfl rfl ?_
  refine q_load (v := (0, 0, 0)) (p2 := 48) rfl rfl rfl rfl ?_
  refine q_icmp_s (p2 := 49) rfl (by decide) (by omega) (by omega) rfl (fun _ => ?_) (fun hb => absurd (show ¬ (1 = 0) by omega) hb)
  refine q_iinc (z := 4) (loc2 := [(6, 468, 0), (0, x, 0), (0, 0, 0), (0, 4, 0), (6, 275, 0), (0, 0, 0)]) (p2 := 63) rfl rfl (by decide) rfl rfl ?_
  refine q_goto rfl ?_
  refine q_load (v := (0, 4, 0)) (p2 := 3) rfl rfl rfl rfl ?_
  refine q_load (v := (6, 468, 0)) (p2 := 4) rfl rfl rfl rfl ?_
  refine q_getv (v := (6, 7, 0)) (p2 := 5) rfl hm11.1 (by decide) rfl rfl ?_
  refine q_getv (v := (6, 237, 0)) (p2 := 6) rfl hm14.1.choose_spec.1 (by decide) hm14.1.choose_spec.2.1 rfl ?_
  refine q_getv (v := (6, 246, 0)) (p2 := 7) rfl hm13.1.choose_spec.1 (by decide) hm13.1.choose_spec.2.2.2.1 rfl ?_
  refine q_const (p2 := 8) rfl rfl ?_
  refine q_aldv (v := (0, 5, 0)) (p2 := 9) rfl (x_sc_246 hm13) (by omega) (by omega) rfl rfl ?_
  refine q_icmp_s (p2 := 10) rfl (by decide) (by omega) (by omega) rfl (fun hb => absurd hb (show ¬ (¬ (4 < 5)) by omega)) (fun _ => ?_)
  refine q_load (v := (6, 468, 0)) (p2 := 11) rfl rfl rfl rfl ?_
  refine q_getv (v := (6, 7, 0)) (p2 := 12) rfl hm11.1 (by decide) rfl rfl ?_
  refine q_getv (v := (6, 237, 0)) (p2 := 13) rfl hm14.1.choose_spec.1 (by decide) hm14.1.choose_spec.2.1 rfl ?_
  refine q_getv (v := (6, 271, 0)) (p2 := 14) rfl hm13.1.choose_spec.1 (by decide) hm13.1.choose_spec.2.2.2.2.2.2.2.2.1 rfl ?_
  refine q_load (v := (0, 4, 0)) (p2 := 15) rfl rfl rfl rfl ?_
  refine q_aldv (v := (6, 276, 0)) (p2 := 16) rfl (x_sc_271 hm13) (by omega) (by omega) rfl rfl ?_
  refine q_store (loc2 := [(6, 468, 0), (0, x, 0), (0, 0, 0), (0, 4, 0), (6, 276, 0), (0, 0, 0)]) (p2 := 17) rfl rfl rfl rfl rfl ?_
  refine q_load (v := (6, 276, 0)) (p2 := 18) rfl rfl rfl rfl ?_
  refine q_const (p2 := 19) rfl rfl ?_
  refine q_aldv (v := (0, 2, 0)) (p2 := 20) rfl (x_sc_276 hm13) (by omega) (by omega) rfl rfl ?_
  refine q_store (loc2 := [(6, 468, 0), (0, x, 0), (0, 0, 0), (0, 4, 0), (6, 276, 0), (0, 2, 0)]) (p2 := 21) rfl rfl rfl rfl rfl ?_
  refine q_load (v := (6, 276, 0)) (p2 := 22) rfl rfl rfl rfl ?_
  refine q_const (p2 := 23) rfl rfl ?_
  refine q_aldv (v := (0, 2, 0)) (p2 := 24) rfl (x_sc_276 hm13) (by omega) (by omega) rfl rfl ?_
  refine q_load (v := (0, 0, 0)) (p2 := 25) rfl rfl rfl rfl ?_
  refine q_icmp_s (p2 := 26) rfl (by decide) (by omega) (by omega) rfl (fun _ => ?_) (fun hb => absurd (show ¬ (2 = 0) by omega) hb)
  refine q_load (v := (6, 276, 0)) (p2 := 45) rfl rfl rfl rfl ?_
  refine q_const (p2 := 46) rfl rfl ?_
  refine q_aldv (v := (0, 2, 0)) (p2 := 47) rfl (x_sc_276 hm13) (by omega) (by omega) rfl rfl ?_
  refine q_load (v := (0, 0, 0)) (p2 := 48) rfl rfl rfl rfl ?_
  refine q_icmp_s (p2 := 49) rfl (by decide) (by omega) (by omega) rfl (fun _ => ?_) (fun hb => absurd (show ¬ (2 = 0) by omega) hb)
  refine q_iinc (z := 5) (loc2 := [(6, 468, 0), (0, x, 0), (0, 0, 0), (0, 5, 0), (6, 276, 0), (0, 2, 0)]) (p2 := 63) rfl rfl (by decide) rfl rfl ?_
  refine q_goto rfl ?_
  refine q_load (v := (0, 5, 0)) (p2 := 3) rfl rfl rfl rfl ?_
  refine q_load (v := (6, 468, 0)) (p2 := 4) rfl rfl rfl rfl ?_
  refine q_getv (v := (6, 7, 0)) (p2 := 5) rfl hm11.1 (by decide) rfl rfl ?_
  refine q_getv (v := (6, 237, 0)) (p2 := 6) rfl hm14.1.choose_spec.1 (by decide) hm14.1.choose_spec.2.1 rfl ?_
  refine q_getv (v := (6, 246, 0)) (p2 := 7) rfl hm13.1.choose_spec.1 (by decide) hm13.1.choose_spec.2.2.2.1 rfl ?_
  refine q_const (p2 := 8) rfl rfl ?_
  refine q_aldv (v := (0, 5, 0)) (p2 := 9) rfl (x_sc_246 hm13) (by omega) (by omega) rfl rfl ?_
  refine q_icmp_s (p2 := 10) rfl (by decide) (by omega) (by omega) rfl (fun _ => ?_) (fun hb => absurd (show ¬ (5 < 5) by omega) hb)
  refine q_const (p2 := 65) rfl rfl ?_
  exact q_retv (v := (0, 1, 0)) rfl rfl (⟨rfl, rfl, funext (fun j => ((frn8 j).trans (frn1 j))), by omega, by omega⟩)
theorem zc_jb0_16 {d n sl : Nat} {φ : FH} {A : Nat} {B : Nat} {made : Nat} {sv : Nat} {svm : Nat} {s9 : Nat} {comb : Nat → Nat} {hm : Nat → MV} {noted : Nat} {verd : Nat} {ins : Nat → Nat} {ver : Nat → Nat} {x : Nat} {ka : Nat} {L : List Nat} (hPS : x_PS φ A B made sv svm s9 comb hm) (hS : x_sch φ) (hJ : zq_J φ noted verd ins ver) (hn0 : 486 ≤ n) (hx : x < 40) (h0 : hm (x * 40 + 0) = (1, ka, 0, 0, [])) (h1 : hm (x * 40 + 1) = (6, 0, 3, 5, L)) (hL2 : L.length ≤ 2) : x_f x_P (d + 4) 121 [(6, 468, 0), (0, x, 0), (0, 0, 0), (11, 0, 0), (11, 0, 0), (11, 0, 0)] φ n sl (x_r φ n sl (0, 1, 0)) := by
  refine x_f_of rfl ?_
  refine x_n_lt (fun hlt0 => ?_)
  refine q_const (p2 := 1) rfl rfl ?_
  refine q_store (loc2 := [(6, 468, 0), (0, x, 0), (0, 0, 0), (0, 0, 0), (11, 0, 0), (11, 0, 0)]) (p2 := 2) rfl rfl rfl rfl rfl ?_
  refine q_load (v := (0, 0, 0)) (p2 := 3) rfl rfl rfl rfl ?_
  refine q_load (v := (6, 468, 0)) (p2 := 4) rfl rfl rfl rfl ?_
  refine q_getv (v := (6, 7, 0)) (p2 := 5) rfl hJ.1 (by decide) rfl rfl ?_
  refine q_getv (v := (6, 237, 0)) (p2 := 6) rfl hPS.1.choose_spec.1 (by decide) hPS.1.choose_spec.2.1 rfl ?_
  refine q_getv (v := (6, 246, 0)) (p2 := 7) rfl hS.1.choose_spec.1 (by decide) hS.1.choose_spec.2.2.2.1 rfl ?_
  refine q_const (p2 := 8) rfl rfl ?_
  refine q_aldv (v := (0, 5, 0)) (p2 := 9) rfl (x_sc_246 hS) (by omega) (by omega) rfl rfl ?_
  refine q_icmp_s (p2 := 10) rfl (by decide) (by omega) (by omega) rfl (fun hb => absurd hb (show ¬ (¬ (0 < 5)) by omega)) (fun _ => ?_)
  refine q_load (v := (6, 468, 0)) (p2 := 11) rfl rfl rfl rfl ?_
  refine q_getv (v := (6, 7, 0)) (p2 := 12) rfl hJ.1 (by decide) rfl rfl ?_
  refine q_getv (v := (6, 237, 0)) (p2 := 13) rfl hPS.1.choose_spec.1 (by decide) hPS.1.choose_spec.2.1 rfl ?_
  refine q_getv (v := (6, 271, 0)) (p2 := 14) rfl hS.1.choose_spec.1 (by decide) hS.1.choose_spec.2.2.2.2.2.2.2.2.1 rfl ?_
  refine q_load (v := (0, 0, 0)) (p2 := 15) rfl rfl rfl rfl ?_
  refine q_aldv (v := (6, 272, 0)) (p2 := 16) rfl (x_sc_271 hS) (by omega) (by omega) rfl rfl ?_
  refine q_store (loc2 := [(6, 468, 0), (0, x, 0), (0, 0, 0), (0, 0, 0), (6, 272, 0), (11, 0, 0)]) (p2 := 17) rfl rfl rfl rfl rfl ?_
  refine q_load (v := (6, 272, 0)) (p2 := 18) rfl rfl rfl rfl ?_
  refine q_const (p2 := 19) rfl rfl ?_
  refine q_aldv (v := (0, 0, 0)) (p2 := 20) rfl (x_sc_272 hS) (by omega) (by omega) rfl rfl ?_
  refine q_store (loc2 := [(6, 468, 0), (0, x, 0), (0, 0, 0), (0, 0, 0), (6, 272, 0), (0, 0, 0)]) (p2 := 21) rfl rfl rfl rfl rfl ?_
  refine q_load (v := (6, 272, 0)) (p2 := 22) rfl rfl rfl rfl ?_
  refine q_const (p2 := 23) rfl rfl ?_
  refine q_aldv (v := (0, 0, 0)) (p2 := 24) rfl (x_sc_272 hS) (by omega) (by omega) rfl rfl ?_
  refine q_load (v := (0, 0, 0)) (p2 := 25) rfl rfl rfl rfl ?_
  refine q_icmp_s (p2 := 26) rfl (by decide) (by omega) (by omega) rfl (fun hb => absurd hb (show ¬ (¬ (0 = 0)) by omega)) (fun _ => ?_)
  refine q_load (v := (0, 0, 0)) (p2 := 27) rfl rfl rfl rfl ?_
  refine q_const (p2 := 28) rfl rfl ?_
  refine q_icmp_s (p2 := 29) rfl (by decide) (by omega) (by omega) rfl (fun _ => ?_) (fun hb => absurd (show ¬ (0 = 2) by omega) hb)
  refine q_load (v := (6, 272, 0)) (p2 := 45) rfl rfl rfl rfl ?_
  refine q_const (p2 := 46) rfl rfl ?_
  refine q_aldv (v := (0, 0, 0)) (p2 := 47) rfl (x_sc_272 hS) (by omega) (by omega) rfl rfl ?_
  refine q_load (v := (0, 0, 0)) (p2 := 48) rfl rfl rfl rfl ?_
  refine q_icmp_s (p2 := 49) rfl (by decide) (by omega) (by omega) rfl (fun hb => absurd hb (show ¬ (¬ (0 = 0)) by omega)) (fun _ => ?_)
  refine q_load (v := (0, 0, 0)) (p2 := 50) rfl rfl rfl rfl ?_
  refine q_if0_s (p2 := 51) rfl (by decide) (by omega) rfl (fun hb => absurd hb (show ¬ (¬ (0 = 0)) by omega)) (fun _ => ?_)
  refine q_load (v := (6, 468, 0)) (p2 := 52) rfl rfl rfl rfl ?_
  refine q_load (v := (6, 468, 0)) (p2 := 53) rfl rfl rfl rfl ?_
  refine q_getv (v := (6, 7, 0)) (p2 := 54) rfl hJ.1 (by decide) rfl rfl ?_
  refine q_load (v := (0, x, 0)) (p2 := 55) rfl rfl rfl rfl ?_
  refine q_load (v := (0, 0, 0)) (p2 := 56) rfl rfl rfl rfl ?_
  refine q_callrB (xs := [(0, 0, 0), (0, x, 0), (6, 7, 0)]) (p2 := 57) rfl rfl rfl rfl (x_rcv_s 7 hPS.1.choose_spec.1) rfl (e_heldByM hPS (by omega) (by omega) h0) rfl (fun w1 φ1 n1 sl1 hn1 hN1 hs1 hT1 hR1 => ?_)
  obtain ⟨v1, hwv1, hV1, hphi1⟩ := hR1
  subst hwv1
  have frn1 : ∀ j, φ1 j = φ j := fun j => by rw [hphi1]
  refine x_n_lt (fun hlt2 => ?_)
  have hz3 := x_mv_lt hV1 hlt2
  have hy3 := hV1.1
  refine q_load (v := (6, 272, 0)) (p2 := 58) rfl rfl rfl rfl ?_
  have hm4 := (zq_J_at hJ (frn1 468) (frn1 469) (frn1 470))
  refine q_callK (xs := [(6, 272, 0), (6, v1, 0), (6, 468, 0)]) (p2 := 59) rfl rfl rfl rfl (x_rcv_s 468 hm4.1) rfl rfl ?_
  refine x_f_of rfl ?_
  refine q_load (v := (6, v1, 0)) (p2 := 1) rfl rfl rfl rfl ?_
  obtain ⟨fV5, hW5, hg5⟩ := x_mv_gS hV1 (by decide)
  have hl5 := hlt2 _ _ hW5
  have h6_5 := hV1.1
  refine q_getv (v := (0, 1, 0)) (p2 := 2) rfl hW5 (by decide) hg5.1 rfl ?_
  refine q_if0_s (p2 := 3) rfl (by decide) (by omega) rfl (fun _ => ?_) (fun hb => absurd (show ¬ (1 = 0) by omega) hb)
  refine q_load (v := (6, v1, 0)) (p2 := 13) rfl rfl rfl rfl ?_
  refine q_getv (v := (0, 1, 0)) (p2 := 14) rfl hW5 (by decide) hg5.1 rfl ?_
  refine q_const (p2 := 15) rfl rfl ?_
  refine q_icmp_s (p2 := 16) rfl (by decide) (by omega) (by omega) rfl (fun _ => ?_) (fun hb => absurd (show ¬ (1 = 6) by omega) hb)
  refine q_const (p2 := 29) rfl rfl ?_
  refine q_goto rfl ?_
  refine q_retv (v := (0, 1, 0)) rfl rfl ⟨rfl, by omega, by omega, ?_⟩
  refine q_if0_s (p2 := 60) rfl (by decide) (by omega) rfl (fun _ => ?_) (fun hb => absurd (show ¬ (1 = 0) by omega) hb)
  refine q_iinc (z := 1) (loc2 := [(6, 468, 0), (0, x, 0), (0, 0, 0), (0, 1, 0), (6, 272, 0), (0, 0, 0)]) (p2 := 63) rfl rfl (by decide) rfl rfl ?_
  refine q_goto rfl ?_
  refine q_load (v := (0, 1, 0)) (p2 := 3) rfl rfl rfl rfl ?_
  refine q_load (v := (6, 468, 0)) (p2 := 4) rfl rfl rfl rfl ?_
  refine q_getv (v := (6, 7, 0)) (p2 := 5) rfl hm4.1 (by decide) rfl rfl ?_
  have hm6 := (x_PS_at hPS (fun j hj hne => by have hj2 := x_some_lt hlt0 hne; exact (frn1 j)))
  refine q_getv (v := (6, 237, 0)) (p2 := 6) rfl hm6.1.choose_spec.1 (by decide) hm6.1.choose_spec.2.1 rfl ?_
  have hm7 := (x_sch_at hS (fun j h1 h2 => (frn1 j)))
  refine q_getv (v := (6, 246, 0)) (p2 := 7) rfl hm7.1.choose_spec.1 (by decide) hm7.1.choose_spec.2.2.2.1 rfl ?_
  refine q_const (p2 := 8) rfl rfl ?_
  refine q_aldv (v := (0, 5, 0)) (p2 := 9) rfl (x_sc_246 hm7) (by omega) (by omega) rfl rfl ?_
  refine q_icmp_s (p2 := 10) rfl (by decide) (by omega) (by omega) rfl (fun hb => absurd hb (show ¬ (¬ (1 < 5)) by omega)) (fun _ => ?_)
  refine q_load (v := (6, 468, 0)) (p2 := 11) rfl rfl rfl rfl ?_
  refine q_getv (v := (6, 7, 0)) (p2 := 12) rfl hm4.1 (by decide) rfl rfl ?_
  refine q_getv (v := (6, 237, 0)) (p2 := 13) rfl hm6.1.choose_spec.1 (by decide) hm6.1.choose_spec.2.1 rfl ?_
  refine q_getv (v := (6, 271, 0)) (p2 := 14) rfl hm7.1.choose_spec.1 (by decide) hm7.1.choose_spec.2.2.2.2.2.2.2.2.1 rfl ?_
  refine q_load (v := (0, 1, 0)) (p2 := 15) rfl rfl rfl rfl ?_
  refine q_aldv (v := (6, 273, 0)) (p2 := 16) rfl (x_sc_271 hm7) (by omega) (by omega) rfl rfl ?_
  refine q_store (loc2 := [(6, 468, 0), (0, x, 0), (0, 0, 0), (0, 1, 0), (6, 273, 0), (0, 0, 0)]) (p2 := 17) rfl rfl rfl rfl rfl ?_
  refine q_load (v := (6, 273, 0)) (p2 := 18) rfl rfl rfl rfl ?_
  refine q_const (p2 := 19) rfl rfl ?_
  refine q_aldv (v := (0, 0, 0)) (p2 := 20) rfl (x_sc_273 hm7) (by omega) (by omega) rfl rfl ?_
  refine q_store (loc2 := [(6, 468, 0), (0, x, 0), (0, 0, 0), (0, 1, 0), (6, 273, 0), (0, 0, 0)]) (p2 := 21) rfl rfl rfl rfl rfl ?_
  refine q_load (v := (6, 273, 0)) (p2 := 22) rfl rfl rfl rfl ?_
  refine q_const (p2 := 23) rfl rfl ?_
  refine q_aldv (v := (0, 0, 0)) (p2 := 24) rfl (x_sc_273 hm7) (by omega) (by omega) rfl rfl ?_
  refine q_load (v := (0, 0, 0)) (p2 := 25) rfl rfl rfl rfl ?_
  refine q_icmp_s (p2 := 26) rfl (by decide) (by omega) (by omega) rfl (fun hb => absurd hb (show ¬ (¬ (0 = 0)) by omega)) (fun _ => ?_)
  refine q_load (v := (0, 0, 0)) (p2 := 27) rfl rfl rfl rfl ?_
  refine q_const (p2 := 28) rfl rfl ?_
  refine q_icmp_s (p2 := 29) rfl (by decide) (by omega) (by omega) rfl (fun _ => ?_) (fun hb => absurd (show ¬ (0 = 2) by omega) hb)
  refine q_load (v := (6, 273, 0)) (p2 := 45) rfl rfl rfl rfl ?_
  refine q_const (p2 := 46) rfl rfl ?_
  refine q_aldv (v := (0, 0, 0)) (p2 := 47) rfl (x_sc_273 hm7) (by omega) (by omega) rfl rfl ?_
  refine q_load (v := (0, 0, 0)) (p2 := 48) rfl rfl rfl rfl ?_
  refine q_icmp_s (p2 := 49) rfl (by decide) (by omega) (by omega) rfl (fun hb => absurd hb (show ¬ (¬ (0 = 0)) by omega)) (fun _ => ?_)
  refine q_load (v := (0, 0, 0)) (p2 := 50) rfl rfl rfl rfl ?_
  refine q_if0_s (p2 := 51) rfl (by decide) (by omega) rfl (fun hb => absurd hb (show ¬ (¬ (0 = 0)) by omega)) (fun _ => ?_)
  refine q_load (v := (6, 468, 0)) (p2 := 52) rfl rfl rfl rfl ?_
  refine q_load (v := (6, 468, 0)) (p2 := 53) rfl rfl rfl rfl ?_
  refine q_getv (v := (6, 7, 0)) (p2 := 54) rfl hm4.1 (by decide) rfl rfl ?_
  refine q_load (v := (0, x, 0)) (p2 := 55) rfl rfl rfl rfl ?_
  refine q_load (v := (0, 1, 0)) (p2 := 56) rfl rfl rfl rfl ?_
  refine q_callrB (xs := [(0, 1, 0), (0, x, 0), (6, 7, 0)]) (p2 := 57) rfl rfl rfl rfl (x_rcv_s 7 hm6.1.choose_spec.1) rfl (e_heldByM hm6 (by omega) (by omega) h1) rfl (fun w8 φ8 n8 sl8 hn8 hN8 hs8 hT8 hR8 => ?_)
  obtain ⟨v8, hwv8, hV8, hphi8⟩ := hR8
  subst hwv8
  have frn8 : ∀ j, φ8 j = φ1 j := fun j => by rw [hphi8]
  refine x_n_lt (fun hlt9 => ?_)
  have hz10 := x_mv_lt hV8 hlt9
  have hy10 := hV8.1
  refine q_load (v := (6, 273, 0)) (p2 := 58) rfl rfl rfl rfl ?_
  have hm11 := (zq_J_at hm4 (frn8 468) (frn8 469) (frn8 470))
  refine q_callK (xs := [(6, 273, 0), (6, v8, 0), (6, 468, 0)]) (p2 := 59) rfl rfl rfl rfl (x_rcv_s 468 hm11.1) rfl rfl ?_
  refine x_f_of rfl ?_
  refine q_load (v := (6, v8, 0)) (p2 := 1) rfl rfl rfl rfl ?_
  obtain ⟨fA12, cA12, gA12, h8_12, hW12, hg12, hcA12, hgA12, hlA12, hLA12⟩ := x_mv_gA hV8
  have hl12 := hlt9 _ _ hW12
  have h6_12 := hV8.1
  have hlB12 : L.length ≤ 24 := hlA12
  refine q_getv (v := (0, 6, 0)) (p2 := 2) rfl hW12 (by decide) hg12.1 rfl ?_
  refine q_if0_s (p2 := 3) rfl (by decide) (by omega) rfl (fun _ => ?_) (fun hb => absurd (show ¬ (6 = 0) by omega) hb)
  refine q_load (v := (6, v8, 0)) (p2 := 13) rfl rfl rfl rfl ?_
  refine q_getv (v := (0, 6, 0)) (p2 := 14) rfl hW12 (by decide) hg12.1 rfl ?_
  refine q_const (p2 := 15) rfl rfl ?_
  refine q_icmp_s (p2 := 16) rfl (by decide) (by omega) (by omega) rfl (fun hb => absurd hb (show ¬ (¬ (6 = 6)) by omega)) (fun _ => ?_)
  refine q_load (v := (6, v8, 0)) (p2 := 17) rfl rfl rfl rfl ?_
  refine q_getv (v := (0, 3, 0)) (p2 := 18) rfl hW12 (by decide) hg12.2.2.1 rfl ?_
  refine q_if0_s (p2 := 19) rfl (by decide) (by omega) rfl (fun hb => absurd hb (show ¬ (3 = 0) by omega)) (fun _ => ?_)
  refine q_load (v := (6, 468, 0)) (p2 := 20) rfl rfl rfl rfl ?_
  refine q_load (v := (6, v8, 0)) (p2 := 21) rfl rfl rfl rfl ?_
  refine q_getv (v := (6, cA12, 0)) (p2 := 22) rfl hW12 (by decide) hg12.2.2.2.2.2.2 rfl ?_
  refine q_alen (p2 := 23) rfl hcA12 rfl (by omega) rfl ?_
  refine q_load (v := (6, 273, 0)) (p2 := 24) rfl rfl rfl rfl ?_
  refine q_const (p2 := 25) rfl rfl ?_
  have hm13 := (x_sch_at hm7 (fun j h1 h2 => (frn8 j)))
  refine q_aldv (v := (0, 1, 0)) (p2 := 26) rfl (x_sc_273 hm13) (by omega) (by omega) rfl rfl ?_
  refine q_callK (xs := [(0, 1, 0), (0, L.length, 0), (6, 468, 0)]) (p2 := 27) rfl rfl rfl rfl (x_rcv_s 468 hm11.1) rfl rfl ?_
  refine x_f_of rfl ?_
  refine q_load (v := (6, 468, 0)) (p2 := 1) rfl rfl rfl rfl ?_
  refine q_getv (v := (6, 7, 0)) (p2 := 2) rfl hm11.1 (by decide) rfl rfl ?_
  have hm14 := (x_PS_at hm6 (fun j hj hne => by have hj2 := x_some_lt hlt2 hne; exact (frn8 j)))
  refine q_getv (v := (6, 237, 0)) (p2 := 3) rfl hm14.1.choose_spec.1 (by decide) hm14.1.choose_spec.2.1 rfl ?_
  refine q_load (v := (0, 1, 0)) (p2 := 4) rfl rfl rfl rfl ?_
  refine q_const (p2 := 5) rfl rfl ?_
  refine q_callK (xs := [(0, 6, 0), (0, 1, 0), (6, 237, 0)]) (p2 := 6) rfl rfl rfl rfl (x_rcv_s 237 hm13.1.choose_spec.1) rfl rfl ?_
  refine x_f_of rfl ?_
  refine q_load (v := (0, 1, 0)) (p2 := 1) rfl rfl rfl rfl ?_
  refine q_if0_s (p2 := 2) rfl (by decide) (by omega) rfl (fun hb => absurd hb (show ¬ (1 < 0) by omega)) (fun _ => ?_)
  refine q_load (v := (0, 1, 0)) (p2 := 3) rfl rfl rfl rfl ?_
  refine q_load (v := (6, 237, 0)) (p2 := 4) rfl rfl rfl rfl ?_
  refine q_getv (v := (6, 312, 0)) (p2 := 5) rfl hm13.1.choose_spec.1 (by decide) hm13.1.choose_spec.2.2.2.2.2.2.2.2.2.1 rfl ?_
  refine q_alen (p2 := 6) rfl (x_sc_312 hm13) rfl (by omega) rfl ?_
  refine q_icmp_s (p2 := 7) rfl (by decide) (by omega) (by omega) rfl (fun hb => absurd hb (show ¬ (¬ (1 < 128)) by omega)) (fun _ => ?_)
  refine q_load (v := (0, 6, 0)) (p2 := 8) rfl rfl rfl rfl ?_
  refine q_if0_s (p2 := 9) rfl (by decide) (by omega) rfl (fun hb => absurd hb (show ¬ (6 < 0) by omega)) (fun _ => ?_)
  refine q_load (v := (0, 6, 0)) (p2 := 10) rfl rfl rfl rfl ?_
  refine q_const (p2 := 11) rfl rfl ?_
  refine q_icmp_s (p2 := 12) rfl (by decide) (by omega) (by omega) rfl (fun _ => ?_) (fun hb => absurd (show 6 < 9 by omega) hb)
  refine q_load (v := (6, 237, 0)) (p2 := 15) rfl rfl rfl rfl ?_
  refine q_getv (v := (6, 312, 0)) (p2 := 16) rfl hm13.1.choose_spec.1 (by decide) hm13.1.choose_spec.2.2.2.2.2.2.2.2.2.1 rfl ?_
  refine q_load (v := (0, 1, 0)) (p2 := 17) rfl rfl rfl rfl ?_
  refine q_aldv (v := (6, 314, 0)) (p2 := 18) rfl (x_sc_312 hm13) (by omega) (by omega) rfl rfl ?_
  refine q_load (v := (0, 6, 0)) (p2 := 19) rfl rfl rfl rfl ?_
  refine q_aldv (v := (0, 5, 0)) (p2 := 20) rfl (x_sc_314 hm13) (by omega) (by omega) rfl rfl ?_
  refine q_retv (v := (0, 5, 0)) rfl rfl ⟨rfl, by omega, by omega, ?_⟩
  refine q_store (loc2 := [(6, 468, 0), (0, L.length, 0), (0, 1, 0), (0, 5, 0)]) (p2 := 7) rfl rfl rfl rfl rfl ?_
  refine q_load (v := (0, L.length, 0)) (p2 := 8) rfl rfl rfl rfl ?_
  refine q_load (v := (6, 468, 0)) (p2 := 9) rfl rfl rfl rfl ?_
  refine q_getv (v := (6, 7, 0)) (p2 := 10) rfl hm11.1 (by decide) rfl rfl ?_
  refine q_getv (v := (6, 237, 0)) (p2 := 11) rfl hm14.1.choose_spec.1 (by decide) hm14.1.choose_spec.2.1 rfl ?_
  refine q_load (v := (0, 1, 0)) (p2 := 12) rfl rfl rfl rfl ?_
  refine q_const (p2 := 13) rfl rfl ?_
  refine q_callK (xs := [(0, 5, 0), (0, 1, 0), (6, 237, 0)]) (p2 := 14) rfl rfl rfl rfl (x_rcv_s 237 hm13.1.choose_spec.1) rfl rfl ?_
  refine x_f_of rfl ?_
  refine q_load (v := (0, 1, 0)) (p2 := 1) rfl rfl rfl rfl ?_
  refine q_if0_s (p2 := 2) rfl (by decide) (by omega) rfl (fun hb => absurd hb (show ¬ (1 < 0) by omega)) (fun _ => ?_)
  refine q_load (v := (0, 1, 0)) (p2 := 3) rfl rfl rfl rfl ?_
  refine q_load (v := (6, 237, 0)) (p2 := 4) rfl rfl rfl rfl ?_
  refine q_getv (v := (6, 312, 0)) (p2 := 5) rfl hm13.1.choose_spec.1 (by decide) hm13.1.choose_spec.2.2.2.2.2.2.2.2.2.1 rfl ?_
  refine q_alen (p2 := 6) rfl (x_sc_312 hm13) rfl (by omega) rfl ?_
  refine q_icmp_s (p2 := 7) rfl (by decide) (by omega) (by omega) rfl (fun hb => absurd hb (show ¬ (¬ (1 < 128)) by omega)) (fun _ => ?_)
  refine q_load (v := (0, 5, 0)) (p2 := 8) rfl rfl rfl rfl ?_
  refine q_if0_s (p2 := 9) rfl (by decide) (by omega) rfl (fun hb => absurd hb (show ¬ (5 < 0) by omega)) (fun _ => ?_)
  refine q_load (v := (0, 5, 0)) (p2 := 10) rfl rfl rfl rfl ?_
  refine q_const (p2 := 11) rfl rfl ?_
  refine q_icmp_s (p2 := 12) rfl (by decide) (by omega) (by omega) rfl (fun _ => ?_) (fun hb => absurd (show 5 < 9 by omega) hb)
  refine q_load (v := (6, 237, 0)) (p2 := 15) rfl rfl rfl rfl ?_
  refine q_getv (v := (6, 312, 0)) (p2 := 16) rfl hm13.1.choose_spec.1 (by decide) hm13.1.choose_spec.2.2.2.2.2.2.2.2.2.1 rfl ?_
  refine q_load (v := (0, 1, 0)) (p2 := 17) rfl rfl rfl rfl ?_
  refine q_aldv (v := (6, 314, 0)) (p2 := 18) rfl (x_sc_312 hm13) (by omega) (by omega) rfl rfl ?_
  refine q_load (v := (0, 5, 0)) (p2 := 19) rfl rfl rfl rfl ?_
  refine q_aldv (v := (0, 0, 0)) (p2 := 20) rfl (x_sc_314 hm13) (by omega) (by omega) rfl rfl ?_
  refine q_retv (v := (0, 0, 0)) rfl rfl ⟨rfl, by omega, by omega, ?_⟩
  refine q_icmp_s (p2 := 15) rfl (by decide) (by omega) (by omega) rfl (fun hb => absurd hb (show ¬ (L.length < 0) by omega)) (fun _ => ?_)
  refine q_load (v := (0, 5, 0)) (p2 := 16) rfl rfl rfl rfl ?_
  refine q_if0_s (p2 := 17) rfl (by decide) (by omega) rfl (fun hb => absurd hb (show ¬ (5 < 0) by omega)) (fun _ => ?_)
  refine q_load (v := (0, L.length, 0)) (p2 := 18) rfl rfl rfl rfl ?_
  refine q_load (v := (0, 5, 0)) (p2 := 19) rfl rfl rfl rfl ?_
  refine q_icmp_s (p2 := 20) rfl (by decide) (by omega) (by omega) rfl (fun hb => absurd hb (show ¬ (5 < L.length) by omega)) (fun _ => ?_)
  refine q_const (p2 := 21) rfl rfl ?_
  refine q_goto rfl ?_
  refine q_retv (v := (0, 1, 0)) rfl rfl ⟨rfl, by omega, by omega, ?_⟩
  refine q_if0_s (p2 := 28) rfl (by decide) (by omega) rfl (fun hb => absurd hb (show ¬ (1 = 0) by omega)) (fun _ => ?_)
  refine q_const (p2 := 29) rfl rfl ?_
  refine q_goto rfl ?_
  refine q_retv (v := (0, 1, 0)) rfl rfl ⟨rfl, by omega, by omega, ?_⟩
  refine q_if0_s (p2 := 60) rfl (by decide) (by omega) rfl (fun _ => ?_) (fun hb => absurd (show ¬ (1 = 0) by omega) hb)
  refine q_iinc (z := 2) (loc2 := [(6, 468, 0), (0, x, 0), (0, 0, 0), (0, 2, 0), (6, 273, 0), (0, 0, 0)]) (p2 := 63) rfl rfl (by decide) rfl rfl ?_
  refine q_goto rfl ?_
  refine q_load (v := (0, 2, 0)) (p2 := 3) rfl rfl rfl rfl ?_
  refine q_load (v := (6, 468, 0)) (p2 := 4) rfl rfl rfl rfl ?_
  refine q_getv (v := (6, 7, 0)) (p2 := 5) rfl hm11.1 (by decide) rfl rfl ?_
  refine q_getv (v := (6, 237, 0)) (p2 := 6) rfl hm14.1.choose_spec.1 (by decide) hm14.1.choose_spec.2.1 rfl ?_
  refine q_getv (v := (6, 246, 0)) (p2 := 7) rfl hm13.1.choose_spec.1 (by decide) hm13.1.choose_spec.2.2.2.1 rfl ?_
  refine q_const (p2 := 8) rfl rfl ?_
  refine q_aldv (v := (0, 5, 0)) (p2 := 9) rfl (x_sc_246 hm13) (by omega) (by omega) rfl rfl ?_
  refine q_icmp_s (p2 := 10) rfl (by decide) (by omega) (by omega) rfl (fun hb => absurd hb (show ¬ (¬ (2 < 5)) by omega)) (fun _ => ?_)
  refine q_load (v := (6, 468, 0)) (p2 := 11) rfl rfl rfl rfl ?_
  refine q_getv (v := (6, 7, 0)) (p2 := 12) rfl hm11.1 (by decide) rfl rfl ?_
  refine q_getv (v := (6, 237, 0)) (p2 := 13) rfl hm14.1.choose_spec.1 (by decide) hm14.1.choose_spec.2.1 rfl ?_
  refine q_getv (v := (6, 271, 0)) (p2 := 14) rfl hm13.1.choose_spec.1 (by decide) hm13.1.choose_spec.2.2.2.2.2.2.2.2.1 rfl ?_
  refine q_load (v := (0, 2, 0)) (p2 := 15) rfl rfl rfl rfl ?_
  refine q_aldv (v := (6, 274, 0)) (p2 := 16) rfl (x_sc_271 hm13) (by omega) (by omega) rfl rfl ?_
  refine q_store (loc2 := [(6, 468, 0), (0, x, 0), (0, 0, 0), (0, 2, 0), (6, 274, 0), (0, 0, 0)]) (p2 := 17) rfl rfl rfl rfl rfl ?_
  refine q_load (v := (6, 274, 0)) (p2 := 18) rfl rfl rfl rfl ?_
  refine q_const (p2 := 19) rfl rfl ?_
  refine q_aldv (v := (0, 1, 0)) (p2 := 20) rfl (x_sc_274 hm13) (by omega) (by omega) rfl rfl ?_
  refine q_store (loc2 := [(6, 468, 0), (0, x, 0), (0, 0, 0), (0, 2, 0), (6, 274, 0), (0, 1, 0)]) (p2 := 21) rfl rfl rfl rfl rfl ?_
  refine q_load (v := (6, 274, 0)) (p2 := 22) rfl rfl rfl rfl ?_
  refine q_const (p2 := 23) rfl rfl ?_
  refine q_aldv (v := (0, 0, 0)) (p2 := 24) rfl (x_sc_274 hm13) (by omega) (by omega) rfl rfl ?_
  refine q_load (v := (0, 0, 0)) (p2 := 25) rfl rfl rfl rfl ?_
  refine q_icmp_s (p2 := 26) rfl (by decide) (by omega) (by omega) rfl (fun hb => absurd hb (show ¬ (¬ (0 = 0)) by omega)) (fun _ => ?_)
  refine q_load (v := (0, 1, 0)) (p2 := 27) rfl rfl rfl rfl ?_
  refine q_const (p2 := 28) rfl rfl ?_
  refine q_icmp_s (p2 := 29) rfl (by decide) (by omega) (by omega) rfl (fun _ => ?_) (fun hb => absurd (show ¬ (1 = 2) by omega) hb)
  refine q_load (v := (6, 274, 0)) (p2 := 45) rfl rfl rfl rfl ?_
  refine q_const (p2 := 46) rfl rfl ?_
  refine q_aldv (v := (0, 0, 0)) (p2 := 47) rfl (x_sc_274 hm13) (by omega) (by omega) rfl rfl ?_
  refine q_load (v := (0, 0, 0)) (p2 := 48) rfl rfl rfl rfl ?_
  refine q_icmp_s (p2 := 49) rfl (by decide) (by omega) (by omega) rfl (fun hb => absurd hb (show ¬ (¬ (0 = 0)) by omega)) (fun _ => ?_)
  refine q_load (v := (0, 1, 0)) (p2 := 50) rfl rfl rfl rfl ?_
  refine q_if0_s (p2 := 51) rfl (by decide) (by omega) rfl (fun _ => ?_) (fun hb => absurd (show ¬ (1 = 0) by omega) hb)
  refine q_iinc (z := 3) (loc2 := [(6, 468, 0), (0, x, 0), (0, 0, 0), (0, 3, 0), (6, 274, 0), (0, 1, 0)]) (p2 := 63) rfl rfl (by decide) rfl rfl ?_
  refine q_goto rfl ?_
  refine q_load (v := (0, 3, 0)) (p2 := 3) rfl rfl rfl rfl ?_
  refine q_load (v := (6, 468, 0)) (p2 := 4) rfl rfl rfl rfl ?_
  refine q_getv (v := (6, 7, 0)) (p2 := 5) rfl hm11.1 (by decide) rfl rfl ?_
  refine q_getv (v := (6, 237, 0)) (p2 := 6) rfl hm14.1.choose_spec.1 (by decide) hm14.1.choose_spec.2.1 rfl ?_
  refine q_getv (v := (6, 246, 0)) (p2 := 7) rfl hm13.1.choose_spec.1 (by decide) hm13.1.choose_spec.2.2.2.1 rfl ?_
  refine q_const (p2 := 8) rfl rfl ?_
  refine q_aldv (v := (0, 5, 0)) (p2 := 9) rfl (x_sc_246 hm13) (by omega) (by omega) rfl rfl ?_
  refine q_icmp_s (p2 := 10) rfl (by decide) (by omega) (by omega) rfl (fun hb => absurd hb (show ¬ (¬ (3 < 5)) by omega)) (fun _ => ?_)
  refine q_load (v := (6, 468, 0)) (p2 := 11) rfl rfl rfl rfl ?_
  refine q_getv (v := (6, 7, 0)) (p2 := 12) rfl hm11.1 (by decide) rfl rfl ?_
  refine q_getv (v := (6, 237, 0)) (p2 := 13) rfl hm14.1.choose_spec.1 (by decide) hm14.1.choose_spec.2.1 rfl ?_
  refine q_getv (v := (6, 271, 0)) (p2 := 14) rfl hm13.1.choose_spec.1 (by decide) hm13.1.choose_spec.2.2.2.2.2.2.2.2.1 rfl ?_
  refine q_load (v := (0, 3, 0)) (p2 := 15) rfl rfl rfl rfl ?_
  refine q_aldv (v := (6, 275, 0)) (p2 := 16) rfl (x_sc_271 hm13) (by omega) (by omega) rfl rfl ?_
  refine q_store (loc2 := [(6, 468, 0), (0, x, 0), (0, 0, 0), (0, 3, 0), (6, 275, 0), (0, 1, 0)]) (p2 := 17) rfl rfl rfl rfl rfl ?_
  refine q_load (v := (6, 275, 0)) (p2 := 18) rfl rfl rfl rfl ?_
  refine q_const (p2 := 19) rfl rfl ?_
  refine q_aldv (v := (0, 0, 0)) (p2 := 20) rfl (x_sc_275 hm13) (by omega) (by omega) rfl rfl ?_
  refine q_store (loc2 := [(6, 468, 0), (0, x, 0), (0, 0, 0), (0, 3, 0), (6, 275, 0), (0, 0, 0)]) (p2 := 21) rfl rfl rfl rfl rfl ?_
  refine q_load (v := (6, 275, 0)) (p2 := 22) rfl rfl rfl rfl ?_
  refine q_const (p2 := 23) rfl rfl ?_
  refine q_aldv (v := (0, 1, 0)) (p2 := 24) rfl (x_sc_275 hm13) (by omega) (by omega) rfl rfl ?_
  refine q_load (v := (0, 0, 0)) (p2 := 25) rfl rfl rfl rfl ?_
  refine q_icmp_s (p2 := 26) rfl (by decide) (by omega) (by omega) rfl (fun _ => ?_) (fun hb => absurd (show ¬ (1 = 0) by omega) hb)
  refine q_load (v := (6, 275, 0)) (p2 := 45) rfl rfl rfl rfl ?_
  refine q_const (p2 := 46) rfl rfl ?_
  refine q_aldv (v := (0, 1, 0)) (p2 := 47) rfl (x_sc_275 hm13) (by omega) (by omega) rfl rfl ?_
  refine q_load (v := (0, 0, 0)) (p2 := 48) rfl rfl rfl rfl ?_
  refine q_icmp_s (p2 := 49) rfl (by decide) (by omega) (by omega) rfl (fun _ => ?_) (fun hb => absurd (show ¬ (1 = 0) by omega) hb)
  refine q_iinc (z := 4) (loc2 := [(6, 468, 0), (0, x, 0), (0, 0, 0), (0, 4, 0), (6, 275, 0), (0, 0, 0)]) (p2 := 63) rfl rfl (by decide) rfl rfl ?_
  refine q_goto rfl ?_
  refine q_load (v := (0, 4, 0)) (p2 := 3) rfl rfl rfl rfl ?_
  refine q_load (v := (6, 468, 0)) (p2 := 4) rfl rfl rfl rfl ?_
  refine q_getv (v := (6, 7, 0)) (p2 := 5) rfl hm11.1 (by decide) rfl rfl ?_
  refine q_getv (v := (6, 237, 0)) (p2 := 6) rfl hm14.1.choose_spec.1 (by decide) hm14.1.choose_spec.2.1 rfl ?_
  refine q_getv (v := (6, 246, 0)) (p2 := 7) rfl hm13.1.choose_spec.1 (by decide) hm13.1.choose_spec.2.2.2.1 rfl ?_
  refine q_const (p2 := 8) rfl rfl ?_
  refine q_aldv (v := (0, 5, 0)) (p2 := 9) rfl (x_sc_246 hm13) (by omega) (by omega) rfl rfl ?_
  refine q_icmp_s (p2 := 10) rfl (by decide) (by omega) (by omega) rfl (fun hb => absurd hb (show ¬ (¬ (4 < 5)) by omega)) (fun _ => ?_)
  refine q_load (v := (6, 468, 0)) (p2 := 11) rfl rfl rfl rfl ?_
  refine q_getv (v := (6, 7, 0)) (p2 := 12) rfl hm11.1 (by decide) rfl rfl ?_
  refine q_getv (v := (6, 237, 0)) (p2 := 13) rfl hm14.1.choose_spec.1 (by decide) hm14.1.choose_spec.2.1 rfl ?_
  refine q_getv (v := (6, 271, 0)) (p2 := 14) rfl hm13.1.choose_spec.1 (by decide) hm13.1.choose_spec.2.2.2.2.2.2.2.2.1 rfl ?_
  refine q_load (v := (0, 4, 0)) (p2 := 15) rfl rfl rfl rfl ?_
  refine q_aldv (v := (6, 276, 0)) (p2 := 16) rfl (x_sc_271 hm13) (by omega) (by omega) rfl rfl ?_
  refine q_store (loc2 := [(6, 468, 0), (0, x, 0), (0, 0, 0), (0, 4, 0), (6, 276, 0), (0, 0, 0)]) (p2 := 17) rfl rfl rfl rfl rfl ?_
  refine q_load (v := (6, 276, 0)) (p2 := 18) rfl rfl rfl rfl ?_
  refine q_const (p2 := 19) rfl rfl ?_
  refine q_aldv (v := (0, 2, 0)) (p2 := 20) rfl (x_sc_276 hm13) (by omega) (by omega) rfl rfl ?_
  refine q_store (loc2 := [(6, 468, 0), (0, x, 0), (0, 0, 0), (0, 4, 0), (6, 276, 0), (0, 2, 0)]) (p2 := 21) rfl rfl rfl rfl rfl ?_
  refine q_load (v := (6, 276, 0)) (p2 := 22) rfl rfl rfl rfl ?_
  refine q_const (p2 := 23) rfl rfl ?_
  refine q_aldv (v := (0, 2, 0)) (p2 := 24) rfl (x_sc_276 hm13) (by omega) (by omega) rfl rfl ?_
  refine q_load (v := (0, 0, 0)) (p2 := 25) rfl rfl rfl rfl ?_
  refine q_icmp_s (p2 := 26) rfl (by decide) (by omega) (by omega) rfl (fun _ => ?_) (fun hb => absurd (show ¬ (2 = 0) by omega) hb)
  refine q_load (v := (6, 276, 0)) (p2 := 45) rfl rfl rfl rfl ?_
  refine q_const (p2 := 46) rfl rfl ?_
  refine q_aldv (v := (0, 2, 0)) (p2 := 47) rfl (x_sc_276 hm13) (by omega) (by omega) rfl rfl ?_
  refine q_load (v := (0, 0, 0)) (p2 := 48) rfl rfl rfl rfl ?_
  refine q_icmp_s (p2 := 49) rfl (by decide) (by omega) (by omega) rfl (fun _ => ?_) (fun hb => absurd (show ¬ (2 = 0) by omega) hb)
  refine q_iinc (z := 5) (loc2 := [(6, 468, 0), (0, x, 0), (0, 0, 0), (0, 5, 0), (6, 276, 0), (0, 2, 0)]) (p2 := 63) rfl rfl (by decide) rfl rfl ?_
  refine q_goto rfl ?_
  refine q_load (v := (0, 5, 0)) (p2 := 3) rfl rfl rfl rfl ?_
  refine q_load (v := (6, 468, 0)) (p2 := 4) rfl rfl rfl rfl ?_
  refine q_getv (v := (6, 7, 0)) (p2 := 5) rfl hm11.1 (by decide) rfl rfl ?_
  refine q_getv (v := (6, 237, 0)) (p2 := 6) rfl hm14.1.choose_spec.1 (by decide) hm14.1.choose_spec.2.1 rfl ?_
  refine q_getv (v := (6, 246, 0)) (p2 := 7) rfl hm13.1.choose_spec.1 (by decide) hm13.1.choose_spec.2.2.2.1 rfl ?_
  refine q_const (p2 := 8) rfl rfl ?_
  refine q_aldv (v := (0, 5, 0)) (p2 := 9) rfl (x_sc_246 hm13) (by omega) (by omega) rfl rfl ?_
  refine q_icmp_s (p2 := 10) rfl (by decide) (by omega) (by omega) rfl (fun _ => ?_) (fun hb => absurd (show ¬ (5 < 5) by omega) hb)
  refine q_const (p2 := 65) rfl rfl ?_
  exact q_retv (v := (0, 1, 0)) rfl rfl (⟨rfl, rfl, funext (fun j => ((frn8 j).trans (frn1 j))), by omega, by omega⟩)
theorem zc_jb1_0 {d n sl : Nat} {φ : FH} {A : Nat} {B : Nat} {made : Nat} {sv : Nat} {svm : Nat} {s9 : Nat} {comb : Nat → Nat} {hm : Nat → MV} {noted : Nat} {verd : Nat} {ins : Nat → Nat} {ver : Nat → Nat} {x : Nat}  (hPS : x_PS φ A B made sv svm s9 comb hm) (hS : x_sch φ) (hJ : zq_J φ noted verd ins ver) (hn0 : 486 ≤ n) (hx : x < 40) (h3 : hm (x * 40 + 3) = MV0) : x_f x_P (d + 2) 121 [(6, 468, 0), (0, x, 0), (0, 1, 0), (11, 0, 0), (11, 0, 0), (11, 0, 0)] φ n sl (x_r φ n sl (0, 1, 0)) := by
  refine x_f_of rfl ?_
  refine x_n_lt (fun hlt0 => ?_)
  refine q_const (p2 := 1) rfl rfl ?_
  refine q_store (loc2 := [(6, 468, 0), (0, x, 0), (0, 1, 0), (0, 0, 0), (11, 0, 0), (11, 0, 0)]) (p2 := 2) rfl rfl rfl rfl rfl ?_
  refine q_load (v := (0, 0, 0)) (p2 := 3) rfl rfl rfl rfl ?_
  refine q_load (v := (6, 468, 0)) (p2 := 4) rfl rfl rfl rfl ?_
  refine q_getv (v := (6, 7, 0)) (p2 := 5) rfl hJ.1 (by decide) rfl rfl ?_
  refine q_getv (v := (6, 237, 0)) (p2 := 6) rfl hPS.1.choose_spec.1 (by decide) hPS.1.choose_spec.2.1 rfl ?_
  refine q_getv (v := (6, 246, 0)) (p2 := 7) rfl hS.1.choose_spec.1 (by decide) hS.1.choose_spec.2.2.2.1 rfl ?_
  refine q_const (p2 := 8) rfl rfl ?_
  refine q_aldv (v := (0, 5, 0)) (p2 := 9) rfl (x_sc_246 hS) (by omega) (by omega) rfl rfl ?_
  refine q_icmp_s (p2 := 10) rfl (by decide) (by omega) (by omega) rfl (fun hb => absurd hb (show ¬ (¬ (0 < 5)) by omega)) (fun _ => ?_)
  refine q_load (v := (6, 468, 0)) (p2 := 11) rfl rfl rfl rfl ?_
  refine q_getv (v := (6, 7, 0)) (p2 := 12) rfl hJ.1 (by decide) rfl rfl ?_
  refine q_getv (v := (6, 237, 0)) (p2 := 13) rfl hPS.1.choose_spec.1 (by decide) hPS.1.choose_spec.2.1 rfl ?_
  refine q_getv (v := (6, 271, 0)) (p2 := 14) rfl hS.1.choose_spec.1 (by decide) hS.1.choose_spec.2.2.2.2.2.2.2.2.1 rfl ?_
  refine q_load (v := (0, 0, 0)) (p2 := 15) rfl rfl rfl rfl ?_
  refine q_aldv (v := (6, 272, 0)) (p2 := 16) rfl (x_sc_271 hS) (by omega) (by omega) rfl rfl ?_
  refine q_store (loc2 := [(6, 468, 0), (0, x, 0), (0, 1, 0), (0, 0, 0), (6, 272, 0), (11, 0, 0)]) (p2 := 17) rfl rfl rfl rfl rfl ?_
  refine q_load (v := (6, 272, 0)) (p2 := 18) rfl rfl rfl rfl ?_
  refine q_const (p2 := 19) rfl rfl ?_
  refine q_aldv (v := (0, 0, 0)) (p2 := 20) rfl (x_sc_272 hS) (by omega) (by omega) rfl rfl ?_
  refine q_store (loc2 := [(6, 468, 0), (0, x, 0), (0, 1, 0), (0, 0, 0), (6, 272, 0), (0, 0, 0)]) (p2 := 21) rfl rfl rfl rfl rfl ?_
  refine q_load (v := (6, 272, 0)) (p2 := 22) rfl rfl rfl rfl ?_
  refine q_const (p2 := 23) rfl rfl ?_
  refine q_aldv (v := (0, 0, 0)) (p2 := 24) rfl (x_sc_272 hS) (by omega) (by omega) rfl rfl ?_
  refine q_load (v := (0, 1, 0)) (p2 := 25) rfl rfl rfl rfl ?_
  refine q_icmp_s (p2 := 26) rfl (by decide) (by omega) (by omega) rfl (fun _ => ?_) (fun hb => absurd (show ¬ (0 = 1) by omega) hb)
  refine q_load (v := (6, 272, 0)) (p2 := 45) rfl rfl rfl rfl ?_
  refine q_const (p2 := 46) rfl rfl ?_
  refine q_aldv (v := (0, 0, 0)) (p2 := 47) rfl (x_sc_272 hS) (by omega) (by omega) rfl rfl ?_
  refine q_load (v := (0, 1, 0)) (p2 := 48) rfl rfl rfl rfl ?_
  refine q_icmp_s (p2 := 49) rfl (by decide) (by omega) (by omega) rfl (fun _ => ?_) (fun hb => absurd (show ¬ (0 = 1) by omega) hb)
  refine q_iinc (z := 1) (loc2 := [(6, 468, 0), (0, x, 0), (0, 1, 0), (0, 1, 0), (6, 272, 0), (0, 0, 0)]) (p2 := 63) rfl rfl (by decide) rfl rfl ?_
  refine q_goto rfl ?_
  refine q_load (v := (0, 1, 0)) (p2 := 3) rfl rfl rfl rfl ?_
  refine q_load (v := (6, 468, 0)) (p2 := 4) rfl rfl rfl rfl ?_
  refine q_getv (v := (6, 7, 0)) (p2 := 5) rfl hJ.1 (by decide) rfl rfl ?_
  refine q_getv (v := (6, 237, 0)) (p2 := 6) rfl hPS.1.choose_spec.1 (by decide) hPS.1.choose_spec.2.1 rfl ?_
  refine q_getv (v := (6, 246, 0)) (p2 := 7) rfl hS.1.choose_spec.1 (by decide) hS.1.choose_spec.2.2.2.1 rfl ?_
  refine q_const (p2 := 8) rfl rfl ?_
  refine q_aldv (v := (0, 5, 0)) (p2 := 9) rfl (x_sc_246 hS) (by omega) (by omega) rfl rfl ?_
  refine q_icmp_s (p2 := 10) rfl (by decide) (by omega) (by omega) rfl (fun hb => absurd hb (show ¬ (¬ (1 < 5)) by omega)) (fun _ => ?_)
  refine q_load (v := (6, 468, 0)) (p2 := 11) rfl rfl rfl rfl ?_
  refine q_getv (v := (6, 7, 0)) (p2 := 12) rfl hJ.1 (by decide) rfl rfl ?_
  refine q_getv (v := (6, 237, 0)) (p2 := 13) rfl hPS.1.choose_spec.1 (by decide) hPS.1.choose_spec.2.1 rfl ?_
  refine q_getv (v := (6, 271, 0)) (p2 := 14) rfl hS.1.choose_spec.1 (by decide) hS.1.choose_spec.2.2.2.2.2.2.2.2.1 rfl ?_
  refine q_load (v := (0, 1, 0)) (p2 := 15) rfl rfl rfl rfl ?_
  refine q_aldv (v := (6, 273, 0)) (p2 := 16) rfl (x_sc_271 hS) (by omega) (by omega) rfl rfl ?_
  refine q_store (loc2 := [(6, 468, 0), (0, x, 0), (0, 1, 0), (0, 1, 0), (6, 273, 0), (0, 0, 0)]) (p2 := 17) rfl rfl rfl rfl rfl ?_
  refine q_load (v := (6, 273, 0)) (p2 := 18) rfl rfl rfl rfl ?_
  refine q_const (p2 := 19) rfl rfl ?_
  refine q_aldv (v := (0, 0, 0)) (p2 := 20) rfl (x_sc_273 hS) (by omega) (by omega) rfl rfl ?_
  refine q_store (loc2 := [(6, 468, 0), (0, x, 0), (0, 1, 0), (0, 1, 0), (6, 273, 0), (0, 0, 0)]) (p2 := 21) rfl rfl rfl rfl rfl ?_
  refine q_load (v := (6, 273, 0)) (p2 := 22) rfl rfl rfl rfl ?_
  refine q_const (p2 := 23) rfl rfl ?_
  refine q_aldv (v := (0, 0, 0)) (p2 := 24) rfl (x_sc_273 hS) (by omega) (by omega) rfl rfl ?_
  refine q_load (v := (0, 1, 0)) (p2 := 25) rfl rfl rfl rfl ?_
  refine q_icmp_s (p2 := 26) rfl (by decide) (by omega) (by omega) rfl (fun _ => ?_) (fun hb => absurd (show ¬ (0 = 1) by omega) hb)
  refine q_load (v := (6, 273, 0)) (p2 := 45) rfl rfl rfl rfl ?_
  refine q_const (p2 := 46) rfl rfl ?_
  refine q_aldv (v := (0, 0, 0)) (p2 := 47) rfl (x_sc_273 hS) (by omega) (by omega) rfl rfl ?_
  refine q_load (v := (0, 1, 0)) (p2 := 48) rfl rfl rfl rfl ?_
  refine q_icmp_s (p2 := 49) rfl (by decide) (by omega) (by omega) rfl (fun _ => ?_) (fun hb => absurd (show ¬ (0 = 1) by omega) hb)
  refine q_iinc (z := 2) (loc2 := [(6, 468, 0), (0, x, 0), (0, 1, 0), (0, 2, 0), (6, 273, 0), (0, 0, 0)]) (p2 := 63) rfl rfl (by decide) rfl rfl ?_
  refine q_goto rfl ?_
  refine q_load (v := (0, 2, 0)) (p2 := 3) rfl rfl rfl rfl ?_
  refine q_load (v := (6, 468, 0)) (p2 := 4) rfl rfl rfl rfl ?_
  refine q_getv (v := (6, 7, 0)) (p2 := 5) rfl hJ.1 (by decide) rfl rfl ?_
  refine q_getv (v := (6, 237, 0)) (p2 := 6) rfl hPS.1.choose_spec.1 (by decide) hPS.1.choose_spec.2.1 rfl ?_
  refine q_getv (v := (6, 246, 0)) (p2 := 7) rfl hS.1.choose_spec.1 (by decide) hS.1.choose_spec.2.2.2.1 rfl ?_
  refine q_const (p2 := 8) rfl rfl ?_
  refine q_aldv (v := (0, 5, 0)) (p2 := 9) rfl (x_sc_246 hS) (by omega) (by omega) rfl rfl ?_
  refine q_icmp_s (p2 := 10) rfl (by decide) (by omega) (by omega) rfl (fun hb => absurd hb (show ¬ (¬ (2 < 5)) by omega)) (fun _ => ?_)
  refine q_load (v := (6, 468, 0)) (p2 := 11) rfl rfl rfl rfl ?_
  refine q_getv (v := (6, 7, 0)) (p2 := 12) rfl hJ.1 (by decide) rfl rfl ?_
  refine q_getv (v := (6, 237, 0)) (p2 := 13) rfl hPS.1.choose_spec.1 (by decide) hPS.1.choose_spec.2.1 rfl ?_
  refine q_getv (v := (6, 271, 0)) (p2 := 14) rfl hS.1.choose_spec.1 (by decide) hS.1.choose_spec.2.2.2.2.2.2.2.2.1 rfl ?_
  refine q_load (v := (0, 2, 0)) (p2 := 15) rfl rfl rfl rfl ?_
  refine q_aldv (v := (6, 274, 0)) (p2 := 16) rfl (x_sc_271 hS) (by omega) (by omega) rfl rfl ?_
  refine q_store (loc2 := [(6, 468, 0), (0, x, 0), (0, 1, 0), (0, 2, 0), (6, 274, 0), (0, 0, 0)]) (p2 := 17) rfl rfl rfl rfl rfl ?_
  refine q_load (v := (6, 274, 0)) (p2 := 18) rfl rfl rfl rfl ?_
  refine q_const (p2 := 19) rfl rfl ?_
  refine q_aldv (v := (0, 1, 0)) (p2 := 20) rfl (x_sc_274 hS) (by omega) (by omega) rfl rfl ?_
  refine q_store (loc2 := [(6, 468, 0), (0, x, 0), (0, 1, 0), (0, 2, 0), (6, 274, 0), (0, 1, 0)]) (p2 := 21) rfl rfl rfl rfl rfl ?_
  refine q_load (v := (6, 274, 0)) (p2 := 22) rfl rfl rfl rfl ?_
  refine q_const (p2 := 23) rfl rfl ?_
  refine q_aldv (v := (0, 0, 0)) (p2 := 24) rfl (x_sc_274 hS) (by omega) (by omega) rfl rfl ?_
  refine q_load (v := (0, 1, 0)) (p2 := 25) rfl rfl rfl rfl ?_
  refine q_icmp_s (p2 := 26) rfl (by decide) (by omega) (by omega) rfl (fun _ => ?_) (fun hb => absurd (show ¬ (0 = 1) by omega) hb)
  refine q_load (v := (6, 274, 0)) (p2 := 45) rfl rfl rfl rfl ?_
  refine q_const (p2 := 46) rfl rfl ?_
  refine q_aldv (v := (0, 0, 0)) (p2 := 47) rfl (x_sc_274 hS) (by omega) (by omega) rfl rfl ?_
  refine q_load (v := (0, 1, 0)) (p2 := 48) rfl rfl rfl rfl ?_
  refine q_icmp_s (p2 := 49) rfl (by decide) (by omega) (by omega) rfl (fun _ => ?_) (fun hb => absurd (show ¬ (0 = 1) by omega) hb)
  refine q_iinc (z := 3) (loc2 := [(6, 468, 0), (0, x, 0), (0, 1, 0), (0, 3, 0), (6, 274, 0), (0, 1, 0)]) (p2 := 63) rfl rfl (by decide) rfl rfl ?_
  refine q_goto rfl ?_
  refine q_load (v := (0, 3, 0)) (p2 := 3) rfl rfl rfl rfl ?_
  refine q_load (v := (6, 468, 0)) (p2 := 4) rfl rfl rfl rfl ?_
  refine q_getv (v := (6, 7, 0)) (p2 := 5) rfl hJ.1 (by decide) rfl rfl ?_
  refine q_getv (v := (6, 237, 0)) (p2 := 6) rfl hPS.1.choose_spec.1 (by decide) hPS.1.choose_spec.2.1 rfl ?_
  refine q_getv (v := (6, 246, 0)) (p2 := 7) rfl hS.1.choose_spec.1 (by decide) hS.1.choose_spec.2.2.2.1 rfl ?_
  refine q_const (p2 := 8) rfl rfl ?_
  refine q_aldv (v := (0, 5, 0)) (p2 := 9) rfl (x_sc_246 hS) (by omega) (by omega) rfl rfl ?_
  refine q_icmp_s (p2 := 10) rfl (by decide) (by omega) (by omega) rfl (fun hb => absurd hb (show ¬ (¬ (3 < 5)) by omega)) (fun _ => ?_)
  refine q_load (v := (6, 468, 0)) (p2 := 11) rfl rfl rfl rfl ?_
  refine q_getv (v := (6, 7, 0)) (p2 := 12) rfl hJ.1 (by decide) rfl rfl ?_
  refine q_getv (v := (6, 237, 0)) (p2 := 13) rfl hPS.1.choose_spec.1 (by decide) hPS.1.choose_spec.2.1 rfl ?_
  refine q_getv (v := (6, 271, 0)) (p2 := 14) rfl hS.1.choose_spec.1 (by decide) hS.1.choose_spec.2.2.2.2.2.2.2.2.1 rfl ?_
  refine q_load (v := (0, 3, 0)) (p2 := 15) rfl rfl rfl rfl ?_
  refine q_aldv (v := (6, 275, 0)) (p2 := 16) rfl (x_sc_271 hS) (by omega) (by omega) rfl rfl ?_
  refine q_store (loc2 := [(6, 468, 0), (0, x, 0), (0, 1, 0), (0, 3, 0), (6, 275, 0), (0, 1, 0)]) (p2 := 17) rfl rfl rfl rfl rfl ?_
  refine q_load (v := (6, 275, 0)) (p2 := 18) rfl rfl rfl rfl ?_
  refine q_const (p2 := 19) rfl rfl ?_
  refine q_aldv (v := (0, 0, 0)) (p2 := 20) rfl (x_sc_275 hS) (by omega) (by omega) rfl rfl ?_
  refine q_store (loc2 := [(6, 468, 0), (0, x, 0), (0, 1, 0), (0, 3, 0), (6, 275, 0), (0, 0, 0)]) (p2 := 21) rfl rfl rfl rfl rfl ?_
  refine q_load (v := (6, 275, 0)) (p2 := 22) rfl rfl rfl rfl ?_
  refine q_const (p2 := 23) rfl rfl ?_
  refine q_aldv (v := (0, 1, 0)) (p2 := 24) rfl (x_sc_275 hS) (by omega) (by omega) rfl rfl ?_
  refine q_load (v := (0, 1, 0)) (p2 := 25) rfl rfl rfl rfl ?_
  refine q_icmp_s (p2 := 26) rfl (by decide) (by omega) (by omega) rfl (fun hb => absurd hb (show ¬ (¬ (1 = 1)) by omega)) (fun _ => ?_)
  refine q_load (v := (0, 0, 0)) (p2 := 27) rfl rfl rfl rfl ?_
  refine q_const (p2 := 28) rfl rfl ?_
  refine q_icmp_s (p2 := 29) rfl (by decide) (by omega) (by omega) rfl (fun _ => ?_) (fun hb => absurd (show ¬ (0 = 2) by omega) hb)
  refine q_load (v := (6, 275, 0)) (p2 := 45) rfl rfl rfl rfl ?_
  refine q_const (p2 := 46) rfl rfl ?_
  refine q_aldv (v := (0, 1, 0)) (p2 := 47) rfl (x_sc_275 hS) (by omega) (by omega) rfl rfl ?_
  refine q_load (v := (0, 1, 0)) (p2 := 48) rfl rfl rfl rfl ?_
  refine q_icmp_s (p2 := 49) rfl (by decide) (by omega) (by omega) rfl (fun hb => absurd hb (show ¬ (¬ (1 = 1)) by omega)) (fun _ => ?_)
  refine q_load (v := (0, 0, 0)) (p2 := 50) rfl rfl rfl rfl ?_
  refine q_if0_s (p2 := 51) rfl (by decide) (by omega) rfl (fun hb => absurd hb (show ¬ (¬ (0 = 0)) by omega)) (fun _ => ?_)
  refine q_load (v := (6, 468, 0)) (p2 := 52) rfl rfl rfl rfl ?_
  refine q_load (v := (6, 468, 0)) (p2 := 53) rfl rfl rfl rfl ?_
  refine q_getv (v := (6, 7, 0)) (p2 := 54) rfl hJ.1 (by decide) rfl rfl ?_
  refine q_load (v := (0, x, 0)) (p2 := 55) rfl rfl rfl rfl ?_
  refine q_load (v := (0, 3, 0)) (p2 := 56) rfl rfl rfl rfl ?_
  refine q_callrB (xs := [(0, 3, 0), (0, x, 0), (6, 7, 0)]) (p2 := 57) rfl rfl rfl rfl (x_rcv_s 7 hPS.1.choose_spec.1) rfl (e_heldByM hPS (by omega) (by omega) h3) rfl (fun w1 φ1 n1 sl1 hn1 hN1 hs1 hT1 hR1 => ?_)
  obtain ⟨v1, hwv1, hV1, hphi1⟩ := hR1
  subst hwv1
  have frn1 : ∀ j, φ1 j = φ j := fun j => by rw [hphi1]
  refine x_n_lt (fun hlt2 => ?_)
  have hz3 := x_mv_lt hV1 hlt2
  have hy3 := hV1.1
  refine q_load (v := (6, 275, 0)) (p2 := 58) rfl rfl rfl rfl ?_
  have hm4 := (zq_J_at hJ (frn1 468) (frn1 469) (frn1 470))
  refine q_callK (xs := [(6, 275, 0), (6, v1, 0), (6, 468, 0)]) (p2 := 59) rfl rfl rfl rfl (x_rcv_s 468 hm4.1) rfl rfl ?_
  refine x_f_of rfl ?_
  refine q_load (v := (6, v1, 0)) (p2 := 1) rfl rfl rfl rfl ?_
  obtain ⟨fV5, hW5, hg5⟩ := x_mv_gS hV1 (by decide)
  have hl5 := hlt2 _ _ hW5
  have h6_5 := hV1.1
  refine q_getv (v := (0, 0, 0)) (p2 := 2) rfl hW5 (by decide) hg5.1 rfl ?_
  refine q_if0_s (p2 := 3) rfl (by decide) (by omega) rfl (fun hb => absurd hb (show ¬ (¬ (0 = 0)) by omega)) (fun _ => ?_)
  refine q_load (v := (6, 275, 0)) (p2 := 4) rfl rfl rfl rfl ?_
  refine q_const (p2 := 5) rfl rfl ?_
  have hm6 := (x_sch_at hS (fun j h1 h2 => (frn1 j)))
  refine q_aldv (v := (0, 1, 0)) (p2 := 6) rfl (x_sc_275 hm6) (by omega) (by omega) rfl rfl ?_
  refine q_const (p2 := 7) rfl rfl ?_
  refine q_icmp_s (p2 := 8) rfl (by decide) (by omega) (by omega) rfl (fun hb => absurd hb (show ¬ (¬ (1 = 1)) by omega)) (fun _ => ?_)
  refine q_const (p2 := 9) rfl rfl ?_
  refine q_goto rfl ?_
  refine q_retv (v := (0, 1, 0)) rfl rfl ⟨rfl, by omega, by omega, ?_⟩
  refine q_if0_s (p2 := 60) rfl (by decide) (by omega) rfl (fun _ => ?_) (fun hb => absurd (show ¬ (1 = 0) by omega) hb)
  refine q_iinc (z := 4) (loc2 := [(6, 468, 0), (0, x, 0), (0, 1, 0), (0, 4, 0), (6, 275, 0), (0, 0, 0)]) (p2 := 63) rfl rfl (by decide) rfl rfl ?_
  refine q_goto rfl ?_
  refine q_load (v := (0, 4, 0)) (p2 := 3) rfl rfl rfl rfl ?_
  refine q_load (v := (6, 468, 0)) (p2 := 4) rfl rfl rfl rfl ?_
  refine q_getv (v := (6, 7, 0)) (p2 := 5) rfl hm4.1 (by decide) rfl rfl ?_
  have hm7 := (x_PS_at hPS (fun j hj hne => by have hj2 := x_some_lt hlt0 hne; exact (frn1 j)))
  refine q_getv (v := (6, 237, 0)) (p2 := 6) rfl hm7.1.choose_spec.1 (by decide) hm7.1.choose_spec.2.1 rfl ?_
  refine q_getv (v := (6, 246, 0)) (p2 := 7) rfl hm6.1.choose_spec.1 (by decide) hm6.1.choose_spec.2.2.2.1 rfl ?_
  refine q_const (p2 := 8) rfl rfl ?_
  refine q_aldv (v := (0, 5, 0)) (p2 := 9) rfl (x_sc_246 hm6) (by omega) (by omega) rfl rfl ?_
  refine q_icmp_s (p2 := 10) rfl (by decide) (by omega) (by omega) rfl (fun hb => absurd hb (show ¬ (¬ (4 < 5)) by omega)) (fun _ => ?_)
  refine q_load (v := (6, 468, 0)) (p2 := 11) rfl rfl rfl rfl ?_
  refine q_getv (v := (6, 7, 0)) (p2 := 12) rfl hm4.1 (by decide) rfl rfl ?_
  refine q_getv (v := (6, 237, 0)) (p2 := 13) rfl hm7.1.choose_spec.1 (by decide) hm7.1.choose_spec.2.1 rfl ?_
  refine q_getv (v := (6, 271, 0)) (p2 := 14) rfl hm6.1.choose_spec.1 (by decide) hm6.1.choose_spec.2.2.2.2.2.2.2.2.1 rfl ?_
  refine q_load (v := (0, 4, 0)) (p2 := 15) rfl rfl rfl rfl ?_
  refine q_aldv (v := (6, 276, 0)) (p2 := 16) rfl (x_sc_271 hm6) (by omega) (by omega) rfl rfl ?_
  refine q_store (loc2 := [(6, 468, 0), (0, x, 0), (0, 1, 0), (0, 4, 0), (6, 276, 0), (0, 0, 0)]) (p2 := 17) rfl rfl rfl rfl rfl ?_
  refine q_load (v := (6, 276, 0)) (p2 := 18) rfl rfl rfl rfl ?_
  refine q_const (p2 := 19) rfl rfl ?_
  refine q_aldv (v := (0, 2, 0)) (p2 := 20) rfl (x_sc_276 hm6) (by omega) (by omega) rfl rfl ?_
  refine q_store (loc2 := [(6, 468, 0), (0, x, 0), (0, 1, 0), (0, 4, 0), (6, 276, 0), (0, 2, 0)]) (p2 := 21) rfl rfl rfl rfl rfl ?_
  refine q_load (v := (6, 276, 0)) (p2 := 22) rfl rfl rfl rfl ?_
  refine q_const (p2 := 23) rfl rfl ?_
  refine q_aldv (v := (0, 2, 0)) (p2 := 24) rfl (x_sc_276 hm6) (by omega) (by omega) rfl rfl ?_
  refine q_load (v := (0, 1, 0)) (p2 := 25) rfl rfl rfl rfl ?_
  refine q_icmp_s (p2 := 26) rfl (by decide) (by omega) (by omega) rfl (fun _ => ?_) (fun hb => absurd (show ¬ (2 = 1) by omega) hb)
  refine q_load (v := (6, 276, 0)) (p2 := 45) rfl rfl rfl rfl ?_
  refine q_const (p2 := 46) rfl rfl ?_
  refine q_aldv (v := (0, 2, 0)) (p2 := 47) rfl (x_sc_276 hm6) (by omega) (by omega) rfl rfl ?_
  refine q_load (v := (0, 1, 0)) (p2 := 48) rfl rfl rfl rfl ?_
  refine q_icmp_s (p2 := 49) rfl (by decide) (by omega) (by omega) rfl (fun _ => ?_) (fun hb => absurd (show ¬ (2 = 1) by omega) hb)
  refine q_iinc (z := 5) (loc2 := [(6, 468, 0), (0, x, 0), (0, 1, 0), (0, 5, 0), (6, 276, 0), (0, 2, 0)]) (p2 := 63) rfl rfl (by decide) rfl rfl ?_
  refine q_goto rfl ?_
  refine q_load (v := (0, 5, 0)) (p2 := 3) rfl rfl rfl rfl ?_
  refine q_load (v := (6, 468, 0)) (p2 := 4) rfl rfl rfl rfl ?_
  refine q_getv (v := (6, 7, 0)) (p2 := 5) rfl hm4.1 (by decide) rfl rfl ?_
  refine q_getv (v := (6, 237, 0)) (p2 := 6) rfl hm7.1.choose_spec.1 (by decide) hm7.1.choose_spec.2.1 rfl ?_
  refine q_getv (v := (6, 246, 0)) (p2 := 7) rfl hm6.1.choose_spec.1 (by decide) hm6.1.choose_spec.2.2.2.1 rfl ?_
  refine q_const (p2 := 8) rfl rfl ?_
  refine q_aldv (v := (0, 5, 0)) (p2 := 9) rfl (x_sc_246 hm6) (by omega) (by omega) rfl rfl ?_
  refine q_icmp_s (p2 := 10) rfl (by decide) (by omega) (by omega) rfl (fun _ => ?_) (fun hb => absurd (show ¬ (5 < 5) by omega) hb)
  refine q_const (p2 := 65) rfl rfl ?_
  exact q_retv (v := (0, 1, 0)) rfl rfl (⟨rfl, rfl, funext (fun j => (frn1 j)), by omega, by omega⟩)
theorem zc_jb1_5 {d n sl : Nat} {φ : FH} {A : Nat} {B : Nat} {made : Nat} {sv : Nat} {svm : Nat} {s9 : Nat} {comb : Nat → Nat} {hm : Nat → MV} {noted : Nat} {verd : Nat} {ins : Nat → Nat} {ver : Nat → Nat} {x : Nat} {ka : Nat} (hPS : x_PS φ A B made sv svm s9 comb hm) (hS : x_sch φ) (hJ : zq_J φ noted verd ins ver) (hn0 : 486 ≤ n) (hx : x < 40) (h3 : hm (x * 40 + 3) = (5, ka, 0, 0, [])) : x_f x_P (d + 2) 121 [(6, 468, 0), (0, x, 0), (0, 1, 0), (11, 0, 0), (11, 0, 0), (11, 0, 0)] φ n sl (x_r φ n sl (0, 1, 0)) := by
  refine x_f_of rfl ?_
  refine x_n_lt (fun hlt0 => ?_)
  refine q_const (p2 := 1) rfl rfl ?_
  refine q_store (loc2 := [(6, 468, 0), (0, x, 0), (0, 1, 0), (0, 0, 0), (11, 0, 0), (11, 0, 0)]) (p2 := 2) rfl rfl rfl rfl rfl ?_
  refine q_load (v := (0, 0, 0)) (p2 := 3) rfl rfl rfl rfl ?_
  refine q_load (v := (6, 468, 0)) (p2 := 4) rfl rfl rfl rfl ?_
  refine q_getv (v := (6, 7, 0)) (p2 := 5) rfl hJ.1 (by decide) rfl rfl ?_
  refine q_getv (v := (6, 237, 0)) (p2 := 6) rfl hPS.1.choose_spec.1 (by decide) hPS.1.choose_spec.2.1 rfl ?_
  refine q_getv (v := (6, 246, 0)) (p2 := 7) rfl hS.1.choose_spec.1 (by decide) hS.1.choose_spec.2.2.2.1 rfl ?_
  refine q_const (p2 := 8) rfl rfl ?_
  refine q_aldv (v := (0, 5, 0)) (p2 := 9) rfl (x_sc_246 hS) (by omega) (by omega) rfl rfl ?_
  refine q_icmp_s (p2 := 10) rfl (by decide) (by omega) (by omega) rfl (fun hb => absurd hb (show ¬ (¬ (0 < 5)) by omega)) (fun _ => ?_)
  refine q_load (v := (6, 468, 0)) (p2 := 11) rfl rfl rfl rfl ?_
  refine q_getv (v := (6, 7, 0)) (p2 := 12) rfl hJ.1 (by decide) rfl rfl ?_
  refine q_getv (v := (6, 237, 0)) (p2 := 13) rfl hPS.1.choose_spec.1 (by decide) hPS.1.choose_spec.2.1 rfl ?_
  refine q_getv (v := (6, 271, 0)) (p2 := 14) rfl hS.1.choose_spec.1 (by decide) hS.1.choose_spec.2.2.2.2.2.2.2.2.1 rfl ?_
  refine q_load (v := (0, 0, 0)) (p2 := 15) rfl rfl rfl rfl ?_
  refine q_aldv (v := (6, 272, 0)) (p2 := 16) rfl (x_sc_271 hS) (by omega) (by omega) rfl rfl ?_
  refine q_store (loc2 := [(6, 468, 0), (0, x, 0), (0, 1, 0), (0, 0, 0), (6, 272, 0), (11, 0, 0)]) (p2 := 17) rfl rfl rfl rfl rfl ?_
  refine q_load (v := (6, 272, 0)) (p2 := 18) rfl rfl rfl rfl ?_
  refine q_const (p2 := 19) rfl rfl ?_
  refine q_aldv (v := (0, 0, 0)) (p2 := 20) rfl (x_sc_272 hS) (by omega) (by omega) rfl rfl ?_
  refine q_store (loc2 := [(6, 468, 0), (0, x, 0), (0, 1, 0), (0, 0, 0), (6, 272, 0), (0, 0, 0)]) (p2 := 21) rfl rfl rfl rfl rfl ?_
  refine q_load (v := (6, 272, 0)) (p2 := 22) rfl rfl rfl rfl ?_
  refine q_const (p2 := 23) rfl rfl ?_
  refine q_aldv (v := (0, 0, 0)) (p2 := 24) rfl (x_sc_272 hS) (by omega) (by omega) rfl rfl ?_
  refine q_load (v := (0, 1, 0)) (p2 := 25) rfl rfl rfl rfl ?_
  refine q_icmp_s (p2 := 26) rfl (by decide) (by omega) (by omega) rfl (fun _ => ?_) (fun hb => absurd (show ¬ (0 = 1) by omega) hb)
  refine q_load (v := (6, 272, 0)) (p2 := 45) rfl rfl rfl rfl ?_
  refine q_const (p2 := 46) rfl rfl ?_
  refine q_aldv (v := (0, 0, 0)) (p2 := 47) rfl (x_sc_272 hS) (by omega) (by omega) rfl rfl ?_
  refine q_load (v := (0, 1, 0)) (p2 := 48) rfl rfl rfl rfl ?_
  refine q_icmp_s (p2 := 49) rfl (by decide) (by omega) (by omega) rfl (fun _ => ?_) (fun hb => absurd (show ¬ (0 = 1) by omega) hb)
  refine q_iinc (z := 1) (loc2 := [(6, 468, 0), (0, x, 0), (0, 1, 0), (0, 1, 0), (6, 272, 0), (0, 0, 0)]) (p2 := 63) rfl rfl (by decide) rfl rfl ?_
  refine q_goto rfl ?_
  refine q_load (v := (0, 1, 0)) (p2 := 3) rfl rfl rfl rfl ?_
  refine q_load (v := (6, 468, 0)) (p2 := 4) rfl rfl rfl rfl ?_
  refine q_getv (v := (6, 7, 0)) (p2 := 5) rfl hJ.1 (by decide) rfl rfl ?_
  refine q_getv (v := (6, 237, 0)) (p2 := 6) rfl hPS.1.choose_spec.1 (by decide) hPS.1.choose_spec.2.1 rfl ?_
  refine q_getv (v := (6, 246, 0)) (p2 := 7) rfl hS.1.choose_spec.1 (by decide) hS.1.choose_spec.2.2.2.1 rfl ?_
  refine q_const (p2 := 8) rfl rfl ?_
  refine q_aldv (v := (0, 5, 0)) (p2 := 9) rfl (x_sc_246 hS) (by omega) (by omega) rfl rfl ?_
  refine q_icmp_s (p2 := 10) rfl (by decide) (by omega) (by omega) rfl (fun hb => absurd hb (show ¬ (¬ (1 < 5)) by omega)) (fun _ => ?_)
  refine q_load (v := (6, 468, 0)) (p2 := 11) rfl rfl rfl rfl ?_
  refine q_getv (v := (6, 7, 0)) (p2 := 12) rfl hJ.1 (by decide) rfl rfl ?_
  refine q_getv (v := (6, 237, 0)) (p2 := 13) rfl hPS.1.choose_spec.1 (by decide) hPS.1.choose_spec.2.1 rfl ?_
  refine q_getv (v := (6, 271, 0)) (p2 := 14) rfl hS.1.choose_spec.1 (by decide) hS.1.choose_spec.2.2.2.2.2.2.2.2.1 rfl ?_
  refine q_load (v := (0, 1, 0)) (p2 := 15) rfl rfl rfl rfl ?_
  refine q_aldv (v := (6, 273, 0)) (p2 := 16) rfl (x_sc_271 hS) (by omega) (by omega) rfl rfl ?_
  refine q_store (loc2 := [(6, 468, 0), (0, x, 0), (0, 1, 0), (0, 1, 0), (6, 273, 0), (0, 0, 0)]) (p2 := 17) rfl rfl rfl rfl rfl ?_
  refine q_load (v := (6, 273, 0)) (p2 := 18) rfl rfl rfl rfl ?_
  refine q_const (p2 := 19) rfl rfl ?_
  refine q_aldv (v := (0, 0, 0)) (p2 := 20) rfl (x_sc_273 hS) (by omega) (by omega) rfl rfl ?_
  refine q_store (loc2 := [(6, 468, 0), (0, x, 0), (0, 1, 0), (0, 1, 0), (6, 273, 0), (0, 0, 0)]) (p2 := 21) rfl rfl rfl rfl rfl ?_
  refine q_load (v := (6, 273, 0)) (p2 := 22) rfl rfl rfl rfl ?_
  refine q_const (p2 := 23) rfl rfl ?_
  refine q_aldv (v := (0, 0, 0)) (p2 := 24) rfl (x_sc_273 hS) (by omega) (by omega) rfl rfl ?_
  refine q_load (v := (0, 1, 0)) (p2 := 25) rfl rfl rfl rfl ?_
  refine q_icmp_s (p2 := 26) rfl (by decide) (by omega) (by omega) rfl (fun _ => ?_) (fun hb => absurd (show ¬ (0 = 1) by omega) hb)
  refine q_load (v := (6, 273, 0)) (p2 := 45) rfl rfl rfl rfl ?_
  refine q_const (p2 := 46) rfl rfl ?_
  refine q_aldv (v := (0, 0, 0)) (p2 := 47) rfl (x_sc_273 hS) (by omega) (by omega) rfl rfl ?_
  refine q_load (v := (0, 1, 0)) (p2 := 48) rfl rfl rfl rfl ?_
  refine q_icmp_s (p2 := 49) rfl (by decide) (by omega) (by omega) rfl (fun _ => ?_) (fun hb => absurd (show ¬ (0 = 1) by omega) hb)
  refine q_iinc (z := 2) (loc2 := [(6, 468, 0), (0, x, 0), (0, 1, 0), (0, 2, 0), (6, 273, 0), (0, 0, 0)]) (p2 := 63) rfl rfl (by decide) rfl rfl ?_
  refine q_goto rfl ?_
  refine q_load (v := (0, 2, 0)) (p2 := 3) rfl rfl rfl rfl ?_
  refine q_load (v := (6, 468, 0)) (p2 := 4) rfl rfl rfl rfl ?_
  refine q_getv (v := (6, 7, 0)) (p2 := 5) rfl hJ.1 (by decide) rfl rfl ?_
  refine q_getv (v := (6, 237, 0)) (p2 := 6) rfl hPS.1.choose_spec.1 (by decide) hPS.1.choose_spec.2.1 rfl ?_
  refine q_getv (v := (6, 246, 0)) (p2 := 7) rfl hS.1.choose_spec.1 (by decide) hS.1.choose_spec.2.2.2.1 rfl ?_
  refine q_const (p2 := 8) rfl rfl ?_
  refine q_aldv (v := (0, 5, 0)) (p2 := 9) rfl (x_sc_246 hS) (by omega) (by omega) rfl rfl ?_
  refine q_icmp_s (p2 := 10) rfl (by decide) (by omega) (by omega) rfl (fun hb => absurd hb (show ¬ (¬ (2 < 5)) by omega)) (fun _ => ?_)
  refine q_load (v := (6, 468, 0)) (p2 := 11) rfl rfl rfl rfl ?_
  refine q_getv (v := (6, 7, 0)) (p2 := 12) rfl hJ.1 (by decide) rfl rfl ?_
  refine q_getv (v := (6, 237, 0)) (p2 := 13) rfl hPS.1.choose_spec.1 (by decide) hPS.1.choose_spec.2.1 rfl ?_
  refine q_getv (v := (6, 271, 0)) (p2 := 14) rfl hS.1.choose_spec.1 (by decide) hS.1.choose_spec.2.2.2.2.2.2.2.2.1 rfl ?_
  refine q_load (v := (0, 2, 0)) (p2 := 15) rfl rfl rfl rfl ?_
  refine q_aldv (v := (6, 274, 0)) (p2 := 16) rfl (x_sc_271 hS) (by omega) (by omega) rfl rfl ?_
  refine q_store (loc2 := [(6, 468, 0), (0, x, 0), (0, 1, 0), (0, 2, 0), (6, 274, 0), (0, 0, 0)]) (p2 := 17) rfl rfl rfl rfl rfl ?_
  refine q_load (v := (6, 274, 0)) (p2 := 18) rfl rfl rfl rfl ?_
  refine q_const (p2 := 19) rfl rfl ?_
  refine q_aldv (v := (0, 1, 0)) (p2 := 20) rfl (x_sc_274 hS) (by omega) (by omega) rfl rfl ?_
  refine q_store (loc2 := [(6, 468, 0), (0, x, 0), (0, 1, 0), (0, 2, 0), (6, 274, 0), (0, 1, 0)]) (p2 := 21) rfl rfl rfl rfl rfl ?_
  refine q_load (v := (6, 274, 0)) (p2 := 22) rfl rfl rfl rfl ?_
  refine q_const (p2 := 23) rfl rfl ?_
  refine q_aldv (v := (0, 0, 0)) (p2 := 24) rfl (x_sc_274 hS) (by omega) (by omega) rfl rfl ?_
  refine q_load (v := (0, 1, 0)) (p2 := 25) rfl rfl rfl rfl ?_
  refine q_icmp_s (p2 := 26) rfl (by decide) (by omega) (by omega) rfl (fun _ => ?_) (fun hb => absurd (show ¬ (0 = 1) by omega) hb)
  refine q_load (v := (6, 274, 0)) (p2 := 45) rfl rfl rfl rfl ?_
  refine q_const (p2 := 46) rfl rfl ?_
  refine q_aldv (v := (0, 0, 0)) (p2 := 47) rfl (x_sc_274 hS) (by omega) (by omega) rfl rfl ?_
  refine q_load (v := (0, 1, 0)) (p2 := 48) rfl rfl rfl rfl ?_
  refine q_icmp_s (p2 := 49) rfl (by decide) (by omega) (by omega) rfl (fun _ => ?_) (fun hb => absurd (show ¬ (0 = 1) by omega) hb)
  refine q_iinc (z := 3) (loc2 := [(6, 468, 0), (0, x, 0), (0, 1, 0), (0, 3, 0), (6, 274, 0), (0, 1, 0)]) (p2 := 63) rfl rfl (by decide) rfl rfl ?_
  refine q_goto rfl ?_
  refine q_load (v := (0, 3, 0)) (p2 := 3) rfl rfl rfl rfl ?_
  refine q_load (v := (6, 468, 0)) (p2 := 4) rfl rfl rfl rfl ?_
  refine q_getv (v := (6, 7, 0)) (p2 := 5) rfl hJ.1 (by decide) rfl rfl ?_
  refine q_getv (v := (6, 237, 0)) (p2 := 6) rfl hPS.1.choose_spec.1 (by decide) hPS.1.choose_spec.2.1 rfl ?_
  refine q_getv (v := (6, 246, 0)) (p2 := 7) rfl hS.1.choose_spec.1 (by decide) hS.1.choose_spec.2.2.2.1 rfl ?_
  refine q_const (p2 := 8) rfl rfl ?_
  refine q_aldv (v := (0, 5, 0)) (p2 := 9) rfl (x_sc_246 hS) (by omega) (by omega) rfl rfl ?_
  refine q_icmp_s (p2 := 10) rfl (by decide) (by omega) (by omega) rfl (fun hb => absurd hb (show ¬ (¬ (3 < 5)) by omega)) (fun _ => ?_)
  refine q_load (v := (6, 468, 0)) (p2 := 11) rfl rfl rfl rfl ?_
  refine q_getv (v := (6, 7, 0)) (p2 := 12) rfl hJ.1 (by decide) rfl rfl ?_
  refine q_getv (v := (6, 237, 0)) (p2 := 13) rfl hPS.1.choose_spec.1 (by decide) hPS.1.choose_spec.2.1 rfl ?_
  refine q_getv (v := (6, 271, 0)) (p2 := 14) rfl hS.1.choose_spec.1 (by decide) hS.1.choose_spec.2.2.2.2.2.2.2.2.1 rfl ?_
  refine q_load (v := (0, 3, 0)) (p2 := 15) rfl rfl rfl rfl ?_
  refine q_aldv (v := (6, 275, 0)) (p2 := 16) rfl (x_sc_271 hS) (by omega) (by omega) rfl rfl ?_
  refine q_store (loc2 := [(6, 468, 0), (0, x, 0), (0, 1, 0), (0, 3, 0), (6, 275, 0), (0, 1, 0)]) (p2 := 17) rfl rfl rfl rfl rfl ?_
  refine q_load (v := (6, 275, 0)) (p2 := 18) rfl rfl rfl rfl ?_
  refine q_const (p2 := 19) rfl rfl ?_
  refine q_aldv (v := (0, 0, 0)) (p2 := 20) rfl (x_sc_275 hS) (by omega) (by omega) rfl rfl ?_
  refine q_store (loc2 := [(6, 468, 0), (0, x, 0), (0, 1, 0), (0, 3, 0), (6, 275, 0), (0, 0, 0)]) (p2 := 21) rfl rfl rfl rfl rfl ?_
  refine q_load (v := (6, 275, 0)) (p2 := 22) rfl rfl rfl rfl ?_
  refine q_const (p2 := 23) rfl rfl ?_
  refine q_aldv (v := (0, 1, 0)) (p2 := 24) rfl (x_sc_275 hS) (by omega) (by omega) rfl rfl ?_
  refine q_load (v := (0, 1, 0)) (p2 := 25) rfl rfl rfl rfl ?_
  refine q_icmp_s (p2 := 26) rfl (by decide) (by omega) (by omega) rfl (fun hb => absurd hb (show ¬ (¬ (1 = 1)) by omega)) (fun _ => ?_)
  refine q_load (v := (0, 0, 0)) (p2 := 27) rfl rfl rfl rfl ?_
  refine q_const (p2 := 28) rfl rfl ?_
  refine q_icmp_s (p2 := 29) rfl (by decide) (by omega) (by omega) rfl (fun _ => ?_) (fun hb => absurd (show ¬ (0 = 2) by omega) hb)
  refine q_load (v := (6, 275, 0)) (p2 := 45) rfl rfl rfl rfl ?_
  refine q_const (p2 := 46) rfl rfl ?_
  refine q_aldv (v := (0, 1, 0)) (p2 := 47) rfl (x_sc_275 hS) (by omega) (by omega) rfl rfl ?_
  refine q_load (v := (0, 1, 0)) (p2 := 48) rfl rfl rfl rfl ?_
  refine q_icmp_s (p2 := 49) rfl (by decide) (by omega) (by omega) rfl (fun hb => absurd hb (show ¬ (¬ (1 = 1)) by omega)) (fun _ => ?_)
  refine q_load (v := (0, 0, 0)) (p2 := 50) rfl rfl rfl rfl ?_
  refine q_if0_s (p2 := 51) rfl (by decide) (by omega) rfl (fun hb => absurd hb (show ¬ (¬ (0 = 0)) by omega)) (fun _ => ?_)
  refine q_load (v := (6, 468, 0)) (p2 := 52) rfl rfl rfl rfl ?_
  refine q_load (v := (6, 468, 0)) (p2 := 53) rfl rfl rfl rfl ?_
  refine q_getv (v := (6, 7, 0)) (p2 := 54) rfl hJ.1 (by decide) rfl rfl ?_
  refine q_load (v := (0, x, 0)) (p2 := 55) rfl rfl rfl rfl ?_
  refine q_load (v := (0, 3, 0)) (p2 := 56) rfl rfl rfl rfl ?_
  refine q_callrB (xs := [(0, 3, 0), (0, x, 0), (6, 7, 0)]) (p2 := 57) rfl rfl rfl rfl (x_rcv_s 7 hPS.1.choose_spec.1) rfl (e_heldByM hPS (by omega) (by omega) h3) rfl (fun w1 φ1 n1 sl1 hn1 hN1 hs1 hT1 hR1 => ?_)
  obtain ⟨v1, hwv1, hV1, hphi1⟩ := hR1
  subst hwv1
  have frn1 : ∀ j, φ1 j = φ j := fun j => by rw [hphi1]
  refine x_n_lt (fun hlt2 => ?_)
  have hz3 := x_mv_lt hV1 hlt2
  have hy3 := hV1.1
  refine q_load (v := (6, 275, 0)) (p2 := 58) rfl rfl rfl rfl ?_
  have hm4 := (zq_J_at hJ (frn1 468) (frn1 469) (frn1 470))
  refine q_callK (xs := [(6, 275, 0), (6, v1, 0), (6, 468, 0)]) (p2 := 59) rfl rfl rfl rfl (x_rcv_s 468 hm4.1) rfl rfl ?_
  refine x_f_of rfl ?_
  refine q_load (v := (6, v1, 0)) (p2 := 1) rfl rfl rfl rfl ?_
  obtain ⟨fV5, hW5, hg5⟩ := x_mv_gS hV1 (by decide)
  have hl5 := hlt2 _ _ hW5
  have h6_5 := hV1.1
  refine q_getv (v := (0, 5, 0)) (p2 := 2) rfl hW5 (by decide) hg5.1 rfl ?_
  refine q_if0_s (p2 := 3) rfl (by decide) (by omega) rfl (fun _ => ?_) (fun hb => absurd (show ¬ (5 = 0) by omega) hb)
  refine q_load (v := (6, v1, 0)) (p2 := 13) rfl rfl rfl rfl ?_
  refine q_getv (v := (0, 5, 0)) (p2 := 14) rfl hW5 (by decide) hg5.1 rfl ?_
  refine q_const (p2 := 15) rfl rfl ?_
  refine q_icmp_s (p2 := 16) rfl (by decide) (by omega) (by omega) rfl (fun _ => ?_) (fun hb => absurd (show ¬ (5 = 6) by omega) hb)
  refine q_const (p2 := 29) rfl rfl ?_
  refine q_goto rfl ?_
  refine q_retv (v := (0, 1, 0)) rfl rfl ⟨rfl, by omega, by omega, ?_⟩
  refine q_if0_s (p2 := 60) rfl (by decide) (by omega) rfl (fun _ => ?_) (fun hb => absurd (show ¬ (1 = 0) by omega) hb)
  refine q_iinc (z := 4) (loc2 := [(6, 468, 0), (0, x, 0), (0, 1, 0), (0, 4, 0), (6, 275, 0), (0, 0, 0)]) (p2 := 63) rfl rfl (by decide) rfl rfl ?_
  refine q_goto rfl ?_
  refine q_load (v := (0, 4, 0)) (p2 := 3) rfl rfl rfl rfl ?_
  refine q_load (v := (6, 468, 0)) (p2 := 4) rfl rfl rfl rfl ?_
  refine q_getv (v := (6, 7, 0)) (p2 := 5) rfl hm4.1 (by decide) rfl rfl ?_
  have hm6 := (x_PS_at hPS (fun j hj hne => by have hj2 := x_some_lt hlt0 hne; exact (frn1 j)))
  refine q_getv (v := (6, 237, 0)) (p2 := 6) rfl hm6.1.choose_spec.1 (by decide) hm6.1.choose_spec.2.1 rfl ?_
  have hm7 := (x_sch_at hS (fun j h1 h2 => (frn1 j)))
  refine q_getv (v := (6, 246, 0)) (p2 := 7) rfl hm7.1.choose_spec.1 (by decide) hm7.1.choose_spec.2.2.2.1 rfl ?_
  refine q_const (p2 := 8) rfl rfl ?_
  refine q_aldv (v := (0, 5, 0)) (p2 := 9) rfl (x_sc_246 hm7) (by omega) (by omega) rfl rfl ?_
  refine q_icmp_s (p2 := 10) rfl (by decide) (by omega) (by omega) rfl (fun hb => absurd hb (show ¬ (¬ (4 < 5)) by omega)) (fun _ => ?_)
  refine q_load (v := (6, 468, 0)) (p2 := 11) rfl rfl rfl rfl ?_
  refine q_getv (v := (6, 7, 0)) (p2 := 12) rfl hm4.1 (by decide) rfl rfl ?_
  refine q_getv (v := (6, 237, 0)) (p2 := 13) rfl hm6.1.choose_spec.1 (by decide) hm6.1.choose_spec.2.1 rfl ?_
  refine q_getv (v := (6, 271, 0)) (p2 := 14) rfl hm7.1.choose_spec.1 (by decide) hm7.1.choose_spec.2.2.2.2.2.2.2.2.1 rfl ?_
  refine q_load (v := (0, 4, 0)) (p2 := 15) rfl rfl rfl rfl ?_
  refine q_aldv (v := (6, 276, 0)) (p2 := 16) rfl (x_sc_271 hm7) (by omega) (by omega) rfl rfl ?_
  refine q_store (loc2 := [(6, 468, 0), (0, x, 0), (0, 1, 0), (0, 4, 0), (6, 276, 0), (0, 0, 0)]) (p2 := 17) rfl rfl rfl rfl rfl ?_
  refine q_load (v := (6, 276, 0)) (p2 := 18) rfl rfl rfl rfl ?_
  refine q_const (p2 := 19) rfl rfl ?_
  refine q_aldv (v := (0, 2, 0)) (p2 := 20) rfl (x_sc_276 hm7) (by omega) (by omega) rfl rfl ?_
  refine q_store (loc2 := [(6, 468, 0), (0, x, 0), (0, 1, 0), (0, 4, 0), (6, 276, 0), (0, 2, 0)]) (p2 := 21) rfl rfl rfl rfl rfl ?_
  refine q_load (v := (6, 276, 0)) (p2 := 22) rfl rfl rfl rfl ?_
  refine q_const (p2 := 23) rfl rfl ?_
  refine q_aldv (v := (0, 2, 0)) (p2 := 24) rfl (x_sc_276 hm7) (by omega) (by omega) rfl rfl ?_
  refine q_load (v := (0, 1, 0)) (p2 := 25) rfl rfl rfl rfl ?_
  refine q_icmp_s (p2 := 26) rfl (by decide) (by omega) (by omega) rfl (fun _ => ?_) (fun hb => absurd (show ¬ (2 = 1) by omega) hb)
  refine q_load (v := (6, 276, 0)) (p2 := 45) rfl rfl rfl rfl ?_
  refine q_const (p2 := 46) rfl rfl ?_
  refine q_aldv (v := (0, 2, 0)) (p2 := 47) rfl (x_sc_276 hm7) (by omega) (by omega) rfl rfl ?_
  refine q_load (v := (0, 1, 0)) (p2 := 48) rfl rfl rfl rfl ?_
  refine q_icmp_s (p2 := 49) rfl (by decide) (by omega) (by omega) rfl (fun _ => ?_) (fun hb => absurd (show ¬ (2 = 1) by omega) hb)
  refine q_iinc (z := 5) (loc2 := [(6, 468, 0), (0, x, 0), (0, 1, 0), (0, 5, 0), (6, 276, 0), (0, 2, 0)]) (p2 := 63) rfl rfl (by decide) rfl rfl ?_
  refine q_goto rfl ?_
  refine q_load (v := (0, 5, 0)) (p2 := 3) rfl rfl rfl rfl ?_
  refine q_load (v := (6, 468, 0)) (p2 := 4) rfl rfl rfl rfl ?_
  refine q_getv (v := (6, 7, 0)) (p2 := 5) rfl hm4.1 (by decide) rfl rfl ?_
  refine q_getv (v := (6, 237, 0)) (p2 := 6) rfl hm6.1.choose_spec.1 (by decide) hm6.1.choose_spec.2.1 rfl ?_
  refine q_getv (v := (6, 246, 0)) (p2 := 7) rfl hm7.1.choose_spec.1 (by decide) hm7.1.choose_spec.2.2.2.1 rfl ?_
  refine q_const (p2 := 8) rfl rfl ?_
  refine q_aldv (v := (0, 5, 0)) (p2 := 9) rfl (x_sc_246 hm7) (by omega) (by omega) rfl rfl ?_
  refine q_icmp_s (p2 := 10) rfl (by decide) (by omega) (by omega) rfl (fun _ => ?_) (fun hb => absurd (show ¬ (5 < 5) by omega) hb)
  refine q_const (p2 := 65) rfl rfl ?_
  exact q_retv (v := (0, 1, 0)) rfl rfl (⟨rfl, rfl, funext (fun j => (frn1 j)), by omega, by omega⟩)
theorem zc_jb2_y {d n sl : Nat} {φ : FH} {A : Nat} {B : Nat} {made : Nat} {sv : Nat} {svm : Nat} {s9 : Nat} {comb : Nat → Nat} {hm : Nat → MV} {noted : Nat} {verd : Nat} {ins : Nat → Nat} {ver : Nat → Nat} {x : Nat}  (hPS : x_PS φ A B made sv svm s9 comb hm) (hS : x_sch φ) (hJ : zq_J φ noted verd ins ver) (hn0 : 486 ≤ n) (hx : x < 40) (hcu : (x_fl (fun y => comb y ≠ 0 ∧ x_ho (hm (y * 40 + 3)) x) made).length ≤ 1) : x_f x_P (d + 4) 121 [(6, 468, 0), (0, x, 0), (0, 2, 0), (11, 0, 0), (11, 0, 0), (11, 0, 0)] φ n sl (x_r φ n sl (0, 1, 0)) := by
  refine x_f_of rfl ?_
  refine x_n_lt (fun hlt0 => ?_)
  refine q_const (p2 := 1) rfl rfl ?_
  refine q_store (loc2 := [(6, 468, 0), (0, x, 0), (0, 2, 0), (0, 0, 0), (11, 0, 0), (11, 0, 0)]) (p2 := 2) rfl rfl rfl rfl rfl ?_
  refine q_load (v := (0, 0, 0)) (p2 := 3) rfl rfl rfl rfl ?_
  refine q_load (v := (6, 468, 0)) (p2 := 4) rfl rfl rfl rfl ?_
  refine q_getv (v := (6, 7, 0)) (p2 := 5) rfl hJ.1 (by decide) rfl rfl ?_
  refine q_getv (v := (6, 237, 0)) (p2 := 6) rfl hPS.1.choose_spec.1 (by decide) hPS.1.choose_spec.2.1 rfl ?_
  refine q_getv (v := (6, 246, 0)) (p2 := 7) rfl hS.1.choose_spec.1 (by decide) hS.1.choose_spec.2.2.2.1 rfl ?_
  refine q_const (p2 := 8) rfl rfl ?_
  refine q_aldv (v := (0, 5, 0)) (p2 := 9) rfl (x_sc_246 hS) (by omega) (by omega) rfl rfl ?_
  refine q_icmp_s (p2 := 10) rfl (by decide) (by omega) (by omega) rfl (fun hb => absurd hb (show ¬ (¬ (0 < 5)) by omega)) (fun _ => ?_)
  refine q_load (v := (6, 468, 0)) (p2 := 11) rfl rfl rfl rfl ?_
  refine q_getv (v := (6, 7, 0)) (p2 := 12) rfl hJ.1 (by decide) rfl rfl ?_
  refine q_getv (v := (6, 237, 0)) (p2 := 13) rfl hPS.1.choose_spec.1 (by decide) hPS.1.choose_spec.2.1 rfl ?_
  refine q_getv (v := (6, 271, 0)) (p2 := 14) rfl hS.1.choose_spec.1 (by decide) hS.1.choose_spec.2.2.2.2.2.2.2.2.1 rfl ?_
  refine q_load (v := (0, 0, 0)) (p2 := 15) rfl rfl rfl rfl ?_
  refine q_aldv (v := (6, 272, 0)) (p2 := 16) rfl (x_sc_271 hS) (by omega) (by omega) rfl rfl ?_
  refine q_store (loc2 := [(6, 468, 0), (0, x, 0), (0, 2, 0), (0, 0, 0), (6, 272, 0), (11, 0, 0)]) (p2 := 17) rfl rfl rfl rfl rfl ?_
  refine q_load (v := (6, 272, 0)) (p2 := 18) rfl rfl rfl rfl ?_
  refine q_const (p2 := 19) rfl rfl ?_
  refine q_aldv (v := (0, 0, 0)) (p2 := 20) rfl (x_sc_272 hS) (by omega) (by omega) rfl rfl ?_
  refine q_store (loc2 := [(6, 468, 0), (0, x, 0), (0, 2, 0), (0, 0, 0), (6, 272, 0), (0, 0, 0)]) (p2 := 21) rfl rfl rfl rfl rfl ?_
  refine q_load (v := (6, 272, 0)) (p2 := 22) rfl rfl rfl rfl ?_
  refine q_const (p2 := 23) rfl rfl ?_
  refine q_aldv (v := (0, 0, 0)) (p2 := 24) rfl (x_sc_272 hS) (by omega) (by omega) rfl rfl ?_
  refine q_load (v := (0, 2, 0)) (p2 := 25) rfl rfl rfl rfl ?_
  refine q_icmp_s (p2 := 26) rfl (by decide) (by omega) (by omega) rfl (fun _ => ?_) (fun hb => absurd (show ¬ (0 = 2) by omega) hb)
  refine q_load (v := (6, 272, 0)) (p2 := 45) rfl rfl rfl rfl ?_
  refine q_const (p2 := 46) rfl rfl ?_
  refine q_aldv (v := (0, 0, 0)) (p2 := 47) rfl (x_sc_272 hS) (by omega) (by omega) rfl rfl ?_
  refine q_load (v := (0, 2, 0)) (p2 := 48) rfl rfl rfl rfl ?_
  refine q_icmp_s (p2 := 49) rfl (by decide) (by omega) (by omega) rfl (fun _ => ?_) (fun hb => absurd (show ¬ (0 = 2) by omega) hb)
  refine q_iinc (z := 1) (loc2 := [(6, 468, 0), (0, x, 0), (0, 2, 0), (0, 1, 0), (6, 272, 0), (0, 0, 0)]) (p2 := 63) rfl rfl (by decide) rfl rfl ?_
  refine q_goto rfl ?_
  refine q_load (v := (0, 1, 0)) (p2 := 3) rfl rfl rfl rfl ?_
  refine q_load (v := (6, 468, 0)) (p2 := 4) rfl rfl rfl rfl ?_
  refine q_getv (v := (6, 7, 0)) (p2 := 5) rfl hJ.1 (by decide) rfl rfl ?_
  refine q_getv (v := (6, 237, 0)) (p2 := 6) rfl hPS.1.choose_spec.1 (by decide) hPS.1.choose_spec.2.1 rfl ?_
  refine q_getv (v := (6, 246, 0)) (p2 := 7) rfl hS.1.choose_spec.1 (by decide) hS.1.choose_spec.2.2.2.1 rfl ?_
  refine q_const (p2 := 8) rfl rfl ?_
  refine q_aldv (v := (0, 5, 0)) (p2 := 9) rfl (x_sc_246 hS) (by omega) (by omega) rfl rfl ?_
  refine q_icmp_s (p2 := 10) rfl (by decide) (by omega) (by omega) rfl (fun hb => absurd hb (show ¬ (¬ (1 < 5)) by omega)) (fun _ => ?_)
  refine q_load (v := (6, 468, 0)) (p2 := 11) rfl rfl rfl rfl ?_
  refine q_getv (v := (6, 7, 0)) (p2 := 12) rfl hJ.1 (by decide) rfl rfl ?_
  refine q_getv (v := (6, 237, 0)) (p2 := 13) rfl hPS.1.choose_spec.1 (by decide) hPS.1.choose_spec.2.1 rfl ?_
  refine q_getv (v := (6, 271, 0)) (p2 := 14) rfl hS.1.choose_spec.1 (by decide) hS.1.choose_spec.2.2.2.2.2.2.2.2.1 rfl ?_
  refine q_load (v := (0, 1, 0)) (p2 := 15) rfl rfl rfl rfl ?_
  refine q_aldv (v := (6, 273, 0)) (p2 := 16) rfl (x_sc_271 hS) (by omega) (by omega) rfl rfl ?_
  refine q_store (loc2 := [(6, 468, 0), (0, x, 0), (0, 2, 0), (0, 1, 0), (6, 273, 0), (0, 0, 0)]) (p2 := 17) rfl rfl rfl rfl rfl ?_
  refine q_load (v := (6, 273, 0)) (p2 := 18) rfl rfl rfl rfl ?_
  refine q_const (p2 := 19) rfl rfl ?_
  refine q_aldv (v := (0, 0, 0)) (p2 := 20) rfl (x_sc_273 hS) (by omega) (by omega) rfl rfl ?_
  refine q_store (loc2 := [(6, 468, 0), (0, x, 0), (0, 2, 0), (0, 1, 0), (6, 273, 0), (0, 0, 0)]) (p2 := 21) rfl rfl rfl rfl rfl ?_
  refine q_load (v := (6, 273, 0)) (p2 := 22) rfl rfl rfl rfl ?_
  refine q_const (p2 := 23) rfl rfl ?_
  refine q_aldv (v := (0, 0, 0)) (p2 := 24) rfl (x_sc_273 hS) (by omega) (by omega) rfl rfl ?_
  refine q_load (v := (0, 2, 0)) (p2 := 25) rfl rfl rfl rfl ?_
  refine q_icmp_s (p2 := 26) rfl (by decide) (by omega) (by omega) rfl (fun _ => ?_) (fun hb => absurd (show ¬ (0 = 2) by omega) hb)
  refine q_load (v := (6, 273, 0)) (p2 := 45) rfl rfl rfl rfl ?_
  refine q_const (p2 := 46) rfl rfl ?_
  refine q_aldv (v := (0, 0, 0)) (p2 := 47) rfl (x_sc_273 hS) (by omega) (by omega) rfl rfl ?_
  refine q_load (v := (0, 2, 0)) (p2 := 48) rfl rfl rfl rfl ?_
  refine q_icmp_s (p2 := 49) rfl (by decide) (by omega) (by omega) rfl (fun _ => ?_) (fun hb => absurd (show ¬ (0 = 2) by omega) hb)
  refine q_iinc (z := 2) (loc2 := [(6, 468, 0), (0, x, 0), (0, 2, 0), (0, 2, 0), (6, 273, 0), (0, 0, 0)]) (p2 := 63) rfl rfl (by decide) rfl rfl ?_
  refine q_goto rfl ?_
  refine q_load (v := (0, 2, 0)) (p2 := 3) rfl rfl rfl rfl ?_
  refine q_load (v := (6, 468, 0)) (p2 := 4) rfl rfl rfl rfl ?_
  refine q_getv (v := (6, 7, 0)) (p2 := 5) rfl hJ.1 (by decide) rfl rfl ?_
  refine q_getv (v := (6, 237, 0)) (p2 := 6) rfl hPS.1.choose_spec.1 (by decide) hPS.1.choose_spec.2.1 rfl ?_
  refine q_getv (v := (6, 246, 0)) (p2 := 7) rfl hS.1.choose_spec.1 (by decide) hS.1.choose_spec.2.2.2.1 rfl ?_
  refine q_const (p2 := 8) rfl rfl ?_
  refine q_aldv (v := (0, 5, 0)) (p2 := 9) rfl (x_sc_246 hS) (by omega) (by omega) rfl rfl ?_
  refine q_icmp_s (p2 := 10) rfl (by decide) (by omega) (by omega) rfl (fun hb => absurd hb (show ¬ (¬ (2 < 5)) by omega)) (fun _ => ?_)
  refine q_load (v := (6, 468, 0)) (p2 := 11) rfl rfl rfl rfl ?_
  refine q_getv (v := (6, 7, 0)) (p2 := 12) rfl hJ.1 (by decide) rfl rfl ?_
  refine q_getv (v := (6, 237, 0)) (p2 := 13) rfl hPS.1.choose_spec.1 (by decide) hPS.1.choose_spec.2.1 rfl ?_
  refine q_getv (v := (6, 271, 0)) (p2 := 14) rfl hS.1.choose_spec.1 (by decide) hS.1.choose_spec.2.2.2.2.2.2.2.2.1 rfl ?_
  refine q_load (v := (0, 2, 0)) (p2 := 15) rfl rfl rfl rfl ?_
  refine q_aldv (v := (6, 274, 0)) (p2 := 16) rfl (x_sc_271 hS) (by omega) (by omega) rfl rfl ?_
  refine q_store (loc2 := [(6, 468, 0), (0, x, 0), (0, 2, 0), (0, 2, 0), (6, 274, 0), (0, 0, 0)]) (p2 := 17) rfl rfl rfl rfl rfl ?_
  refine q_load (v := (6, 274, 0)) (p2 := 18) rfl rfl rfl rfl ?_
  refine q_const (p2 := 19) rfl rfl ?_
  refine q_aldv (v := (0, 1, 0)) (p2 := 20) rfl (x_sc_274 hS) (by omega) (by omega) rfl rfl ?_
  refine q_store (loc2 := [(6, 468, 0), (0, x, 0), (0, 2, 0), (0, 2, 0), (6, 274, 0), (0, 1, 0)]) (p2 := 21) rfl rfl rfl rfl rfl ?_
  refine q_load (v := (6, 274, 0)) (p2 := 22) rfl rfl rfl rfl ?_
  refine q_const (p2 := 23) rfl rfl ?_
  refine q_aldv (v := (0, 0, 0)) (p2 := 24) rfl (x_sc_274 hS) (by omega) (by omega) rfl rfl ?_
  refine q_load (v := (0, 2, 0)) (p2 := 25) rfl rfl rfl rfl ?_
  refine q_icmp_s (p2 := 26) rfl (by decide) (by omega) (by omega) rfl (fun _ => ?_) (fun hb => absurd (show ¬ (0 = 2) by omega) hb)
  refine q_load (v := (6, 274, 0)) (p2 := 45) rfl rfl rfl rfl ?_
  refine q_const (p2 := 46) rfl rfl ?_
  refine q_aldv (v := (0, 0, 0)) (p2 := 47) rfl (x_sc_274 hS) (by omega) (by omega) rfl rfl ?_
  refine q_load (v := (0, 2, 0)) (p2 := 48) rfl rfl rfl rfl ?_
  refine q_icmp_s (p2 := 49) rfl (by decide) (by omega) (by omega) rfl (fun _ => ?_) (fun hb => absurd (show ¬ (0 = 2) by omega) hb)
  refine q_iinc (z := 3) (loc2 := [(6, 468, 0), (0, x, 0), (0, 2, 0), (0, 3, 0), (6, 274, 0), (0, 1, 0)]) (p2 := 63) rfl rfl (by decide) rfl rfl ?_
  refine q_goto rfl ?_
  refine q_load (v := (0, 3, 0)) (p2 := 3) rfl rfl rfl rfl ?_
  refine q_load (v := (6, 468, 0)) (p2 := 4) rfl rfl rfl rfl ?_
  refine q_getv (v := (6, 7, 0)) (p2 := 5) rfl hJ.1 (by decide) rfl rfl ?_
  refine q_getv (v := (6, 237, 0)) (p2 := 6) rfl hPS.1.choose_spec.1 (by decide) hPS.1.choose_spec.2.1 rfl ?_
  refine q_getv (v := (6, 246, 0)) (p2 := 7) rfl hS.1.choose_spec.1 (by decide) hS.1.choose_spec.2.2.2.1 rfl ?_
  refine q_const (p2 := 8) rfl rfl ?_
  refine q_aldv (v := (0, 5, 0)) (p2 := 9) rfl (x_sc_246 hS) (by omega) (by omega) rfl rfl ?_
  refine q_icmp_s (p2 := 10) rfl (by decide) (by omega) (by omega) rfl (fun hb => absurd hb (show ¬ (¬ (3 < 5)) by omega)) (fun _ => ?_)
  refine q_load (v := (6, 468, 0)) (p2 := 11) rfl rfl rfl rfl ?_
  refine q_getv (v := (6, 7, 0)) (p2 := 12) rfl hJ.1 (by decide) rfl rfl ?_
  refine q_getv (v := (6, 237, 0)) (p2 := 13) rfl hPS.1.choose_spec.1 (by decide) hPS.1.choose_spec.2.1 rfl ?_
  refine q_getv (v := (6, 271, 0)) (p2 := 14) rfl hS.1.choose_spec.1 (by decide) hS.1.choose_spec.2.2.2.2.2.2.2.2.1 rfl ?_
  refine q_load (v := (0, 3, 0)) (p2 := 15) rfl rfl rfl rfl ?_
  refine q_aldv (v := (6, 275, 0)) (p2 := 16) rfl (x_sc_271 hS) (by omega) (by omega) rfl rfl ?_
  refine q_store (loc2 := [(6, 468, 0), (0, x, 0), (0, 2, 0), (0, 3, 0), (6, 275, 0), (0, 1, 0)]) (p2 := 17) rfl rfl rfl rfl rfl ?_
  refine q_load (v := (6, 275, 0)) (p2 := 18) rfl rfl rfl rfl ?_
  refine q_const (p2 := 19) rfl rfl ?_
  refine q_aldv (v := (0, 0, 0)) (p2 := 20) rfl (x_sc_275 hS) (by omega) (by omega) rfl rfl ?_
  refine q_store (loc2 := [(6, 468, 0), (0, x, 0), (0, 2, 0), (0, 3, 0), (6, 275, 0), (0, 0, 0)]) (p2 := 21) rfl rfl rfl rfl rfl ?_
  refine q_load (v := (6, 275, 0)) (p2 := 22) rfl rfl rfl rfl ?_
  refine q_const (p2 := 23) rfl rfl ?_
  refine q_aldv (v := (0, 1, 0)) (p2 := 24) rfl (x_sc_275 hS) (by omega) (by omega) rfl rfl ?_
  refine q_load (v := (0, 2, 0)) (p2 := 25) rfl rfl rfl rfl ?_
  refine q_icmp_s (p2 := 26) rfl (by decide) (by omega) (by omega) rfl (fun _ => ?_) (fun hb => absurd (show ¬ (1 = 2) by omega) hb)
  refine q_load (v := (6, 275, 0)) (p2 := 45) rfl rfl rfl rfl ?_
  refine q_const (p2 := 46) rfl rfl ?_
  refine q_aldv (v := (0, 1, 0)) (p2 := 47) rfl (x_sc_275 hS) (by omega) (by omega) rfl rfl ?_
  refine q_load (v := (0, 2, 0)) (p2 := 48) rfl rfl rfl rfl ?_
  refine q_icmp_s (p2 := 49) rfl (by decide) (by omega) (by omega) rfl (fun _ => ?_) (fun hb => absurd (show ¬ (1 = 2) by omega) hb)
  refine q_iinc (z := 4) (loc2 := [(6, 468, 0), (0, x, 0), (0, 2, 0), (0, 4, 0), (6, 275, 0), (0, 0, 0)]) (p2 := 63) rfl rfl (by decide) rfl rfl ?_
  refine q_goto rfl ?_
  refine q_load (v := (0, 4, 0)) (p2 := 3) rfl rfl rfl rfl ?_
  refine q_load (v := (6, 468, 0)) (p2 := 4) rfl rfl rfl rfl ?_
  refine q_getv (v := (6, 7, 0)) (p2 := 5) rfl hJ.1 (by decide) rfl rfl ?_
  refine q_getv (v := (6, 237, 0)) (p2 := 6) rfl hPS.1.choose_spec.1 (by decide) hPS.1.choose_spec.2.1 rfl ?_
  refine q_getv (v := (6, 246, 0)) (p2 := 7) rfl hS.1.choose_spec.1 (by decide) hS.1.choose_spec.2.2.2.1 rfl ?_
  refine q_const (p2 := 8) rfl rfl ?_
  refine q_aldv (v := (0, 5, 0)) (p2 := 9) rfl (x_sc_246 hS) (by omega) (by omega) rfl rfl ?_
  refine q_icmp_s (p2 := 10) rfl (by decide) (by omega) (by omega) rfl (fun hb => absurd hb (show ¬ (¬ (4 < 5)) by omega)) (fun _ => ?_)
  refine q_load (v := (6, 468, 0)) (p2 := 11) rfl rfl rfl rfl ?_
  refine q_getv (v := (6, 7, 0)) (p2 := 12) rfl hJ.1 (by decide) rfl rfl ?_
  refine q_getv (v := (6, 237, 0)) (p2 := 13) rfl hPS.1.choose_spec.1 (by decide) hPS.1.choose_spec.2.1 rfl ?_
  refine q_getv (v := (6, 271, 0)) (p2 := 14) rfl hS.1.choose_spec.1 (by decide) hS.1.choose_spec.2.2.2.2.2.2.2.2.1 rfl ?_
  refine q_load (v := (0, 4, 0)) (p2 := 15) rfl rfl rfl rfl ?_
  refine q_aldv (v := (6, 276, 0)) (p2 := 16) rfl (x_sc_271 hS) (by omega) (by omega) rfl rfl ?_
  refine q_store (loc2 := [(6, 468, 0), (0, x, 0), (0, 2, 0), (0, 4, 0), (6, 276, 0), (0, 0, 0)]) (p2 := 17) rfl rfl rfl rfl rfl ?_
  refine q_load (v := (6, 276, 0)) (p2 := 18) rfl rfl rfl rfl ?_
  refine q_const (p2 := 19) rfl rfl ?_
  refine q_aldv (v := (0, 2, 0)) (p2 := 20) rfl (x_sc_276 hS) (by omega) (by omega) rfl rfl ?_
  refine q_store (loc2 := [(6, 468, 0), (0, x, 0), (0, 2, 0), (0, 4, 0), (6, 276, 0), (0, 2, 0)]) (p2 := 21) rfl rfl rfl rfl rfl ?_
  refine q_load (v := (6, 276, 0)) (p2 := 22) rfl rfl rfl rfl ?_
  refine q_const (p2 := 23) rfl rfl ?_
  refine q_aldv (v := (0, 2, 0)) (p2 := 24) rfl (x_sc_276 hS) (by omega) (by omega) rfl rfl ?_
  refine q_load (v := (0, 2, 0)) (p2 := 25) rfl rfl rfl rfl ?_
  refine q_icmp_s (p2 := 26) rfl (by decide) (by omega) (by omega) rfl (fun hb => absurd hb (show ¬ (¬ (2 = 2)) by omega)) (fun _ => ?_)
  refine q_load (v := (0, 2, 0)) (p2 := 27) rfl rfl rfl rfl ?_
  refine q_const (p2 := 28) rfl rfl ?_
  refine q_icmp_s (p2 := 29) rfl (by decide) (by omega) (by omega) rfl (fun hb => absurd hb (show ¬ (¬ (2 = 2)) by omega)) (fun _ => ?_)
  refine q_load (v := (6, 468, 0)) (p2 := 30) rfl rfl rfl rfl ?_
  refine q_load (v := (6, 468, 0)) (p2 := 31) rfl rfl rfl rfl ?_
  refine q_getv (v := (6, 7, 0)) (p2 := 32) rfl hJ.1 (by decide) rfl rfl ?_
  refine q_load (v := (0, x, 0)) (p2 := 33) rfl rfl rfl rfl ?_
  refine q_load (v := (6, 276, 0)) (p2 := 34) rfl rfl rfl rfl ?_
  refine q_const (p2 := 35) rfl rfl ?_
  refine q_aldv (v := (0, 3, 0)) (p2 := 36) rfl (x_sc_276 hS) (by omega) (by omega) rfl rfl ?_
  refine q_callr (xs := [(0, 3, 0), (0, x, 0), (6, 7, 0)]) (p2 := 37) rfl rfl rfl rfl (x_rcv_s 7 hPS.1.choose_spec.1) rfl (e_countUsers hPS (by omega) (by omega)) (Nat.le_refl _) (Nat.le_refl _) rfl ?_
  refine q_load (v := (6, 276, 0)) (p2 := 38) rfl rfl rfl rfl ?_
  refine q_const (p2 := 39) rfl rfl ?_
  refine q_aldv (v := (0, 4, 0)) (p2 := 40) rfl (x_sc_276 hS) (by omega) (by omega) rfl rfl ?_
  refine q_callK (xs := [(0, 4, 0), (0, (x_fl (fun y => comb y ≠ 0 ∧ x_ho (hm (y * 40 + 3)) x) made).length, 0), (6, 468, 0)]) (p2 := 41) rfl rfl rfl rfl (x_rcv_s 468 hJ.1) rfl rfl ?_
  refine x_f_of rfl ?_
  refine q_load (v := (6, 468, 0)) (p2 := 1) rfl rfl rfl rfl ?_
  refine q_getv (v := (6, 7, 0)) (p2 := 2) rfl hJ.1 (by decide) rfl rfl ?_
  refine q_getv (v := (6, 237, 0)) (p2 := 3) rfl hPS.1.choose_spec.1 (by decide) hPS.1.choose_spec.2.1 rfl ?_
  refine q_load (v := (0, 4, 0)) (p2 := 4) rfl rfl rfl rfl ?_
  refine q_const (p2 := 5) rfl rfl ?_
  refine q_callK (xs := [(0, 6, 0), (0, 4, 0), (6, 237, 0)]) (p2 := 6) rfl rfl rfl rfl (x_rcv_s 237 hS.1.choose_spec.1) rfl rfl ?_
  refine x_f_of rfl ?_
  refine q_load (v := (0, 4, 0)) (p2 := 1) rfl rfl rfl rfl ?_
  refine q_if0_s (p2 := 2) rfl (by decide) (by omega) rfl (fun hb => absurd hb (show ¬ (4 < 0) by omega)) (fun _ => ?_)
  refine q_load (v := (0, 4, 0)) (p2 := 3) rfl rfl rfl rfl ?_
  refine q_load (v := (6, 237, 0)) (p2 := 4) rfl rfl rfl rfl ?_
  refine q_getv (v := (6, 312, 0)) (p2 := 5) rfl hS.1.choose_spec.1 (by decide) hS.1.choose_spec.2.2.2.2.2.2.2.2.2.1 rfl ?_
  refine q_alen (p2 := 6) rfl (x_sc_312 hS) rfl (by omega) rfl ?_
  refine q_icmp_s (p2 := 7) rfl (by decide) (by omega) (by omega) rfl (fun hb => absurd hb (show ¬ (¬ (4 < 128)) by omega)) (fun _ => ?_)
  refine q_load (v := (0, 6, 0)) (p2 := 8) rfl rfl rfl rfl ?_
  refine q_if0_s (p2 := 9) rfl (by decide) (by omega) rfl (fun hb => absurd hb (show ¬ (6 < 0) by omega)) (fun _ => ?_)
  refine q_load (v := (0, 6, 0)) (p2 := 10) rfl rfl rfl rfl ?_
  refine q_const (p2 := 11) rfl rfl ?_
  refine q_icmp_s (p2 := 12) rfl (by decide) (by omega) (by omega) rfl (fun _ => ?_) (fun hb => absurd (show 6 < 9 by omega) hb)
  refine q_load (v := (6, 237, 0)) (p2 := 15) rfl rfl rfl rfl ?_
  refine q_getv (v := (6, 312, 0)) (p2 := 16) rfl hS.1.choose_spec.1 (by decide) hS.1.choose_spec.2.2.2.2.2.2.2.2.2.1 rfl ?_
  refine q_load (v := (0, 4, 0)) (p2 := 17) rfl rfl rfl rfl ?_
  refine q_aldv (v := (6, 317, 0)) (p2 := 18) rfl (x_sc_312 hS) (by omega) (by omega) rfl rfl ?_
  refine q_load (v := (0, 6, 0)) (p2 := 19) rfl rfl rfl rfl ?_
  refine q_aldv (v := (0, 1, 0)) (p2 := 20) rfl (x_sc_317 hS) (by omega) (by omega) rfl rfl ?_
  refine q_retv (v := (0, 1, 0)) rfl rfl ⟨rfl, by omega, by omega, ?_⟩
  refine q_store (loc2 := [(6, 468, 0), (0, (x_fl (fun y => comb y ≠ 0 ∧ x_ho (hm (y * 40 + 3)) x) made).length, 0), (0, 4, 0), (0, 1, 0)]) (p2 := 7) rfl rfl rfl rfl rfl ?_
  refine q_load (v := (0, (x_fl (fun y => comb y ≠ 0 ∧ x_ho (hm (y * 40 + 3)) x) made).length, 0)) (p2 := 8) rfl rfl rfl rfl ?_
  refine q_load (v := (6, 468, 0)) (p2 := 9) rfl rfl rfl rfl ?_
  refine q_getv (v := (6, 7, 0)) (p2 := 10) rfl hJ.1 (by decide) rfl rfl ?_
  refine q_getv (v := (6, 237, 0)) (p2 := 11) rfl hPS.1.choose_spec.1 (by decide) hPS.1.choose_spec.2.1 rfl ?_
  refine q_load (v := (0, 4, 0)) (p2 := 12) rfl rfl rfl rfl ?_
  refine q_const (p2 := 13) rfl rfl ?_
  refine q_callK (xs := [(0, 5, 0), (0, 4, 0), (6, 237, 0)]) (p2 := 14) rfl rfl rfl rfl (x_rcv_s 237 hS.1.choose_spec.1) rfl rfl ?_
  refine x_f_of rfl ?_
  refine q_load (v := (0, 4, 0)) (p2 := 1) rfl rfl rfl rfl ?_
  refine q_if0_s (p2 := 2) rfl (by decide) (by omega) rfl (fun hb => absurd hb (show ¬ (4 < 0) by omega)) (fun _ => ?_)
  refine q_load (v := (0, 4, 0)) (p2 := 3) rfl rfl rfl rfl ?_
  refine q_load (v := (6, 237, 0)) (p2 := 4) rfl rfl rfl rfl ?_
  refine q_getv (v := (6, 312, 0)) (p2 := 5) rfl hS.1.choose_spec.1 (by decide) hS.1.choose_spec.2.2.2.2.2.2.2.2.2.1 rfl ?_
  refine q_alen (p2 := 6) rfl (x_sc_312 hS) rfl (by omega) rfl ?_
  refine q_icmp_s (p2 := 7) rfl (by decide) (by omega) (by omega) rfl (fun hb => absurd hb (show ¬ (¬ (4 < 128)) by omega)) (fun _ => ?_)
  refine q_load (v := (0, 5, 0)) (p2 := 8) rfl rfl rfl rfl ?_
  refine q_if0_s (p2 := 9) rfl (by decide) (by omega) rfl (fun hb => absurd hb (show ¬ (5 < 0) by omega)) (fun _ => ?_)
  refine q_load (v := (0, 5, 0)) (p2 := 10) rfl rfl rfl rfl ?_
  refine q_const (p2 := 11) rfl rfl ?_
  refine q_icmp_s (p2 := 12) rfl (by decide) (by omega) (by omega) rfl (fun _ => ?_) (fun hb => absurd (show 5 < 9 by omega) hb)
  refine q_load (v := (6, 237, 0)) (p2 := 15) rfl rfl rfl rfl ?_
  refine q_getv (v := (6, 312, 0)) (p2 := 16) rfl hS.1.choose_spec.1 (by decide) hS.1.choose_spec.2.2.2.2.2.2.2.2.2.1 rfl ?_
  refine q_load (v := (0, 4, 0)) (p2 := 17) rfl rfl rfl rfl ?_
  refine q_aldv (v := (6, 317, 0)) (p2 := 18) rfl (x_sc_312 hS) (by omega) (by omega) rfl rfl ?_
  refine q_load (v := (0, 5, 0)) (p2 := 19) rfl rfl rfl rfl ?_
  refine q_aldv (v := (0, 0, 0)) (p2 := 20) rfl (x_sc_317 hS) (by omega) (by omega) rfl rfl ?_
  refine q_retv (v := (0, 0, 0)) rfl rfl ⟨rfl, by omega, by omega, ?_⟩
  refine q_icmp_s (p2 := 15) rfl (by decide) (by omega) (by omega) rfl (fun hb => absurd hb (show ¬ ((x_fl (fun y => comb y ≠ 0 ∧ x_ho (hm (y * 40 + 3)) x) made).length < 0) by omega)) (fun _ => ?_)
  refine q_load (v := (0, 1, 0)) (p2 := 16) rfl rfl rfl rfl ?_
  refine q_if0_s (p2 := 17) rfl (by decide) (by omega) rfl (fun hb => absurd hb (show ¬ (1 < 0) by omega)) (fun _ => ?_)
  refine q_load (v := (0, (x_fl (fun y => comb y ≠ 0 ∧ x_ho (hm (y * 40 + 3)) x) made).length, 0)) (p2 := 18) rfl rfl rfl rfl ?_
  refine q_load (v := (0, 1, 0)) (p2 := 19) rfl rfl rfl rfl ?_
  refine q_icmp_s (p2 := 20) rfl (by decide) (by omega) (by omega) rfl (fun hb => absurd hb (show ¬ (1 < (x_fl (fun y => comb y ≠ 0 ∧ x_ho (hm (y * 40 + 3)) x) made).length) by omega)) (fun _ => ?_)
  refine q_const (p2 := 21) rfl rfl ?_
  refine q_goto rfl ?_
  refine q_retv (v := (0, 1, 0)) rfl rfl ⟨rfl, by omega, by omega, ?_⟩
  refine q_if0_s (p2 := 42) rfl (by decide) (by omega) rfl (fun _ => ?_) (fun hb => absurd (show ¬ (1 = 0) by omega) hb)
  refine q_load (v := (6, 276, 0)) (p2 := 45) rfl rfl rfl rfl ?_
  refine q_const (p2 := 46) rfl rfl ?_
  refine q_aldv (v := (0, 2, 0)) (p2 := 47) rfl (x_sc_276 hS) (by omega) (by omega) rfl rfl ?_
  refine q_load (v := (0, 2, 0)) (p2 := 48) rfl rfl rfl rfl ?_
  refine q_icmp_s (p2 := 49) rfl (by decide) (by omega) (by omega) rfl (fun hb => absurd hb (show ¬ (¬ (2 = 2)) by omega)) (fun _ => ?_)
  refine q_load (v := (0, 2, 0)) (p2 := 50) rfl rfl rfl rfl ?_
  refine q_if0_s (p2 := 51) rfl (by decide) (by omega) rfl (fun _ => ?_) (fun hb => absurd (show ¬ (2 = 0) by omega) hb)
  refine q_iinc (z := 5) (loc2 := [(6, 468, 0), (0, x, 0), (0, 2, 0), (0, 5, 0), (6, 276, 0), (0, 2, 0)]) (p2 := 63) rfl rfl (by decide) rfl rfl ?_
  refine q_goto rfl ?_
  refine q_load (v := (0, 5, 0)) (p2 := 3) rfl rfl rfl rfl ?_
  refine q_load (v := (6, 468, 0)) (p2 := 4) rfl rfl rfl rfl ?_
  refine q_getv (v := (6, 7, 0)) (p2 := 5) rfl hJ.1 (by decide) rfl rfl ?_
  refine q_getv (v := (6, 237, 0)) (p2 := 6) rfl hPS.1.choose_spec.1 (by decide) hPS.1.choose_spec.2.1 rfl ?_
  refine q_getv (v := (6, 246, 0)) (p2 := 7) rfl hS.1.choose_spec.1 (by decide) hS.1.choose_spec.2.2.2.1 rfl ?_
  refine q_const (p2 := 8) rfl rfl ?_
  refine q_aldv (v := (0, 5, 0)) (p2 := 9) rfl (x_sc_246 hS) (by omega) (by omega) rfl rfl ?_
  refine q_icmp_s (p2 := 10) rfl (by decide) (by omega) (by omega) rfl (fun _ => ?_) (fun hb => absurd (show ¬ (5 < 5) by omega) hb)
  refine q_const (p2 := 65) rfl rfl ?_
  exact q_retv (v := (0, 1, 0)) rfl rfl (⟨rfl, rfl, funext (fun j => rfl), by omega, by omega⟩)
theorem zc_jb2_n {d n sl : Nat} {φ : FH} {A : Nat} {B : Nat} {made : Nat} {sv : Nat} {svm : Nat} {s9 : Nat} {comb : Nat → Nat} {hm : Nat → MV} {noted : Nat} {verd : Nat} {ins : Nat → Nat} {ver : Nat → Nat} {x : Nat}  (hPS : x_PS φ A B made sv svm s9 comb hm) (hS : x_sch φ) (hJ : zq_J φ noted verd ins ver) (hn0 : 486 ≤ n) (hx : x < 40) (hcu : ¬ ((x_fl (fun y => comb y ≠ 0 ∧ x_ho (hm (y * 40 + 3)) x) made).length ≤ 1)) (hcu2 : (x_fl (fun y => comb y ≠ 0 ∧ x_ho (hm (y * 40 + 3)) x) made).length < 100) : x_f x_P (d + 4) 121 [(6, 468, 0), (0, x, 0), (0, 2, 0), (11, 0, 0), (11, 0, 0), (11, 0, 0)] φ n sl (x_r φ n sl (0, 0, 0)) := by
  refine x_f_of rfl ?_
  refine x_n_lt (fun hlt0 => ?_)
  refine q_const (p2 := 1) rfl rfl ?_
  refine q_store (loc2 := [(6, 468, 0), (0, x, 0), (0, 2, 0), (0, 0, 0), (11, 0, 0), (11, 0, 0)]) (p2 := 2) rfl rfl rfl rfl rfl ?_
  refine q_load (v := (0, 0, 0)) (p2 := 3) rfl rfl rfl rfl ?_
  refine q_load (v := (6, 468, 0)) (p2 := 4) rfl rfl rfl rfl ?_
  refine q_getv (v := (6, 7, 0)) (p2 := 5) rfl hJ.1 (by decide) rfl rfl ?_
  refine q_getv (v := (6, 237, 0)) (p2 := 6) rfl hPS.1.choose_spec.1 (by decide) hPS.1.choose_spec.2.1 rfl ?_
  refine q_getv (v := (6, 246, 0)) (p2 := 7) rfl hS.1.choose_spec.1 (by decide) hS.1.choose_spec.2.2.2.1 rfl ?_
  refine q_const (p2 := 8) rfl rfl ?_
  refine q_aldv (v := (0, 5, 0)) (p2 := 9) rfl (x_sc_246 hS) (by omega) (by omega) rfl rfl ?_
  refine q_icmp_s (p2 := 10) rfl (by decide) (by omega) (by omega) rfl (fun hb => absurd hb (show ¬ (¬ (0 < 5)) by omega)) (fun _ => ?_)
  refine q_load (v := (6, 468, 0)) (p2 := 11) rfl rfl rfl rfl ?_
  refine q_getv (v := (6, 7, 0)) (p2 := 12) rfl hJ.1 (by decide) rfl rfl ?_
  refine q_getv (v := (6, 237, 0)) (p2 := 13) rfl hPS.1.choose_spec.1 (by decide) hPS.1.choose_spec.2.1 rfl ?_
  refine q_getv (v := (6, 271, 0)) (p2 := 14) rfl hS.1.choose_spec.1 (by decide) hS.1.choose_spec.2.2.2.2.2.2.2.2.1 rfl ?_
  refine q_load (v := (0, 0, 0)) (p2 := 15) rfl rfl rfl rfl ?_
  refine q_aldv (v := (6, 272, 0)) (p2 := 16) rfl (x_sc_271 hS) (by omega) (by omega) rfl rfl ?_
  refine q_store (loc2 := [(6, 468, 0), (0, x, 0), (0, 2, 0), (0, 0, 0), (6, 272, 0), (11, 0, 0)]) (p2 := 17) rfl rfl rfl rfl rfl ?_
  refine q_load (v := (6, 272, 0)) (p2 := 18) rfl rfl rfl rfl ?_
  refine q_const (p2 := 19) rfl rfl ?_
  refine q_aldv (v := (0, 0, 0)) (p2 := 20) rfl (x_sc_272 hS) (by omega) (by omega) rfl rfl ?_
  refine q_store (loc2 := [(6, 468, 0), (0, x, 0), (0, 2, 0), (0, 0, 0), (6, 272, 0), (0, 0, 0)]) (p2 := 21) rfl rfl rfl rfl rfl ?_
  refine q_load (v := (6, 272, 0)) (p2 := 22) rfl rfl rfl rfl ?_
  refine q_const (p2 := 23) rfl rfl ?_
  refine q_aldv (v := (0, 0, 0)) (p2 := 24) rfl (x_sc_272 hS) (by omega) (by omega) rfl rfl ?_
  refine q_load (v := (0, 2, 0)) (p2 := 25) rfl rfl rfl rfl ?_
  refine q_icmp_s (p2 := 26) rfl (by decide) (by omega) (by omega) rfl (fun _ => ?_) (fun hb => absurd (show ¬ (0 = 2) by omega) hb)
  refine q_load (v := (6, 272, 0)) (p2 := 45) rfl rfl rfl rfl ?_
  refine q_const (p2 := 46) rfl rfl ?_
  refine q_aldv (v := (0, 0, 0)) (p2 := 47) rfl (x_sc_272 hS) (by omega) (by omega) rfl rfl ?_
  refine q_load (v := (0, 2, 0)) (p2 := 48) rfl rfl rfl rfl ?_
  refine q_icmp_s (p2 := 49) rfl (by decide) (by omega) (by omega) rfl (fun _ => ?_) (fun hb => absurd (show ¬ (0 = 2) by omega) hb)
  refine q_iinc (z := 1) (loc2 := [(6, 468, 0), (0, x, 0), (0, 2, 0), (0, 1, 0), (6, 272, 0), (0, 0, 0)]) (p2 := 63) rfl rfl (by decide) rfl rfl ?_
  refine q_goto rfl ?_
  refine q_load (v := (0, 1, 0)) (p2 := 3) rfl rfl rfl rfl ?_
  refine q_load (v := (6, 468, 0)) (p2 := 4) rfl rfl rfl rfl ?_
  refine q_getv (v := (6, 7, 0)) (p2 := 5) rfl hJ.1 (by decide) rfl rfl ?_
  refine q_getv (v := (6, 237, 0)) (p2 := 6) rfl hPS.1.choose_spec.1 (by decide) hPS.1.choose_spec.2.1 rfl ?_
  refine q_getv (v := (6, 246, 0)) (p2 := 7) rfl hS.1.choose_spec.1 (by decide) hS.1.choose_spec.2.2.2.1 rfl ?_
  refine q_const (p2 := 8) rfl rfl ?_
  refine q_aldv (v := (0, 5, 0)) (p2 := 9) rfl (x_sc_246 hS) (by omega) (by omega) rfl rfl ?_
  refine q_icmp_s (p2 := 10) rfl (by decide) (by omega) (by omega) rfl (fun hb => absurd hb (show ¬ (¬ (1 < 5)) by omega)) (fun _ => ?_)
  refine q_load (v := (6, 468, 0)) (p2 := 11) rfl rfl rfl rfl ?_
  refine q_getv (v := (6, 7, 0)) (p2 := 12) rfl hJ.1 (by decide) rfl rfl ?_
  refine q_getv (v := (6, 237, 0)) (p2 := 13) rfl hPS.1.choose_spec.1 (by decide) hPS.1.choose_spec.2.1 rfl ?_
  refine q_getv (v := (6, 271, 0)) (p2 := 14) rfl hS.1.choose_spec.1 (by decide) hS.1.choose_spec.2.2.2.2.2.2.2.2.1 rfl ?_
  refine q_load (v := (0, 1, 0)) (p2 := 15) rfl rfl rfl rfl ?_
  refine q_aldv (v := (6, 273, 0)) (p2 := 16) rfl (x_sc_271 hS) (by omega) (by omega) rfl rfl ?_
  refine q_store (loc2 := [(6, 468, 0), (0, x, 0), (0, 2, 0), (0, 1, 0), (6, 273, 0), (0, 0, 0)]) (p2 := 17) rfl rfl rfl rfl rfl ?_
  refine q_load (v := (6, 273, 0)) (p2 := 18) rfl rfl rfl rfl ?_
  refine q_const (p2 := 19) rfl rfl ?_
  refine q_aldv (v := (0, 0, 0)) (p2 := 20) rfl (x_sc_273 hS) (by omega) (by omega) rfl rfl ?_
  refine q_store (loc2 := [(6, 468, 0), (0, x, 0), (0, 2, 0), (0, 1, 0), (6, 273, 0), (0, 0, 0)]) (p2 := 21) rfl rfl rfl rfl rfl ?_
  refine q_load (v := (6, 273, 0)) (p2 := 22) rfl rfl rfl rfl ?_
  refine q_const (p2 := 23) rfl rfl ?_
  refine q_aldv (v := (0, 0, 0)) (p2 := 24) rfl (x_sc_273 hS) (by omega) (by omega) rfl rfl ?_
  refine q_load (v := (0, 2, 0)) (p2 := 25) rfl rfl rfl rfl ?_
  refine q_icmp_s (p2 := 26) rfl (by decide) (by omega) (by omega) rfl (fun _ => ?_) (fun hb => absurd (show ¬ (0 = 2) by omega) hb)
  refine q_load (v := (6, 273, 0)) (p2 := 45) rfl rfl rfl rfl ?_
  refine q_const (p2 := 46) rfl rfl ?_
  refine q_aldv (v := (0, 0, 0)) (p2 := 47) rfl (x_sc_273 hS) (by omega) (by omega) rfl rfl ?_
  refine q_load (v := (0, 2, 0)) (p2 := 48) rfl rfl rfl rfl ?_
  refine q_icmp_s (p2 := 49) rfl (by decide) (by omega) (by omega) rfl (fun _ => ?_) (fun hb => absurd (show ¬ (0 = 2) by omega) hb)
  refine q_iinc (z := 2) (loc2 := [(6, 468, 0), (0, x, 0), (0, 2, 0), (0, 2, 0), (6, 273, 0), (0, 0, 0)]) (p2 := 63) rfl rfl (by decide) rfl rfl ?_
  refine q_goto rfl ?_
  refine q_load (v := (0, 2, 0)) (p2 := 3) rfl rfl rfl rfl ?_
  refine q_load (v := (6, 468, 0)) (p2 := 4) rfl rfl rfl rfl ?_
  refine q_getv (v := (6, 7, 0)) (p2 := 5) rfl hJ.1 (by decide) rfl rfl ?_
  refine q_getv (v := (6, 237, 0)) (p2 := 6) rfl hPS.1.choose_spec.1 (by decide) hPS.1.choose_spec.2.1 rfl ?_
  refine q_getv (v := (6, 246, 0)) (p2 := 7) rfl hS.1.choose_spec.1 (by decide) hS.1.choose_spec.2.2.2.1 rfl ?_
  refine q_const (p2 := 8) rfl rfl ?_
  refine q_aldv (v := (0, 5, 0)) (p2 := 9) rfl (x_sc_246 hS) (by omega) (by omega) rfl rfl ?_
  refine q_icmp_s (p2 := 10) rfl (by decide) (by omega) (by omega) rfl (fun hb => absurd hb (show ¬ (¬ (2 < 5)) by omega)) (fun _ => ?_)
  refine q_load (v := (6, 468, 0)) (p2 := 11) rfl rfl rfl rfl ?_
  refine q_getv (v := (6, 7, 0)) (p2 := 12) rfl hJ.1 (by decide) rfl rfl ?_
  refine q_getv (v := (6, 237, 0)) (p2 := 13) rfl hPS.1.choose_spec.1 (by decide) hPS.1.choose_spec.2.1 rfl ?_
  refine q_getv (v := (6, 271, 0)) (p2 := 14) rfl hS.1.choose_spec.1 (by decide) hS.1.choose_spec.2.2.2.2.2.2.2.2.1 rfl ?_
  refine q_load (v := (0, 2, 0)) (p2 := 15) rfl rfl rfl rfl ?_
  refine q_aldv (v := (6, 274, 0)) (p2 := 16) rfl (x_sc_271 hS) (by omega) (by omega) rfl rfl ?_
  refine q_store (loc2 := [(6, 468, 0), (0, x, 0), (0, 2, 0), (0, 2, 0), (6, 274, 0), (0, 0, 0)]) (p2 := 17) rfl rfl rfl rfl rfl ?_
  refine q_load (v := (6, 274, 0)) (p2 := 18) rfl rfl rfl rfl ?_
  refine q_const (p2 := 19) rfl rfl ?_
  refine q_aldv (v := (0, 1, 0)) (p2 := 20) rfl (x_sc_274 hS) (by omega) (by omega) rfl rfl ?_
  refine q_store (loc2 := [(6, 468, 0), (0, x, 0), (0, 2, 0), (0, 2, 0), (6, 274, 0), (0, 1, 0)]) (p2 := 21) rfl rfl rfl rfl rfl ?_
  refine q_load (v := (6, 274, 0)) (p2 := 22) rfl rfl rfl rfl ?_
  refine q_const (p2 := 23) rfl rfl ?_
  refine q_aldv (v := (0, 0, 0)) (p2 := 24) rfl (x_sc_274 hS) (by omega) (by omega) rfl rfl ?_
  refine q_load (v := (0, 2, 0)) (p2 := 25) rfl rfl rfl rfl ?_
  refine q_icmp_s (p2 := 26) rfl (by decide) (by omega) (by omega) rfl (fun _ => ?_) (fun hb => absurd (show ¬ (0 = 2) by omega) hb)
  refine q_load (v := (6, 274, 0)) (p2 := 45) rfl rfl rfl rfl ?_
  refine q_const (p2 := 46) rfl rfl ?_
  refine q_aldv (v := (0, 0, 0)) (p2 := 47) rfl (x_sc_274 hS) (by omega) (by omega) rfl rfl ?_
  refine q_load (v := (0, 2, 0)) (p2 := 48) rfl rfl rfl rfl ?_
  refine q_icmp_s (p2 := 49) rfl (by decide) (by omega) (by omega) rfl (fun _ => ?_) (fun hb => absurd (show ¬ (0 = 2) by omega) hb)
  refine q_iinc (z := 3) (loc2 := [(6, 468, 0), (0, x, 0), (0, 2, 0), (0, 3, 0), (6, 274, 0), (0, 1, 0)]) (p2 := 63) rfl rfl (by decide) rfl rfl ?_
  refine q_goto rfl ?_
  refine q_load (v := (0, 3, 0)) (p2 := 3) rfl rfl rfl rfl ?_
  refine q_load (v := (6, 468, 0)) (p2 := 4) rfl rfl rfl rfl ?_
  refine q_getv (v := (6, 7, 0)) (p2 := 5) rfl hJ.1 (by decide) rfl rfl ?_
  refine q_getv (v := (6, 237, 0)) (p2 := 6) rfl hPS.1.choose_spec.1 (by decide) hPS.1.choose_spec.2.1 rfl ?_
  refine q_getv (v := (6, 246, 0)) (p2 := 7) rfl hS.1.choose_spec.1 (by decide) hS.1.choose_spec.2.2.2.1 rfl ?_
  refine q_const (p2 := 8) rfl rfl ?_
  refine q_aldv (v := (0, 5, 0)) (p2 := 9) rfl (x_sc_246 hS) (by omega) (by omega) rfl rfl ?_
  refine q_icmp_s (p2 := 10) rfl (by decide) (by omega) (by omega) rfl (fun hb => absurd hb (show ¬ (¬ (3 < 5)) by omega)) (fun _ => ?_)
  refine q_load (v := (6, 468, 0)) (p2 := 11) rfl rfl rfl rfl ?_
  refine q_getv (v := (6, 7, 0)) (p2 := 12) rfl hJ.1 (by decide) rfl rfl ?_
  refine q_getv (v := (6, 237, 0)) (p2 := 13) rfl hPS.1.choose_spec.1 (by decide) hPS.1.choose_spec.2.1 rfl ?_
  refine q_getv (v := (6, 271, 0)) (p2 := 14) rfl hS.1.choose_spec.1 (by decide) hS.1.choose_spec.2.2.2.2.2.2.2.2.1 rfl ?_
  refine q_load (v := (0, 3, 0)) (p2 := 15) rfl rfl rfl rfl ?_
  refine q_aldv (v := (6, 275, 0)) (p2 := 16) rfl (x_sc_271 hS) (by omega) (by omega) rfl rfl ?_
  refine q_store (loc2 := [(6, 468, 0), (0, x, 0), (0, 2, 0), (0, 3, 0), (6, 275, 0), (0, 1, 0)]) (p2 := 17) rfl rfl rfl rfl rfl ?_
  refine q_load (v := (6, 275, 0)) (p2 := 18) rfl rfl rfl rfl ?_
  refine q_const (p2 := 19) rfl rfl ?_
  refine q_aldv (v := (0, 0, 0)) (p2 := 20) rfl (x_sc_275 hS) (by omega) (by omega) rfl rfl ?_
  refine q_store (loc2 := [(6, 468, 0), (0, x, 0), (0, 2, 0), (0, 3, 0), (6, 275, 0), (0, 0, 0)]) (p2 := 21) rfl rfl rfl rfl rfl ?_
  refine q_load (v := (6, 275, 0)) (p2 := 22) rfl rfl rfl rfl ?_
  refine q_const (p2 := 23) rfl rfl ?_
  refine q_aldv (v := (0, 1, 0)) (p2 := 24) rfl (x_sc_275 hS) (by omega) (by omega) rfl rfl ?_
  refine q_load (v := (0, 2, 0)) (p2 := 25) rfl rfl rfl rfl ?_
  refine q_icmp_s (p2 := 26) rfl (by decide) (by omega) (by omega) rfl (fun _ => ?_) (fun hb => absurd (show ¬ (1 = 2) by omega) hb)
  refine q_load (v := (6, 275, 0)) (p2 := 45) rfl rfl rfl rfl ?_
  refine q_const (p2 := 46) rfl rfl ?_
  refine q_aldv (v := (0, 1, 0)) (p2 := 47) rfl (x_sc_275 hS) (by omega) (by omega) rfl rfl ?_
  refine q_load (v := (0, 2, 0)) (p2 := 48) rfl rfl rfl rfl ?_
  refine q_icmp_s (p2 := 49) rfl (by decide) (by omega) (by omega) rfl (fun _ => ?_) (fun hb => absurd (show ¬ (1 = 2) by omega) hb)
  refine q_iinc (z := 4) (loc2 := [(6, 468, 0), (0, x, 0), (0, 2, 0), (0, 4, 0), (6, 275, 0), (0, 0, 0)]) (p2 := 63) rfl rfl (by decide) rfl rfl ?_
  refine q_goto rfl ?_
  refine q_load (v := (0, 4, 0)) (p2 := 3) rfl rfl rfl rfl ?_
  refine q_load (v := (6, 468, 0)) (p2 := 4) rfl rfl rfl rfl ?_
  refine q_getv (v := (6, 7, 0)) (p2 := 5) rfl hJ.1 (by decide) rfl rfl ?_
  refine q_getv (v := (6, 237, 0)) (p2 := 6) rfl hPS.1.choose_spec.1 (by decide) hPS.1.choose_spec.2.1 rfl ?_
  refine q_getv (v := (6, 246, 0)) (p2 := 7) rfl hS.1.choose_spec.1 (by decide) hS.1.choose_spec.2.2.2.1 rfl ?_
  refine q_const (p2 := 8) rfl rfl ?_
  refine q_aldv (v := (0, 5, 0)) (p2 := 9) rfl (x_sc_246 hS) (by omega) (by omega) rfl rfl ?_
  refine q_icmp_s (p2 := 10) rfl (by decide) (by omega) (by omega) rfl (fun hb => absurd hb (show ¬ (¬ (4 < 5)) by omega)) (fun _ => ?_)
  refine q_load (v := (6, 468, 0)) (p2 := 11) rfl rfl rfl rfl ?_
  refine q_getv (v := (6, 7, 0)) (p2 := 12) rfl hJ.1 (by decide) rfl rfl ?_
  refine q_getv (v := (6, 237, 0)) (p2 := 13) rfl hPS.1.choose_spec.1 (by decide) hPS.1.choose_spec.2.1 rfl ?_
  refine q_getv (v := (6, 271, 0)) (p2 := 14) rfl hS.1.choose_spec.1 (by decide) hS.1.choose_spec.2.2.2.2.2.2.2.2.1 rfl ?_
  refine q_load (v := (0, 4, 0)) (p2 := 15) rfl rfl rfl rfl ?_
  refine q_aldv (v := (6, 276, 0)) (p2 := 16) rfl (x_sc_271 hS) (by omega) (by omega) rfl rfl ?_
  refine q_store (loc2 := [(6, 468, 0), (0, x, 0), (0, 2, 0), (0, 4, 0), (6, 276, 0), (0, 0, 0)]) (p2 := 17) rfl rfl rfl rfl rfl ?_
  refine q_load (v := (6, 276, 0)) (p2 := 18) rfl rfl rfl rfl ?_
  refine q_const (p2 := 19) rfl rfl ?_
  refine q_aldv (v := (0, 2, 0)) (p2 := 20) rfl (x_sc_276 hS) (by omega) (by omega) rfl rfl ?_
  refine q_store (loc2 := [(6, 468, 0), (0, x, 0), (0, 2, 0), (0, 4, 0), (6, 276, 0), (0, 2, 0)]) (p2 := 21) rfl rfl rfl rfl rfl ?_
  refine q_load (v := (6, 276, 0)) (p2 := 22) rfl rfl rfl rfl ?_
  refine q_const (p2 := 23) rfl rfl ?_
  refine q_aldv (v := (0, 2, 0)) (p2 := 24) rfl (x_sc_276 hS) (by omega) (by omega) rfl rfl ?_
  refine q_load (v := (0, 2, 0)) (p2 := 25) rfl rfl rfl rfl ?_
  refine q_icmp_s (p2 := 26) rfl (by decide) (by omega) (by omega) rfl (fun hb => absurd hb (show ¬ (¬ (2 = 2)) by omega)) (fun _ => ?_)
  refine q_load (v := (0, 2, 0)) (p2 := 27) rfl rfl rfl rfl ?_
  refine q_const (p2 := 28) rfl rfl ?_
  refine q_icmp_s (p2 := 29) rfl (by decide) (by omega) (by omega) rfl (fun hb => absurd hb (show ¬ (¬ (2 = 2)) by omega)) (fun _ => ?_)
  refine q_load (v := (6, 468, 0)) (p2 := 30) rfl rfl rfl rfl ?_
  refine q_load (v := (6, 468, 0)) (p2 := 31) rfl rfl rfl rfl ?_
  refine q_getv (v := (6, 7, 0)) (p2 := 32) rfl hJ.1 (by decide) rfl rfl ?_
  refine q_load (v := (0, x, 0)) (p2 := 33) rfl rfl rfl rfl ?_
  refine q_load (v := (6, 276, 0)) (p2 := 34) rfl rfl rfl rfl ?_
  refine q_const (p2 := 35) rfl rfl ?_
  refine q_aldv (v := (0, 3, 0)) (p2 := 36) rfl (x_sc_276 hS) (by omega) (by omega) rfl rfl ?_
  refine q_callr (xs := [(0, 3, 0), (0, x, 0), (6, 7, 0)]) (p2 := 37) rfl rfl rfl rfl (x_rcv_s 7 hPS.1.choose_spec.1) rfl (e_countUsers hPS (by omega) (by omega)) (Nat.le_refl _) (Nat.le_refl _) rfl ?_
  refine q_load (v := (6, 276, 0)) (p2 := 38) rfl rfl rfl rfl ?_
  refine q_const (p2 := 39) rfl rfl ?_
  refine q_aldv (v := (0, 4, 0)) (p2 := 40) rfl (x_sc_276 hS) (by omega) (by omega) rfl rfl ?_
  refine q_callK (xs := [(0, 4, 0), (0, (x_fl (fun y => comb y ≠ 0 ∧ x_ho (hm (y * 40 + 3)) x) made).length, 0), (6, 468, 0)]) (p2 := 41) rfl rfl rfl rfl (x_rcv_s 468 hJ.1) rfl rfl ?_
  refine x_f_of rfl ?_
  refine q_load (v := (6, 468, 0)) (p2 := 1) rfl rfl rfl rfl ?_
  refine q_getv (v := (6, 7, 0)) (p2 := 2) rfl hJ.1 (by decide) rfl rfl ?_
  refine q_getv (v := (6, 237, 0)) (p2 := 3) rfl hPS.1.choose_spec.1 (by decide) hPS.1.choose_spec.2.1 rfl ?_
  refine q_load (v := (0, 4, 0)) (p2 := 4) rfl rfl rfl rfl ?_
  refine q_const (p2 := 5) rfl rfl ?_
  refine q_callK (xs := [(0, 6, 0), (0, 4, 0), (6, 237, 0)]) (p2 := 6) rfl rfl rfl rfl (x_rcv_s 237 hS.1.choose_spec.1) rfl rfl ?_
  refine x_f_of rfl ?_
  refine q_load (v := (0, 4, 0)) (p2 := 1) rfl rfl rfl rfl ?_
  refine q_if0_s (p2 := 2) rfl (by decide) (by omega) rfl (fun hb => absurd hb (show ¬ (4 < 0) by omega)) (fun _ => ?_)
  refine q_load (v := (0, 4, 0)) (p2 := 3) rfl rfl rfl rfl ?_
  refine q_load (v := (6, 237, 0)) (p2 := 4) rfl rfl rfl rfl ?_
  refine q_getv (v := (6, 312, 0)) (p2 := 5) rfl hS.1.choose_spec.1 (by decide) hS.1.choose_spec.2.2.2.2.2.2.2.2.2.1 rfl ?_
  refine q_alen (p2 := 6) rfl (x_sc_312 hS) rfl (by omega) rfl ?_
  refine q_icmp_s (p2 := 7) rfl (by decide) (by omega) (by omega) rfl (fun hb => absurd hb (show ¬ (¬ (4 < 128)) by omega)) (fun _ => ?_)
  refine q_load (v := (0, 6, 0)) (p2 := 8) rfl rfl rfl rfl ?_
  refine q_if0_s (p2 := 9) rfl (by decide) (by omega) rfl (fun hb => absurd hb (show ¬ (6 < 0) by omega)) (fun _ => ?_)
  refine q_load (v := (0, 6, 0)) (p2 := 10) rfl rfl rfl rfl ?_
  refine q_const (p2 := 11) rfl rfl ?_
  refine q_icmp_s (p2 := 12) rfl (by decide) (by omega) (by omega) rfl (fun _ => ?_) (fun hb => absurd (show 6 < 9 by omega) hb)
  refine q_load (v := (6, 237, 0)) (p2 := 15) rfl rfl rfl rfl ?_
  refine q_getv (v := (6, 312, 0)) (p2 := 16) rfl hS.1.choose_spec.1 (by decide) hS.1.choose_spec.2.2.2.2.2.2.2.2.2.1 rfl ?_
  refine q_load (v := (0, 4, 0)) (p2 := 17) rfl rfl rfl rfl ?_
  refine q_aldv (v := (6, 317, 0)) (p2 := 18) rfl (x_sc_312 hS) (by omega) (by omega) rfl rfl ?_
  refine q_load (v := (0, 6, 0)) (p2 := 19) rfl rfl rfl rfl ?_
  refine q_aldv (v := (0, 1, 0)) (p2 := 20) rfl (x_sc_317 hS) (by omega) (by omega) rfl rfl ?_
  refine q_retv (v := (0, 1, 0)) rfl rfl ⟨rfl, by omega, by omega, ?_⟩
  refine q_store (loc2 := [(6, 468, 0), (0, (x_fl (fun y => comb y ≠ 0 ∧ x_ho (hm (y * 40 + 3)) x) made).length, 0), (0, 4, 0), (0, 1, 0)]) (p2 := 7) rfl rfl rfl rfl rfl ?_
  refine q_load (v := (0, (x_fl (fun y => comb y ≠ 0 ∧ x_ho (hm (y * 40 + 3)) x) made).length, 0)) (p2 := 8) rfl rfl rfl rfl ?_
  refine q_load (v := (6, 468, 0)) (p2 := 9) rfl rfl rfl rfl ?_
  refine q_getv (v := (6, 7, 0)) (p2 := 10) rfl hJ.1 (by decide) rfl rfl ?_
  refine q_getv (v := (6, 237, 0)) (p2 := 11) rfl hPS.1.choose_spec.1 (by decide) hPS.1.choose_spec.2.1 rfl ?_
  refine q_load (v := (0, 4, 0)) (p2 := 12) rfl rfl rfl rfl ?_
  refine q_const (p2 := 13) rfl rfl ?_
  refine q_callK (xs := [(0, 5, 0), (0, 4, 0), (6, 237, 0)]) (p2 := 14) rfl rfl rfl rfl (x_rcv_s 237 hS.1.choose_spec.1) rfl rfl ?_
  refine x_f_of rfl ?_
  refine q_load (v := (0, 4, 0)) (p2 := 1) rfl rfl rfl rfl ?_
  refine q_if0_s (p2 := 2) rfl (by decide) (by omega) rfl (fun hb => absurd hb (show ¬ (4 < 0) by omega)) (fun _ => ?_)
  refine q_load (v := (0, 4, 0)) (p2 := 3) rfl rfl rfl rfl ?_
  refine q_load (v := (6, 237, 0)) (p2 := 4) rfl rfl rfl rfl ?_
  refine q_getv (v := (6, 312, 0)) (p2 := 5) rfl hS.1.choose_spec.1 (by decide) hS.1.choose_spec.2.2.2.2.2.2.2.2.2.1 rfl ?_
  refine q_alen (p2 := 6) rfl (x_sc_312 hS) rfl (by omega) rfl ?_
  refine q_icmp_s (p2 := 7) rfl (by decide) (by omega) (by omega) rfl (fun hb => absurd hb (show ¬ (¬ (4 < 128)) by omega)) (fun _ => ?_)
  refine q_load (v := (0, 5, 0)) (p2 := 8) rfl rfl rfl rfl ?_
  refine q_if0_s (p2 := 9) rfl (by decide) (by omega) rfl (fun hb => absurd hb (show ¬ (5 < 0) by omega)) (fun _ => ?_)
  refine q_load (v := (0, 5, 0)) (p2 := 10) rfl rfl rfl rfl ?_
  refine q_const (p2 := 11) rfl rfl ?_
  refine q_icmp_s (p2 := 12) rfl (by decide) (by omega) (by omega) rfl (fun _ => ?_) (fun hb => absurd (show 5 < 9 by omega) hb)
  refine q_load (v := (6, 237, 0)) (p2 := 15) rfl rfl rfl rfl ?_
  refine q_getv (v := (6, 312, 0)) (p2 := 16) rfl hS.1.choose_spec.1 (by decide) hS.1.choose_spec.2.2.2.2.2.2.2.2.2.1 rfl ?_
  refine q_load (v := (0, 4, 0)) (p2 := 17) rfl rfl rfl rfl ?_
  refine q_aldv (v := (6, 317, 0)) (p2 := 18) rfl (x_sc_312 hS) (by omega) (by omega) rfl rfl ?_
  refine q_load (v := (0, 5, 0)) (p2 := 19) rfl rfl rfl rfl ?_
  refine q_aldv (v := (0, 0, 0)) (p2 := 20) rfl (x_sc_317 hS) (by omega) (by omega) rfl rfl ?_
  refine q_retv (v := (0, 0, 0)) rfl rfl ⟨rfl, by omega, by omega, ?_⟩
  refine q_icmp_s (p2 := 15) rfl (by decide) (by omega) (by omega) rfl (fun hb => absurd hb (show ¬ ((x_fl (fun y => comb y ≠ 0 ∧ x_ho (hm (y * 40 + 3)) x) made).length < 0) by omega)) (fun _ => ?_)
  refine q_load (v := (0, 1, 0)) (p2 := 16) rfl rfl rfl rfl ?_
  refine q_if0_s (p2 := 17) rfl (by decide) (by omega) rfl (fun hb => absurd hb (show ¬ (1 < 0) by omega)) (fun _ => ?_)
  refine q_load (v := (0, (x_fl (fun y => comb y ≠ 0 ∧ x_ho (hm (y * 40 + 3)) x) made).length, 0)) (p2 := 18) rfl rfl rfl rfl ?_
  refine q_load (v := (0, 1, 0)) (p2 := 19) rfl rfl rfl rfl ?_
  refine q_icmp_s (p2 := 20) rfl (by decide) (by omega) (by omega) rfl (fun _ => ?_) (fun hb => absurd (show 1 < (x_fl (fun y => comb y ≠ 0 ∧ x_ho (hm (y * 40 + 3)) x) made).length by omega) hb)
  refine q_const (p2 := 23) rfl rfl ?_
  refine q_retv (v := (0, 0, 0)) rfl rfl ⟨rfl, by omega, by omega, ?_⟩
  refine q_if0_s (p2 := 42) rfl (by decide) (by omega) rfl (fun hb => absurd hb (show ¬ (¬ (0 = 0)) by omega)) (fun _ => ?_)
  refine q_const (p2 := 43) rfl rfl ?_
  exact q_retv (v := (0, 0, 0)) rfl rfl (⟨rfl, rfl, funext (fun j => rfl), by omega, by omega⟩)
end FPOP67
