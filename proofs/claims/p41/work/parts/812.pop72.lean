section FPOP72
/-- an instance, the population, as they are written -/
def wi (comb : Nat → Nat) (hm : Nat → MV) (x : Nat) : List Nat := if comb x = 3 then [35] ++ (xdec x ++ ([61] ++ ([98] ++ ([40] ++ (zhb (hm (x * 40)) ++ ([44] ++ (zhb (hm (x * 40 + 1)) ++ ([44] ++ (zhb (hm (x * 40 + 3)) ++ ([41] ++ ([59]))))))))))) else [35] ++ (xdec x ++ ([61] ++ ([99] ++ ([40] ++ (zhb (hm (x * 40)) ++ ([44] ++ (zhb (hm (x * 40 + 1)) ++ ([41] ++ ([59])))))))))
def wl (comb : Nat → Nat) (hm : Nat → MV) : Nat → List Nat
  | 0 => []
  | x + 1 => wl comb hm x ++ (if comb x ≠ 0 then wi comb hm x else [])
theorem zD_of {φ : FH} {wb wd sz : Nat} {b1w b2w bw : Nat → Nat} (h : zq_W φ wb sz wd 0 b1w b2w) (hx : (wb = 479 ∧ wd = 480 ∧ b1w = bw) ∨ (wb = 480 ∧ wd = 479 ∧ b2w = bw)) : zD φ sz bw [] 0 :=
  ⟨Nat.le_refl _, _, _, _, _, h, hx.imp (fun q => ⟨q.1, q.2.1, q.2.2, fun i hi => absurd hi (by show ¬ i < 0; omega)⟩) (fun q => ⟨q.1, q.2.1, q.2.2, fun i hi => absurd hi (by show ¬ i < 0; omega)⟩), fun y hy => nomatch hy⟩
theorem wi_3 {comb : Nat → Nat} {hm : Nat → MV} {x : Nat} {L : List Nat} (h : comb x = 3) : ((((((((((((L ++ [35]) ++ xdec x) ++ [61]) ++ [98]) ++ [40]) ++ zhb (hm (x * 40))) ++ [44]) ++ zhb (hm (x * 40 + 1))) ++ [44]) ++ zhb (hm (x * 40 + 3))) ++ [41]) ++ [59]) = L ++ wi comb hm x := by
  unfold wi; rw [if_pos h]; simp only [List.append_assoc]
theorem wi_5 {comb : Nat → Nat} {hm : Nat → MV} {x : Nat} {L : List Nat} (h : comb x = 5) : ((((((((((L ++ [35]) ++ xdec x) ++ [61]) ++ [99]) ++ [40]) ++ zhb (hm (x * 40))) ++ [44]) ++ zhb (hm (x * 40 + 1))) ++ [41]) ++ [59]) = L ++ wi comb hm x := by
  unfold wi; rw [if_neg (by omega)]; simp only [List.append_assoc]
theorem wl_in {comb : Nat → Nat} {hm : Nat → MV} {x : Nat} (h : comb x ≠ 0) : wl comb hm (x + 1) = wl comb hm x ++ wi comb hm x := by
  show wl comb hm x ++ (if comb x ≠ 0 then wi comb hm x else []) = _
  rw [if_pos h]
theorem wl_out {comb : Nat → Nat} {hm : Nat → MV} {x : Nat} (h : ¬ comb x ≠ 0) : wl comb hm (x + 1) = wl comb hm x := by
  show wl comb hm x ++ (if comb x ≠ 0 then wi comb hm x else []) = _
  rw [if_neg h, List.append_nil]
theorem zc_inst {d n sl : Nat} {φ : FH} {A : Nat} {B : Nat} {made : Nat} {sv : Nat} {svm : Nat} {s9 : Nat} {comb : Nat → Nat} {hm : Nat → MV} {sz b x : Nat} {bw : Nat → Nat} {L : List Nat} (hPS : x_PS φ A B made sv svm s9 comb hm) (hS : x_sch φ) (hN : zq_nm φ) (hn0 : 486 ≤ n) (hD : zD φ sz bw L b) (hx : x < 40) (hz : ∀ a, a = 0 ∨ a = 1 ∨ a = 3 → zHM (hm (x * 40 + a))) (hb : b < 5600) (hc : comb x = 3 ∨ comb x = 5) : x_f x_P (d + 9) 74 [(6, 478, 0), (0, x, 0), (0, comb x, 0), (11, 0, 0), (11, 0, 0)] φ n sl (x_vR n sl (fun φ2 => zD φ2 sz bw (L ++ wi comb hm x) (b + 80) ∧ ∀ j, j ≠ 478 → j ≠ 479 → j ≠ 480 → φ2 j = φ j)) := by
  rcases hc with hc | hc
  · rw [hc]
    exact x_f_mono (zc_inst_3 hPS hS hN hn0 hD hx (hz 0 (Or.inl rfl)) (hz 1 (Or.inr (Or.inl rfl))) (hz 3 (Or.inr (Or.inr rfl))) hb) (fun u w φ2 n2 sl2 q => ⟨q.1, q.2.1, q.2.2.1, zD_eq (zD_le q.2.2.2.1 (by omega)) (wi_3 hc), q.2.2.2.2⟩)
  · rw [hc]
    exact x_f_mono (zc_inst_5 hPS hS hN hn0 hD hx (hz 0 (Or.inl rfl)) (hz 1 (Or.inr (Or.inl rfl))) (hz 3 (Or.inr (Or.inr rfl))) hb) (fun u w φ2 n2 sl2 q => ⟨q.1, q.2.1, q.2.2.1, zD_eq (zD_le q.2.2.2.1 (by omega)) (wi_5 hc), q.2.2.2.2⟩)
theorem zc_w_fin_480 {d n sl : Nat} {φ : FH} {sz : Nat} {dr : Nat} {b1w : Nat → Nat} {b2w : Nat → Nat} (hW : zq_W φ 479 sz 480 dr b1w b2w) (hc0 : dr ≤ 6000) : x_f x_P (d + 1) 75 [(6, 478, 0), (11, 0, 0)] φ n sl (x_rR (0, dr, 0) n sl (fun φ2 => zq_W φ2 480 dr 479 dr b1w b2w ∧ ∀ j, j ≠ 478 → φ2 j = φ j)) := by
  refine x_f_of rfl ?_
  refine q_load (v := (6, 478, 0)) (p2 := 1) rfl rfl rfl rfl ?_
  refine q_getv (v := (0, dr, 0)) (p2 := 2) rfl hW.1 (by decide) rfl rfl ?_
  refine q_const (p2 := 3) rfl rfl ?_
  refine q_icmp_s (p2 := 4) rfl (by decide) (by omega) (by omega) rfl (fun _ => ?_) (fun hb => absurd (show ¬ (6000 < dr) by omega) hb)
  refine q_load (v := (6, 478, 0)) (p2 := 7) rfl rfl rfl rfl ?_
  refine q_getv (v := (6, 479, 0)) (p2 := 8) rfl hW.1 (by decide) rfl rfl ?_
  refine q_store (loc2 := [(6, 478, 0), (6, 479, 0)]) (p2 := 9) rfl rfl rfl rfl rfl ?_
  refine q_load (v := (6, 478, 0)) (p2 := 10) rfl rfl rfl rfl ?_
  refine q_load (v := (6, 478, 0)) (p2 := 11) rfl rfl rfl rfl ?_
  refine q_getv (v := (6, 480, 0)) (p2 := 12) rfl hW.1 (by decide) rfl rfl ?_
  refine q_putfE (v := (6, 480, 0)) (p2 := 13) rfl hW.1 (by decide) rfl rfl (fun φ1 f1 hh1 hg1 ho1 fr1 => ?_)
  have hs1 := zq_W_put_478_1 hW hh1 hg1 ho1 fr1
  refine q_load (v := (6, 478, 0)) (p2 := 14) rfl rfl rfl rfl ?_
  refine q_load (v := (6, 479, 0)) (p2 := 15) rfl rfl rfl rfl ?_
  refine q_putfE (v := (6, 479, 0)) (p2 := 16) rfl hs1.1 (by decide) rfl rfl (fun φ2 f2 hh2 hg2 ho2 fr2 => ?_)
  have hs2 := zq_W_put_478_3 hs1 hh2 hg2 ho2 fr2
  refine q_load (v := (6, 478, 0)) (p2 := 17) rfl rfl rfl rfl ?_
  refine q_load (v := (6, 478, 0)) (p2 := 18) rfl rfl rfl rfl ?_
  refine q_getv (v := (0, dr, 0)) (p2 := 19) rfl hs2.1 (by decide) rfl rfl ?_
  refine q_putfE (v := (0, dr, 0)) (p2 := 20) rfl hs2.1 (by decide) rfl rfl (fun φ3 f3 hh3 hg3 ho3 fr3 => ?_)
  have hs3 := zq_W_put_478_2 hs2 hh3 hg3 ho3 fr3
  refine q_load (v := (6, 478, 0)) (p2 := 21) rfl rfl rfl rfl ?_
  refine q_getv (v := (0, dr, 0)) (p2 := 22) rfl hs3.1 (by decide) rfl rfl ?_
  exact q_retv (v := (0, dr, 0)) rfl rfl (⟨rfl, rfl, rfl, rfl, hs3, fun j hj0 => ((fr3 j (by omega)).trans ((fr2 j (by omega)).trans (fr1 j (by omega))))⟩)
theorem zc_w_fin_479 {d n sl : Nat} {φ : FH} {sz : Nat} {dr : Nat} {b1w : Nat → Nat} {b2w : Nat → Nat} (hW : zq_W φ 480 sz 479 dr b1w b2w) (hc0 : dr ≤ 6000) : x_f x_P (d + 1) 75 [(6, 478, 0), (11, 0, 0)] φ n sl (x_rR (0, dr, 0) n sl (fun φ2 => zq_W φ2 479 dr 480 dr b1w b2w ∧ ∀ j, j ≠ 478 → φ2 j = φ j)) := by
  refine x_f_of rfl ?_
  refine q_load (v := (6, 478, 0)) (p2 := 1) rfl rfl rfl rfl ?_
  refine q_getv (v := (0, dr, 0)) (p2 := 2) rfl hW.1 (by decide) rfl rfl ?_
  refine q_const (p2 := 3) rfl rfl ?_
  refine q_icmp_s (p2 := 4) rfl (by decide) (by omega) (by omega) rfl (fun _ => ?_) (fun hb => absurd (show ¬ (6000 < dr) by omega) hb)
  refine q_load (v := (6, 478, 0)) (p2 := 7) rfl rfl rfl rfl ?_
  refine q_getv (v := (6, 480, 0)) (p2 := 8) rfl hW.1 (by decide) rfl rfl ?_
  refine q_store (loc2 := [(6, 478, 0), (6, 480, 0)]) (p2 := 9) rfl rfl rfl rfl rfl ?_
  refine q_load (v := (6, 478, 0)) (p2 := 10) rfl rfl rfl rfl ?_
  refine q_load (v := (6, 478, 0)) (p2 := 11) rfl rfl rfl rfl ?_
  refine q_getv (v := (6, 479, 0)) (p2 := 12) rfl hW.1 (by decide) rfl rfl ?_
  refine q_putfE (v := (6, 479, 0)) (p2 := 13) rfl hW.1 (by decide) rfl rfl (fun φ1 f1 hh1 hg1 ho1 fr1 => ?_)
  have hs1 := zq_W_put_478_1 hW hh1 hg1 ho1 fr1
  refine q_load (v := (6, 478, 0)) (p2 := 14) rfl rfl rfl rfl ?_
  refine q_load (v := (6, 480, 0)) (p2 := 15) rfl rfl rfl rfl ?_
  refine q_putfE (v := (6, 480, 0)) (p2 := 16) rfl hs1.1 (by decide) rfl rfl (fun φ2 f2 hh2 hg2 ho2 fr2 => ?_)
  have hs2 := zq_W_put_478_3 hs1 hh2 hg2 ho2 fr2
  refine q_load (v := (6, 478, 0)) (p2 := 17) rfl rfl rfl rfl ?_
  refine q_load (v := (6, 478, 0)) (p2 := 18) rfl rfl rfl rfl ?_
  refine q_getv (v := (0, dr, 0)) (p2 := 19) rfl hs2.1 (by decide) rfl rfl ?_
  refine q_putfE (v := (0, dr, 0)) (p2 := 20) rfl hs2.1 (by decide) rfl rfl (fun φ3 f3 hh3 hg3 ho3 fr3 => ?_)
  have hs3 := zq_W_put_478_2 hs2 hh3 hg3 ho3 fr3
  refine q_load (v := (6, 478, 0)) (p2 := 21) rfl rfl rfl rfl ?_
  refine q_getv (v := (0, dr, 0)) (p2 := 22) rfl hs3.1 (by decide) rfl rfl ?_
  exact q_retv (v := (0, dr, 0)) rfl rfl (⟨rfl, rfl, rfl, rfl, hs3, fun j hj0 => ((fr3 j (by omega)).trans ((fr2 j (by omega)).trans (fr1 j (by omega))))⟩)
theorem zc_finD {d n sl : Nat} {φ : FH} {sz b : Nat} {bw : Nat → Nat} {L : List Nat} (hD : zD φ sz bw L b) (hb : b ≤ 6000) : x_f x_P (d + 1) 75 [(6, 478, 0), (11, 0, 0)] φ n sl (x_rR (0, L.length, 0) n sl (fun φ2 => (∃ bw2, (∀ i, i < L.length → bw2 i = L.getD i 0) ∧ zWJ φ2 L.length bw2) ∧ ∀ j, j ≠ 478 → φ2 j = φ j)) := by
  obtain ⟨h0, wb, wd, b1w, b2w, h, hx, h128⟩ := hD
  have hg : ∀ i, i < L.length → L.getD i 0 < 128 := by
    intro i hi
    rw [List.getD_eq_getElem?_getD, List.getElem?_eq_getElem hi]
    exact h128 _ (List.getElem_mem hi)
  rcases hx with ⟨rfl, rfl, e1, e2⟩ | ⟨rfl, rfl, e1, e2⟩
  · refine x_f_mono (zc_w_fin_480 h (by omega)) (fun u w φ2 n2 sl2 q => ?_)
    obtain ⟨q1, q2, q3, q4, q5, q6⟩ := q
    exact ⟨q1, q2, q3, q4, ⟨b2w, e2, _, _, _, _, _, q5, Or.inr ⟨rfl, rfl, rfl⟩, fun i hi => by rw [e2 i hi]; exact hg i hi, by omega⟩, q6⟩
  · refine x_f_mono (zc_w_fin_479 h (by omega)) (fun u w φ2 n2 sl2 q => ?_)
    obtain ⟨q1, q2, q3, q4, q5, q6⟩ := q
    exact ⟨q1, q2, q3, q4, ⟨b1w, e2, _, _, _, _, _, q5, Or.inl ⟨rfl, rfl, rfl⟩, fun i hi => by rw [e2 i hi]; exact hg i hi, by omega⟩, q6⟩
set_option maxHeartbeats 1000000 in
theorem zc_wr_loop {d n sl : Nat} {φ0 : FH} {tpd : Nat} {tp : Nat → Nat} {lf : Nat} {mi : Nat} {made : Nat} {sv : Nat} {svm : Nat} {comb : Nat → Nat} {hm : Nat → MV} {sc : Nat → Nat} {sm : Nat → MV} {mh : MV} {noted : Nat} {verd : Nat} {ins : Nat → Nat} {ver : Nat → Nat} {sz : Nat} {bw : Nat → Nat} (hG : zG φ0 tpd tp lf mi made sv svm comb hm sc sm mh noted verd ins ver sz bw) (hlt0 : ∀ k q, φ0 k = some q → k < n) (hn0 : 486 ≤ n) (hz : ∀ x, x < 40 → ∀ a, a = 0 ∨ a = 1 ∨ a = 3 → zHM (hm (x * 40 + a))) (hcb : ∀ x, x < made → comb x = 0 ∨ comb x = 3 ∨ comb x = 5) (k : Nat) : ∀ (x : Nat) (φ : FH), x + k = made → (∀ j, j ≠ 478 → j ≠ 479 → j ≠ 480 → φ j = φ0 j) → zD φ sz bw (wl comb hm x) (80 * x) → x_n x_P (d + 9) xc_29 5 [] [(6, 0, 0), (0, x, 0)] φ n sl (x_rR (0, (wl comb hm made).length, 0) n sl (fun φ2 => ∃ bwZ : Nat → Nat, (∀ i, i < (wl comb hm made).length → bwZ i = (wl comb hm made).getD i 0) ∧ zG φ2 tpd tp lf mi made sv svm comb hm sc sm mh noted verd ins ver (wl comb hm made).length bwZ)) := by
  induction k with
  | zero =>
    intro x φ hk frn0 hD
    have hxm : made = x := hk.symm
    subst hxm
    have hG0 := hG
    obtain ⟨⟨hand, ie, hH, hhw⟩, hB, hTJ, hEJ, hN, hKJ, ⟨A, B, s9, hPS, hLK0⟩, hSP, hV5, ⟨slq, hSL⟩, hRW, hJ, hFJ, hWJ, ⟨ovn, ovh, hOV, hovn, hovh⟩⟩ := hG
    have hmade := x_PS_lt hPS
    obtain ⟨co, ⟨top_, fr_, pc_, mm, st, lo, re, rs, fl, se, hKS⟩, hco⟩ := hKJ
    refine q_load (v := (0, made, 0)) (p2 := 6) rfl rfl rfl rfl ?_
    refine q_load (v := (6, 0, 0)) (p2 := 7) rfl rfl rfl rfl ?_
    have hm1 := (zq_H_at hH (frn0 0 (by omega) (by omega) (by omega)))
    refine q_getv (v := (6, 7, 0)) (p2 := 8) rfl hm1 (by decide) rfl rfl ?_
    refine x_n_lt (fun hlt3 => ?_)
    have hm2 := (x_PS_at hPS (fun j hj hne => by have hj2 := x_some_lt hlt0 hne; exact (frn0 j (by omega) (by omega) (by omega))))
    refine q_getv (v := (0, made, 0)) (p2 := 9) rfl hm2.1.choose_spec.1 (by decide) hm2.1.choose_spec.2.2.2.1 rfl ?_
    refine q_icmp_s (p2 := 10) rfl (by decide) (by omega) (by omega) rfl (fun _ => ?_) (fun hb => absurd (show ¬ (made < made) by omega) hb)
    refine q_load (v := (6, 0, 0)) (p2 := 26) rfl rfl rfl rfl ?_
    refine q_getv (v := (6, 478, 0)) (p2 := 27) rfl hm1 (by decide) rfl rfl ?_
    refine q_callrE (xs := [(6, 478, 0)]) (p2 := 28) rfl rfl rfl rfl (x_rcv_s 478 (zD_478 hD).choose_spec.1) rfl (zc_finD hD (by omega)) (Nat.le_refl _) (Nat.le_refl _) rfl (fun φ4 hR4 => ?_)
    obtain ⟨⟨bwZ, hbwZ, hWZ⟩, frn4⟩ := hR4
    have hm5 := (zq_H_at hm1 (frn4 0 (by omega)))
    have hm6 := (zq_tp_at hB ((frn4 1 (by omega)).trans (frn0 1 (by omega) (by omega) (by omega))))
    have hm7 := (zTJ_at hTJ (fun j h1 h2 => ((frn4 j (by omega)).trans (frn0 j (by omega) (by omega) (by omega)))))
    have hm8 := (zEJ_at hEJ (fun j h1 h2 => ((frn4 j (by omega)).trans (frn0 j (by omega) (by omega) (by omega)))))
    have hm9 := (zq_nm_at hN ((frn4 239 (by omega)).trans (frn0 239 (by omega) (by omega) (by omega))) ((frn4 242 (by omega)).trans (frn0 242 (by omega) (by omega) (by omega))) ((frn4 244 (by omega)).trans (frn0 244 (by omega) (by omega) (by omega))))
    have hm10 := (x_KS_at2 hKS (fun j h1 h2 h3 h4 => ((frn4 j (by omega)).trans (frn0 j (by omega) (by omega) (by omega)))))
    refine x_n_lt (fun hlt12 => ?_)
    have hm11 := (x_PS_at hm2 (fun j hj hne => by have hj2 := x_some_lt hlt3 hne; exact (frn4 j (by omega))))
    have hm13 := (x_LK_at2 hLK0 (fun j h1 h2 => ((frn4 j (by omega)).trans (frn0 j (by omega) (by omega) (by omega)))))
    have hm14 := (x_SP_at hSP (fun j hj hne => by have hj2 := x_some_lt hlt0 hne; exact ((frn4 j (by omega)).trans (frn0 j (by omega) (by omega) (by omega)))))
    have hm15 := (zq_V5_at hV5 ((frn4 485 (by omega)).trans (frn0 485 (by omega) (by omega) (by omega))))
    have hm16 := (zq_SL_at hSL ((frn4 482 (by omega)).trans (frn0 482 (by omega) (by omega) (by omega))))
    have hm17 := (zq_RW_at hRW ((frn4 483 (by omega)).trans (frn0 483 (by omega) (by omega) (by omega))))
    have hm18 := (zq_J_at hJ ((frn4 468 (by omega)).trans (frn0 468 (by omega) (by omega) (by omega))) ((frn4 469 (by omega)).trans (frn0 469 (by omega) (by omega) (by omega))) ((frn4 470 (by omega)).trans (frn0 470 (by omega) (by omega) (by omega))))
    have hm19 := (zFJ_at hFJ (fun j h1 h2 => ((frn4 j (by omega)).trans (frn0 j (by omega) (by omega) (by omega)))))
    have hm20 := (zq_OV_at hOV ((frn4 452 (by omega)).trans (frn0 452 (by omega) (by omega) (by omega))) ((frn4 453 (by omega)).trans (frn0 453 (by omega) (by omega) (by omega))))
    exact q_retv (v := (0, (wl comb hm made).length, 0)) rfl rfl (⟨rfl, rfl, rfl, rfl, bwZ, hbwZ, ⟨⟨_, _, hm5, (x_hw_at hhw (fun j hj hne => by have hj2 := x_some_lt hlt0 hne; exact ((frn4 j (by omega)).trans (frn0 j (by omega) (by omega) (by omega)))))⟩, hm6, hm7, hm8, hm9, ⟨_, ⟨_, _, _, _, _, _, _, _, _, _, hm10⟩, hco⟩, ⟨_, _, _, hm11, hm13⟩, hm14, hm15, ⟨_, hm16⟩, hm17, hm18, hm19, hWZ, ⟨_, _, hm20, hovn, hovh⟩⟩⟩)
  | succ k ih =>
    intro x φ hk frn0 hD
    have hG0 := hG
    obtain ⟨⟨hand, ie, hH, hhw⟩, hB, hTJ, hEJ, hN, hKJ, ⟨A, B, s9, hPS, hLK0⟩, hSP, hV5, ⟨slq, hSL⟩, hRW, hJ, hFJ, hWJ, ⟨ovn, ovh, hOV, hovn, hovh⟩⟩ := hG
    have hmade := x_PS_lt hPS
    obtain ⟨co, ⟨top_, fr_, pc_, mm, st, lo, re, rs, fl, se, hKS⟩, hco⟩ := hKJ
    refine q_load (v := (0, x, 0)) (p2 := 6) rfl rfl rfl rfl ?_
    refine q_load (v := (6, 0, 0)) (p2 := 7) rfl rfl rfl rfl ?_
    have hm1 := (zq_H_at hH (frn0 0 (by omega) (by omega) (by omega)))
    refine q_getv (v := (6, 7, 0)) (p2 := 8) rfl hm1 (by decide) rfl rfl ?_
    refine x_n_lt (fun hlt3 => ?_)
    have hm2 := (x_PS_at hPS (fun j hj hne => by have hj2 := x_some_lt hlt0 hne; exact (frn0 j (by omega) (by omega) (by omega))))
    refine q_getv (v := (0, made, 0)) (p2 := 9) rfl hm2.1.choose_spec.1 (by decide) hm2.1.choose_spec.2.2.2.1 rfl ?_
    refine q_icmp_s (p2 := 10) rfl (by decide) (by omega) (by omega) rfl (fun hb => absurd hb (show ¬ (¬ (x < made)) by omega)) (fun _ => ?_)
    refine q_load (v := (6, 0, 0)) (p2 := 11) rfl rfl rfl rfl ?_
    refine q_getv (v := (6, 7, 0)) (p2 := 12) rfl hm1 (by decide) rfl rfl ?_
    refine q_load (v := (0, x, 0)) (p2 := 13) rfl rfl rfl rfl ?_
    refine q_callr (xs := [(0, x, 0), (6, 7, 0)]) (p2 := 14) rfl rfl rfl rfl (x_rcv_s 7 hm2.1.choose_spec.1) rfl (e_exists hm2.1.choose_spec hm2.2.1 (by omega)) (Nat.le_refl _) (Nat.le_refl _) rfl ?_
    by_cases hb4 : x < made ∧ comb x ≠ 0
    · rw [if_pos hb4]
      refine q_if0_s (p2 := 15) rfl (by decide) (by omega) rfl (fun hb => absurd hb (show ¬ (1 = 0) by omega)) (fun _ => ?_)
      refine q_load (v := (6, 0, 0)) (p2 := 16) rfl rfl rfl rfl ?_
      refine q_getv (v := (6, 478, 0)) (p2 := 17) rfl hm1 (by decide) rfl rfl ?_
      refine q_load (v := (0, x, 0)) (p2 := 18) rfl rfl rfl rfl ?_
      refine q_load (v := (6, 0, 0)) (p2 := 19) rfl rfl rfl rfl ?_
      refine q_getv (v := (6, 7, 0)) (p2 := 20) rfl hm1 (by decide) rfl rfl ?_
      refine q_load (v := (0, x, 0)) (p2 := 21) rfl rfl rfl rfl ?_
      refine q_callr (xs := [(0, x, 0), (6, 7, 0)]) (p2 := 22) rfl rfl rfl rfl (x_rcv_s 7 hm2.1.choose_spec.1) rfl (zr_pos (e_rowOf hm2.1.choose_spec hm2.2.1 (by omega)) (by omega)) (Nat.le_refl _) (Nat.le_refl _) rfl ?_
      have hm5 := (zq_nm_at hN (frn0 239 (by omega) (by omega) (by omega)) (frn0 242 (by omega) (by omega) (by omega)) (frn0 244 (by omega) (by omega) (by omega)))
      have hm6 := (x_KS_at2 hKS (fun j h1 h2 h3 h4 => (frn0 j (by omega) (by omega) (by omega))))
      refine q_callvE (xs := [(0, comb x, 0), (0, x, 0), (6, 478, 0)]) (p2 := 23) rfl rfl rfl rfl (x_rcv_s 478 (zD_478 hD).choose_spec.1) rfl (zc_inst hm2 hm6.2.2.2.2.2.2.2.2.2 hm5 (by omega) hD (by omega) (hz x (by omega)) (by omega) ((hcb x (by omega)).resolve_left hb4.2)) (Nat.le_refl _) (Nat.le_refl _) rfl (fun φ7 hR7 => ?_)
      obtain ⟨hD7, frn7⟩ := hR7
      refine q_iinc (z := x + 1) (loc2 := [(6, 0, 0), (0, x + 1, 0)]) (p2 := 24) rfl rfl (Nat.mod_eq_of_lt (by omega)) rfl rfl ?_
      refine q_goto rfl ?_
      exact ih (x + 1) _ (by omega) (fun j h1 h2 h3 => ((frn7 j (by omega) (by omega) (by omega)).trans (frn0 j (by omega) (by omega) (by omega)))) (zD_eq (zD_le hD7 (by omega)) (wl_in hb4.2).symm)
    · rw [if_neg hb4]
      refine q_if0_s (p2 := 15) rfl (by decide) (by omega) rfl (fun _ => ?_) (fun hb => absurd (show 0 = 0 by omega) hb)
      refine q_iinc (z := x + 1) (loc2 := [(6, 0, 0), (0, x + 1, 0)]) (p2 := 24) rfl rfl (Nat.mod_eq_of_lt (by omega)) rfl rfl ?_
      refine q_goto rfl ?_
      exact ih (x + 1) _ (by omega) (fun j h1 h2 h3 => (frn0 j (by omega) (by omega) (by omega))) (zD_eq (zD_le hD (by omega)) (wl_out (fun z => hb4 ⟨by omega, z⟩)).symm)
theorem zc_write {d n sl : Nat} {φ : FH} {tpd : Nat} {tp : Nat → Nat} {lf : Nat} {mi : Nat} {made : Nat} {sv : Nat} {svm : Nat} {comb : Nat → Nat} {hm : Nat → MV} {sc : Nat → Nat} {sm : Nat → MV} {mh : MV} {noted : Nat} {verd : Nat} {ins : Nat → Nat} {ver : Nat → Nat} {sz : Nat} {bw : Nat → Nat} (hG : zG φ tpd tp lf mi made sv svm comb hm sc sm mh noted verd ins ver sz bw) (hn0 : 486 ≤ n) (hz : ∀ x, x < 40 → ∀ a, a = 0 ∨ a = 1 ∨ a = 3 → zHM (hm (x * 40 + a))) (hcb : ∀ x, x < made → comb x = 0 ∨ comb x = 3 ∨ comb x = 5) : x_f x_P (d + 10) 29 [(6, 0, 0), (11, 0, 0)] φ n sl (x_rR (0, (wl comb hm made).length, 0) n sl (fun φ2 => ∃ bwZ : Nat → Nat, (∀ i, i < (wl comb hm made).length → bwZ i = (wl comb hm made).getD i 0) ∧ zG φ2 tpd tp lf mi made sv svm comb hm sc sm mh noted verd ins ver (wl comb hm made).length bwZ)) := by
  refine x_f_of rfl ?_
  have hG0 := hG
  obtain ⟨⟨hand, ie, hH, hhw⟩, hB, hTJ, hEJ, hN, hKJ, ⟨A, B, s9, hPS, hLK0⟩, hSP, hV5, ⟨slq, hSL⟩, hRW, hJ, hFJ, hWJ, ⟨ovn, ovh, hOV, hovn, hovh⟩⟩ := hG
  refine x_n_lt (fun hlt0 => ?_)
  have hmade := x_PS_lt hPS
  obtain ⟨co, ⟨top_, fr_, pc_, mm, st, lo, re, rs, fl, se, hKS⟩, hco⟩ := hKJ
  obtain ⟨wb, wd, dr, b1w, b2w, hW, hWx, hW128, hW6⟩ := hWJ
  refine q_load (v := (6, 0, 0)) (p2 := 1) rfl rfl rfl rfl ?_
  refine q_getv (v := (6, 478, 0)) (p2 := 2) rfl hH (by decide) rfl rfl ?_
  refine q_callKv (xs := [(6, 478, 0)]) (p2 := 3) rfl rfl rfl rfl (x_rcv_s 478 hW.1) rfl rfl ?_
  refine x_f_of rfl ?_
  refine q_load (v := (6, 478, 0)) (p2 := 1) rfl rfl rfl rfl ?_
  refine q_const (p2 := 2) rfl rfl ?_
  refine q_putfE (v := (0, 0, 0)) (p2 := 3) rfl hW.1 (by decide) rfl rfl (fun φ1 f1 hh1 hg1 ho1 fr1 => ?_)
  have hs1 := zq_W_put_478_4 hW hh1 hg1 ho1 fr1
  refine q_ret rfl ⟨rfl, by omega, by omega, ?_⟩
  refine q_const (p2 := 4) rfl rfl ?_
  refine q_store (loc2 := [(6, 0, 0), (0, 0, 0)]) (p2 := 5) rfl rfl rfl rfl rfl ?_
  exact zc_wr_loop (φ0 := φ) hG0 hlt0 hn0 hz hcb made 0 _ (by omega) (fun j h1 h2 h3 => (fr1 j (by omega))) (zD_of hs1 hWx)
theorem zc_out_479 {d n sl : Nat} {φ : FH} {tpd : Nat} {hand : Nat} {lf : Nat} {ie : Nat} {sz : Nat} {wd : Nat} {dr : Nat} {b1w : Nat → Nat} {b2w : Nat → Nat} {i : Nat} (hH : zq_H φ tpd hand lf ie) (hW : zq_W φ 479 sz wd dr b1w b2w) (hi : i < sz) (hsz : sz ≤ 6000) (hb : b1w i < 128) : x_f x_P (d + 1) 338 [(6, 0, 0), (0, i, 0)] φ n sl (x_r φ n sl (0, b1w i &&& 255, 0)) := by
  refine x_f_of rfl ?_
  refine q_load (v := (0, i, 0)) (p2 := 1) rfl rfl rfl rfl ?_
  refine q_if0_s (p2 := 2) rfl (by decide) (by omega) rfl (fun hb => absurd hb (show ¬ (i < 0) by omega)) (fun _ => ?_)
  refine q_load (v := (0, i, 0)) (p2 := 3) rfl rfl rfl rfl ?_
  refine q_load (v := (6, 0, 0)) (p2 := 4) rfl rfl rfl rfl ?_
  refine q_getv (v := (6, 478, 0)) (p2 := 5) rfl hH (by decide) rfl rfl ?_
  refine q_getv (v := (0, sz, 0)) (p2 := 6) rfl hW.1 (by decide) rfl rfl ?_
  refine q_icmp_s (p2 := 7) rfl (by decide) (by omega) (by omega) rfl (fun _ => ?_) (fun hb => absurd (show i < sz by omega) hb)
  refine q_load (v := (6, 0, 0)) (p2 := 10) rfl rfl rfl rfl ?_
  refine q_getv (v := (6, 478, 0)) (p2 := 11) rfl hH (by decide) rfl rfl ?_
  refine q_getv (v := (6, 479, 0)) (p2 := 12) rfl hW.1 (by decide) rfl rfl ?_
  refine q_load (v := (0, i, 0)) (p2 := 13) rfl rfl rfl rfl ?_
  refine q_aldT (tag := 0) (v := b1w i) (p2 := 14) rfl hW.2.1 (by omega) (by omega) rfl rfl ?_
  refine q_const (p2 := 15) rfl rfl ?_
  refine q_iand (p2 := 16) rfl (by omega) rfl ?_
  exact q_retv (v := (0, ((b1w i) &&& 255), 0)) rfl rfl (⟨rfl, rfl, rfl, rfl, rfl⟩)
theorem zc_out_480 {d n sl : Nat} {φ : FH} {tpd : Nat} {hand : Nat} {lf : Nat} {ie : Nat} {sz : Nat} {wd : Nat} {dr : Nat} {b1w : Nat → Nat} {b2w : Nat → Nat} {i : Nat} (hH : zq_H φ tpd hand lf ie) (hW : zq_W φ 480 sz wd dr b1w b2w) (hi : i < sz) (hsz : sz ≤ 6000) (hb : b2w i < 128) : x_f x_P (d + 1) 338 [(6, 0, 0), (0, i, 0)] φ n sl (x_r φ n sl (0, b2w i &&& 255, 0)) := by
  refine x_f_of rfl ?_
  refine q_load (v := (0, i, 0)) (p2 := 1) rfl rfl rfl rfl ?_
  refine q_if0_s (p2 := 2) rfl (by decide) (by omega) rfl (fun hb => absurd hb (show ¬ (i < 0) by omega)) (fun _ => ?_)
  refine q_load (v := (0, i, 0)) (p2 := 3) rfl rfl rfl rfl ?_
  refine q_load (v := (6, 0, 0)) (p2 := 4) rfl rfl rfl rfl ?_
  refine q_getv (v := (6, 478, 0)) (p2 := 5) rfl hH (by decide) rfl rfl ?_
  refine q_getv (v := (0, sz, 0)) (p2 := 6) rfl hW.1 (by decide) rfl rfl ?_
  refine q_icmp_s (p2 := 7) rfl (by decide) (by omega) (by omega) rfl (fun _ => ?_) (fun hb => absurd (show i < sz by omega) hb)
  refine q_load (v := (6, 0, 0)) (p2 := 10) rfl rfl rfl rfl ?_
  refine q_getv (v := (6, 478, 0)) (p2 := 11) rfl hH (by decide) rfl rfl ?_
  refine q_getv (v := (6, 480, 0)) (p2 := 12) rfl hW.1 (by decide) rfl rfl ?_
  refine q_load (v := (0, i, 0)) (p2 := 13) rfl rfl rfl rfl ?_
  refine q_aldT (tag := 0) (v := b2w i) (p2 := 14) rfl hW.2.2 (by omega) (by omega) rfl rfl ?_
  refine q_const (p2 := 15) rfl rfl ?_
  refine q_iand (p2 := 16) rfl (by omega) rfl ?_
  exact q_retv (v := (0, ((b2w i) &&& 255), 0)) rfl rfl (⟨rfl, rfl, rfl, rfl, rfl⟩)
theorem zc_out {d n sl : Nat} {φ : FH} {tpd : Nat} {tp : Nat → Nat} {lf : Nat} {mi : Nat} {made : Nat} {sv : Nat} {svm : Nat} {comb : Nat → Nat} {hm : Nat → MV} {sc : Nat → Nat} {sm : Nat → MV} {mh : MV} {noted : Nat} {verd : Nat} {ins : Nat → Nat} {ver : Nat → Nat} {sz : Nat} {bw : Nat → Nat} {i : Nat} (hG : zG φ tpd tp lf mi made sv svm comb hm sc sm mh noted verd ins ver sz bw) (hi : i < sz) : x_f x_P (d + 1) 338 [(6, 0, 0), (0, i, 0)] φ n sl (x_r φ n sl (0, bw i &&& 255, 0)) := by
  obtain ⟨⟨hand, ie, hH, hhw⟩, hB, hTJ, hEJ, hN, hKJ, hPJ, hSP, hV5, hSL, hRW, hJ, hFJ, hWJ, hOV⟩ := hG
  obtain ⟨wb, wd, dr, b1w, b2w, hW, hWx, hW128, hW6⟩ := hWJ
  rcases hWx with ⟨rfl, rfl, rfl⟩ | ⟨rfl, rfl, rfl⟩
  · exact zc_out_479 hH hW hi hW6 (hW128 i hi)
  · exact zc_out_480 hH hW hi hW6 (hW128 i hi)
end FPOP72
