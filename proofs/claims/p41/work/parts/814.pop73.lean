section FPOP73
theorem zc_kow_0 {d n sl : Nat} {φ : FH} {tot : Nat} {at_ : Nat} {cur : Nat} {pl : Nat} {va : Nat} {fa : Nat} {fp : Nat} {sf : Nat} {sp : Nat} {no : Nat} {op : Nat} {K : Nat → Nat} {P : Nat → Nat} {V : Nat → Nat} (hT : zq_T φ tot at_ cur pl va fa fp sf sp no op K P V) (k : Nat) : ∀ w, w + k = 50 → x_n x_P d xc_220 2 [] [(6, 2, 0), (2, 0, 0), (11, 0, 0), (0, w, 0)] φ n sl (x_r φ n sl (0, 1, 0)) := by
  induction k with
  | zero =>
    intro w hw
    have hw : w = 50 := hw
    subst hw
    refine q_load (v := (0, 50, 0)) (p2 := 3) rfl rfl rfl rfl ?_
    refine q_load (v := (6, 2, 0)) (p2 := 4) rfl rfl rfl rfl ?_
    refine q_getv (v := (6, 3, 0)) (p2 := 5) rfl hT.1 (by decide) rfl rfl ?_
    refine q_alen (p2 := 6) rfl hT.2.1 rfl (by omega) rfl ?_
    refine q_icmp_s (p2 := 7) rfl (by decide) (by omega) (by omega) rfl (fun _ => ?_) (fun hb => absurd (show ¬ (50 < 50) by omega) hb)
    refine q_const (p2 := 21) rfl rfl ?_
    exact q_retv (v := (0, 1, 0)) rfl rfl (⟨rfl, rfl, rfl, rfl, rfl⟩)
  | succ k ih =>
    intro w hw
    have hb := x_words_lt w
    have hne : x_words w ≠ 0 := (show ∀ i, i < 50 → x_words i ≠ 0 by decide +kernel) w (by omega)
    refine q_load (v := (0, w, 0)) (p2 := 3) rfl rfl rfl rfl ?_
    refine q_load (v := (6, 2, 0)) (p2 := 4) rfl rfl rfl rfl ?_
    refine q_getv (v := (6, 3, 0)) (p2 := 5) rfl hT.1 (by decide) rfl rfl ?_
    refine q_alen (p2 := 6) rfl hT.2.1 rfl (by omega) rfl ?_
    refine q_icmp_s (p2 := 7) rfl (by decide) (by omega) (by omega) rfl (fun hb => absurd hb (show ¬ (¬ (w < 50)) by omega)) (fun _ => ?_)
    refine q_load (v := (6, 2, 0)) (p2 := 8) rfl rfl rfl rfl ?_
    refine q_getv (v := (6, 3, 0)) (p2 := 9) rfl hT.1 (by decide) rfl rfl ?_
    refine q_load (v := (0, w, 0)) (p2 := 10) rfl rfl rfl rfl ?_
    refine q_aldT (tag := 2) (v := x_words w) (p2 := 11) rfl hT.2.1 (by omega) (by omega) rfl rfl ?_
    refine q_load (v := (2, 0, 0)) (p2 := 12) rfl rfl rfl rfl ?_
    refine q_lcif (p2 := 14) rfl rfl (by decide) (by omega) (by omega) rfl (fun _ => ?_) (fun hb => absurd (show ¬ (x_words w = 0) by omega) hb)
    refine q_iinc (z := w + 1) (loc2 := [(6, 2, 0), (2, 0, 0), (11, 0, 0), (0, w + 1, 0)]) (p2 := 19) rfl rfl (Nat.mod_eq_of_lt (by omega)) rfl rfl ?_
    refine q_goto rfl ?_
    exact ih (w + 1) (by omega)
theorem zc_kw_0 {d n sl : Nat} {φ : FH} {tot : Nat} {at_ : Nat} {cur : Nat} {pl : Nat} {va : Nat} {fa : Nat} {fp : Nat} {sf : Nat} {sp : Nat} {no : Nat} {op : Nat} {K : Nat → Nat} {P : Nat → Nat} {V : Nat → Nat} (hT : zq_T φ tot at_ cur pl va fa fp sf sp no op K P V) : x_f x_P (d + 1) 220 [(6, 2, 0), (2, 0, 0), (11, 0, 0), (11, 0, 0)] φ n sl (x_r φ n sl (0, 1, 0)) := by
  refine x_f_of rfl ?_
  refine q_const (p2 := 1) rfl rfl ?_
  refine q_store (loc2 := [(6, 2, 0), (2, 0, 0), (11, 0, 0), (0, 0, 0)]) (p2 := 2) rfl rfl rfl rfl rfl ?_
  exact zc_kow_0 hT 50 0 rfl
theorem zc_s_find2_0 {d n sl : Nat} {φ : FH}  (hS : x_sch φ) (hN : zq_nm φ)  : x_f x_P (d + 1) 217 [(6, 237, 0), (0, 2, 0), (2, 0, 0), (11, 0, 0), (11, 0, 0), (11, 0, 0)] φ n sl (x_r φ n sl (0, 4294967293, 0)) := by
  refine x_f_of rfl ?_
  refine q_load (v := (6, 237, 0)) (p2 := 1) rfl rfl rfl rfl ?_
  refine q_getv (v := (6, 239, 0)) (p2 := 2) rfl hS.1.choose_spec.1 (by decide) hS.1.choose_spec.2.2.1 rfl ?_
  refine q_load (v := (0, 2, 0)) (p2 := 3) rfl rfl rfl rfl ?_
  refine q_aldv (v := (6, 242, 0)) (p2 := 4) rfl hN.1 (by omega) (by omega) rfl rfl ?_
  refine q_store (loc2 := [(6, 237, 0), (0, 2, 0), (2, 0, 0), (11, 0, 0), (6, 242, 0), (11, 0, 0)]) (p2 := 5) rfl rfl rfl rfl rfl ?_
  refine q_const (p2 := 6) rfl rfl ?_
  refine q_store (loc2 := [(6, 237, 0), (0, 2, 0), (2, 0, 0), (11, 0, 0), (6, 242, 0), (0, 0, 0)]) (p2 := 7) rfl rfl rfl rfl rfl ?_
  refine q_load (v := (0, 0, 0)) (p2 := 8) rfl rfl rfl rfl ?_
  refine q_load (v := (6, 237, 0)) (p2 := 9) rfl rfl rfl rfl ?_
  refine q_getv (v := (6, 246, 0)) (p2 := 10) rfl hS.1.choose_spec.1 (by decide) hS.1.choose_spec.2.2.2.1 rfl ?_
  refine q_load (v := (0, 2, 0)) (p2 := 11) rfl rfl rfl rfl ?_
  refine q_aldv (v := (0, 3, 0)) (p2 := 12) rfl (x_sc_246 hS) (by omega) (by omega) rfl rfl ?_
  refine q_icmp_s (p2 := 13) rfl (by decide) (by omega) (by omega) rfl (fun hb => absurd hb (show ¬ (¬ (0 < 3)) by omega)) (fun _ => ?_)
  refine q_load (v := (0, 0, 0)) (p2 := 14) rfl rfl rfl rfl ?_
  refine q_load (v := (6, 242, 0)) (p2 := 15) rfl rfl rfl rfl ?_
  refine q_alen (p2 := 16) rfl hN.2.1 rfl (by omega) rfl ?_
  refine q_icmp_s (p2 := 17) rfl (by decide) (by omega) (by omega) rfl (fun hb => absurd hb (show ¬ (¬ (0 < 40)) by omega)) (fun _ => ?_)
  refine q_load (v := (6, 242, 0)) (p2 := 18) rfl rfl rfl rfl ?_
  refine q_load (v := (0, 0, 0)) (p2 := 19) rfl rfl rfl rfl ?_
  refine q_aldv (v := (2, 1, 0)) (p2 := 20) rfl hN.2.1 (by omega) (by omega) rfl rfl ?_
  refine q_load (v := (2, 0, 0)) (p2 := 21) rfl rfl rfl rfl ?_
  refine q_lcif (p2 := 23) rfl rfl (by decide) (by omega) (by omega) rfl (fun _ => ?_) (fun hb => absurd (show ¬ (1 = 0) by omega) hb)
  refine q_iinc (z := 1) (loc2 := [(6, 237, 0), (0, 2, 0), (2, 0, 0), (11, 0, 0), (6, 242, 0), (0, 1, 0)]) (p2 := 26) rfl rfl (by decide) rfl rfl ?_
  refine q_goto rfl ?_
  refine q_load (v := (0, 1, 0)) (p2 := 8) rfl rfl rfl rfl ?_
  refine q_load (v := (6, 237, 0)) (p2 := 9) rfl rfl rfl rfl ?_
  refine q_getv (v := (6, 246, 0)) (p2 := 10) rfl hS.1.choose_spec.1 (by decide) hS.1.choose_spec.2.2.2.1 rfl ?_
  refine q_load (v := (0, 2, 0)) (p2 := 11) rfl rfl rfl rfl ?_
  refine q_aldv (v := (0, 3, 0)) (p2 := 12) rfl (x_sc_246 hS) (by omega) (by omega) rfl rfl ?_
  refine q_icmp_s (p2 := 13) rfl (by decide) (by omega) (by omega) rfl (fun hb => absurd hb (show ¬ (¬ (1 < 3)) by omega)) (fun _ => ?_)
  refine q_load (v := (0, 1, 0)) (p2 := 14) rfl rfl rfl rfl ?_
  refine q_load (v := (6, 242, 0)) (p2 := 15) rfl rfl rfl rfl ?_
  refine q_alen (p2 := 16) rfl hN.2.1 rfl (by omega) rfl ?_
  refine q_icmp_s (p2 := 17) rfl (by decide) (by omega) (by omega) rfl (fun hb => absurd hb (show ¬ (¬ (1 < 40)) by omega)) (fun _ => ?_)
  refine q_load (v := (6, 242, 0)) (p2 := 18) rfl rfl rfl rfl ?_
  refine q_load (v := (0, 1, 0)) (p2 := 19) rfl rfl rfl rfl ?_
  refine q_aldv (v := (2, 2, 0)) (p2 := 20) rfl hN.2.1 (by omega) (by omega) rfl rfl ?_
  refine q_load (v := (2, 0, 0)) (p2 := 21) rfl rfl rfl rfl ?_
  refine q_lcif (p2 := 23) rfl rfl (by decide) (by omega) (by omega) rfl (fun _ => ?_) (fun hb => absurd (show ¬ (2 = 0) by omega) hb)
  refine q_iinc (z := 2) (loc2 := [(6, 237, 0), (0, 2, 0), (2, 0, 0), (11, 0, 0), (6, 242, 0), (0, 2, 0)]) (p2 := 26) rfl rfl (by decide) rfl rfl ?_
  refine q_goto rfl ?_
  refine q_load (v := (0, 2, 0)) (p2 := 8) rfl rfl rfl rfl ?_
  refine q_load (v := (6, 237, 0)) (p2 := 9) rfl rfl rfl rfl ?_
  refine q_getv (v := (6, 246, 0)) (p2 := 10) rfl hS.1.choose_spec.1 (by decide) hS.1.choose_spec.2.2.2.1 rfl ?_
  refine q_load (v := (0, 2, 0)) (p2 := 11) rfl rfl rfl rfl ?_
  refine q_aldv (v := (0, 3, 0)) (p2 := 12) rfl (x_sc_246 hS) (by omega) (by omega) rfl rfl ?_
  refine q_icmp_s (p2 := 13) rfl (by decide) (by omega) (by omega) rfl (fun hb => absurd hb (show ¬ (¬ (2 < 3)) by omega)) (fun _ => ?_)
  refine q_load (v := (0, 2, 0)) (p2 := 14) rfl rfl rfl rfl ?_
  refine q_load (v := (6, 242, 0)) (p2 := 15) rfl rfl rfl rfl ?_
  refine q_alen (p2 := 16) rfl hN.2.1 rfl (by omega) rfl ?_
  refine q_icmp_s (p2 := 17) rfl (by decide) (by omega) (by omega) rfl (fun hb => absurd hb (show ¬ (¬ (2 < 40)) by omega)) (fun _ => ?_)
  refine q_load (v := (6, 242, 0)) (p2 := 18) rfl rfl rfl rfl ?_
  refine q_load (v := (0, 2, 0)) (p2 := 19) rfl rfl rfl rfl ?_
  refine q_aldv (v := (2, 3, 0)) (p2 := 20) rfl hN.2.1 (by omega) (by omega) rfl rfl ?_
  refine q_load (v := (2, 0, 0)) (p2 := 21) rfl rfl rfl rfl ?_
  refine q_lcif (p2 := 23) rfl rfl (by decide) (by omega) (by omega) rfl (fun _ => ?_) (fun hb => absurd (show ¬ (3 = 0) by omega) hb)
  refine q_iinc (z := 3) (loc2 := [(6, 237, 0), (0, 2, 0), (2, 0, 0), (11, 0, 0), (6, 242, 0), (0, 3, 0)]) (p2 := 26) rfl rfl (by decide) rfl rfl ?_
  refine q_goto rfl ?_
  refine q_load (v := (0, 3, 0)) (p2 := 8) rfl rfl rfl rfl ?_
  refine q_load (v := (6, 237, 0)) (p2 := 9) rfl rfl rfl rfl ?_
  refine q_getv (v := (6, 246, 0)) (p2 := 10) rfl hS.1.choose_spec.1 (by decide) hS.1.choose_spec.2.2.2.1 rfl ?_
  refine q_load (v := (0, 2, 0)) (p2 := 11) rfl rfl rfl rfl ?_
  refine q_aldv (v := (0, 3, 0)) (p2 := 12) rfl (x_sc_246 hS) (by omega) (by omega) rfl rfl ?_
  refine q_icmp_s (p2 := 13) rfl (by decide) (by omega) (by omega) rfl (fun _ => ?_) (fun hb => absurd (show ¬ (3 < 3) by omega) hb)
  refine q_const (p2 := 28) rfl rfl ?_
  exact q_retv (v := (0, 4294967293, 0)) rfl rfl (⟨rfl, rfl, rfl, rfl, rfl⟩)
theorem zc_s_find2_1 {d n sl : Nat} {φ : FH}  (hS : x_sch φ) (hN : zq_nm φ)  : x_f x_P (d + 1) 217 [(6, 237, 0), (0, 2, 0), (2, 1, 0), (11, 0, 0), (11, 0, 0), (11, 0, 0)] φ n sl (x_r φ n sl (0, 0, 0)) := by
  refine x_f_of rfl ?_
  refine q_load (v := (6, 237, 0)) (p2 := 1) rfl rfl rfl rfl ?_
  refine q_getv (v := (6, 239, 0)) (p2 := 2) rfl hS.1.choose_spec.1 (by decide) hS.1.choose_spec.2.2.1 rfl ?_
  refine q_load (v := (0, 2, 0)) (p2 := 3) rfl rfl rfl rfl ?_
  refine q_aldv (v := (6, 242, 0)) (p2 := 4) rfl hN.1 (by omega) (by omega) rfl rfl ?_
  refine q_store (loc2 := [(6, 237, 0), (0, 2, 0), (2, 1, 0), (11, 0, 0), (6, 242, 0), (11, 0, 0)]) (p2 := 5) rfl rfl rfl rfl rfl ?_
  refine q_const (p2 := 6) rfl rfl ?_
  refine q_store (loc2 := [(6, 237, 0), (0, 2, 0), (2, 1, 0), (11, 0, 0), (6, 242, 0), (0, 0, 0)]) (p2 := 7) rfl rfl rfl rfl rfl ?_
  refine q_load (v := (0, 0, 0)) (p2 := 8) rfl rfl rfl rfl ?_
  refine q_load (v := (6, 237, 0)) (p2 := 9) rfl rfl rfl rfl ?_
  refine q_getv (v := (6, 246, 0)) (p2 := 10) rfl hS.1.choose_spec.1 (by decide) hS.1.choose_spec.2.2.2.1 rfl ?_
  refine q_load (v := (0, 2, 0)) (p2 := 11) rfl rfl rfl rfl ?_
  refine q_aldv (v := (0, 3, 0)) (p2 := 12) rfl (x_sc_246 hS) (by omega) (by omega) rfl rfl ?_
  refine q_icmp_s (p2 := 13) rfl (by decide) (by omega) (by omega) rfl (fun hb => absurd hb (show ¬ (¬ (0 < 3)) by omega)) (fun _ => ?_)
  refine q_load (v := (0, 0, 0)) (p2 := 14) rfl rfl rfl rfl ?_
  refine q_load (v := (6, 242, 0)) (p2 := 15) rfl rfl rfl rfl ?_
  refine q_alen (p2 := 16) rfl hN.2.1 rfl (by omega) rfl ?_
  refine q_icmp_s (p2 := 17) rfl (by decide) (by omega) (by omega) rfl (fun hb => absurd hb (show ¬ (¬ (0 < 40)) by omega)) (fun _ => ?_)
  refine q_load (v := (6, 242, 0)) (p2 := 18) rfl rfl rfl rfl ?_
  refine q_load (v := (0, 0, 0)) (p2 := 19) rfl rfl rfl rfl ?_
  refine q_aldv (v := (2, 1, 0)) (p2 := 20) rfl hN.2.1 (by omega) (by omega) rfl rfl ?_
  refine q_load (v := (2, 1, 0)) (p2 := 21) rfl rfl rfl rfl ?_
  refine q_lcif (p2 := 23) rfl rfl (by decide) (by omega) (by omega) rfl (fun hb => absurd hb (show ¬ (¬ (1 = 1)) by omega)) (fun _ => ?_)
  refine q_load (v := (0, 0, 0)) (p2 := 24) rfl rfl rfl rfl ?_
  exact q_retv (v := (0, 0, 0)) rfl rfl (⟨rfl, rfl, rfl, rfl, rfl⟩)
theorem e_announceP {d n sl A B made sv svm st x c_ : Nat} {φ : FH} {comb : Nat → Nat} {hm : Nat → MV} (hS : x_PS φ A B made sv svm st comb hm) (hx : made ≤ x ∧ x < 512) (hco : c_ < 2147483648) : x_f x_P (d + 1) 132 [(6, 7, 0), (0, x, 0), (0, c_, 0)] φ n sl (x_vR n sl (fun φ2 => x_PS φ2 A B made sv svm st (x_s comb x c_) hm ∧ ∀ j, j ≠ 226 → φ2 j = φ j)) := by
  have hP := hS.1.choose_spec
  have hC := hS.2.1
  have hmade := x_PS_lt hS
  refine x_f_of rfl ?_
  refine q_load (v := (0, x, 0)) (p2 := 1) rfl rfl rfl rfl ?_
  refine q_load (v := (6, 7, 0)) (p2 := 2) rfl rfl rfl rfl ?_
  refine q_getv (v := (0, made, 0)) (p2 := 3) rfl hP.1 (by decide) hP.2.2.2.1 rfl ?_
  refine q_icmp_s (p2 := 4) rfl (by decide) (by omega) (by omega) rfl (fun hb => absurd hb (show ¬ (x < made) by omega)) (fun _ => ?_)
  refine q_load (v := (0, x, 0)) (p2 := 5) rfl rfl rfl rfl ?_
  refine q_load (v := (6, 7, 0)) (p2 := 6) rfl rfl rfl rfl ?_
  refine q_getv (v := (6, 226, 0)) (p2 := 7) rfl hP.1 (by decide) hP.2.2.2.2.1 rfl ?_
  refine q_alen (p2 := 8) rfl hC.1 rfl (by omega) rfl ?_
  refine q_icmp_s (p2 := 9) rfl (by decide) (by omega) (by omega) rfl (fun hb => absurd hb (show ¬ (¬ (x < 512)) by omega)) (fun _ => ?_)
  refine q_load (v := (6, 7, 0)) (p2 := 10) rfl rfl rfl rfl ?_
  refine q_getv (v := (6, 226, 0)) (p2 := 11) rfl hP.1 (by decide) hP.2.2.2.2.1 rfl ?_
  refine q_load (v := (0, x, 0)) (p2 := 12) rfl rfl rfl rfl ?_
  refine q_load (v := (0, c_, 0)) (p2 := 13) rfl rfl rfl rfl ?_
  refine q_astE (v := (0, c_, 0)) (w := (0, c_, 0)) (p2 := 14) rfl hC.1 (by omega) (by omega) (x_ok_0 rfl) (x_nv_same rfl (by decide)) rfl (fun φ1 f1 hh1 hg1 ho1 fr1 => ?_)
  have hs1 := hh1.trans (x_arf (t := 0) hg1 ho1)
  exact q_ret rfl (⟨rfl, rfl, rfl, x_PS_comb hS hs1 (congrArg (fun z => ((0, z, 0) : XV)) x_s_eq) (fun i hi => congrArg (fun z => ((0, z, 0) : XV)) (x_s_ne hi)) (fun j hj => (fr1 j (by omega))) hco, fun j hj => (fr1 j (by omega))⟩)
theorem e_empty40_l {d n sl A B made sv svm st : Nat} {φ : FH} {fP : Nat → XV} (hP : x_pop φ A B made sv svm st fP) (k : Nat) : ∀ a, a + k = 40 → x_n x_P (d + 1) xc_103 2 [] [(6, 7, 0), (0, 40, 0), (0, a, 0)] φ n sl (x_v φ n sl) := by
  induction k with
  | zero =>
    intro a ha
    have ha : a = 40 := ha
    subst ha
    refine q_load (v := (0, 40, 0)) (p2 := 3) rfl rfl rfl rfl ?_
    refine q_const (p2 := 4) rfl rfl ?_
    refine q_icmp_s (p2 := 5) rfl (by decide) (by omega) (by omega) rfl (fun _ => ?_) (fun hb => absurd (show ¬ (40 < 40) by omega) hb)
    exact q_ret rfl (⟨rfl, rfl, rfl, rfl⟩)
  | succ k ih =>
    intro a ha
    refine q_load (v := (0, a, 0)) (p2 := 3) rfl rfl rfl rfl ?_
    refine q_const (p2 := 4) rfl rfl ?_
    refine q_icmp_s (p2 := 5) rfl (by decide) (by omega) (by omega) rfl (fun hb => absurd hb (show ¬ (¬ (a < 40)) by omega)) (fun _ => ?_)
    refine q_load (v := (6, 7, 0)) (p2 := 6) rfl rfl rfl rfl ?_
    refine q_load (v := (0, 40, 0)) (p2 := 7) rfl rfl rfl rfl ?_
    refine q_load (v := (0, a, 0)) (p2 := 8) rfl rfl rfl rfl ?_
    refine q_load (v := (6, 7, 0)) (p2 := 9) rfl rfl rfl rfl ?_
    refine q_getv (v := (6, 225, 0)) (p2 := 10) rfl hP.1 (by decide) hP.2.2.1 rfl ?_
    refine q_callKv (xs := [(6, 225, 0), (0, a, 0), (0, 40, 0), (6, 7, 0)]) (p2 := 11) rfl rfl rfl rfl (x_rcv_s 7 hP.1) rfl rfl ?_
    refine x_f_of rfl ?_
    refine q_load (v := (0, 40, 0)) (p2 := 1) rfl rfl rfl rfl ?_
    refine q_if0_s (p2 := 2) rfl (by decide) (by omega) rfl (fun hb => absurd hb (show ¬ (40 < 0) by omega)) (fun _ => ?_)
    refine q_load (v := (0, 40, 0)) (p2 := 3) rfl rfl rfl rfl ?_
    refine q_const (p2 := 4) rfl rfl ?_
    refine q_icmp_s (p2 := 5) rfl (by decide) (by omega) (by omega) rfl (fun _ => ?_) (fun hb => absurd (show ¬ (40 < 40) by omega) hb)
    refine q_ret rfl ⟨rfl, by omega, by omega, ?_⟩
    refine q_iinc (z := a + 1) (loc2 := [(6, 7, 0), (0, 40, 0), (0, a + 1, 0)]) (p2 := 12) rfl rfl (Nat.mod_eq_of_lt (by omega)) rfl rfl ?_
    refine q_goto rfl ?_
    exact ih (a + 1) (by omega)
theorem e_empty40 {d n sl A B made sv svm st : Nat} {φ : FH} {fP : Nat → XV} (hP : x_pop φ A B made sv svm st fP) : x_f x_P (d + 2) 103 [(6, 7, 0), (0, 40, 0), (11, 0, 0)] φ n sl (x_v φ n sl) := by
  refine x_f_of rfl ?_
  refine q_const (p2 := 1) rfl rfl ?_
  refine q_store (loc2 := [(6, 7, 0), (0, 40, 0), (0, 0, 0)]) (p2 := 2) rfl rfl rfl rfl rfl ?_
  exact e_empty40_l hP 40 0 rfl
end FPOP73
