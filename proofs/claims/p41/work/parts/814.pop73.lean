section FPOP73
theorem zc_kow_0 {d n sl : Nat} {φ : FH} {tot : Nat} {at_ : Nat} {cur : Nat} {pl : Nat} {va : Nat} {fa : Nat} {fp : Nat} {sf : Nat} {sp : Nat} {no : Nat} {op : Nat} {K : Nat → Nat} {P : Nat → Nat} {V : Nat → Nat} (hT : zq_T φ tot at_ cur pl va fa fp sf sp no op K P V) (k : Nat) : ∀ w, w + k = 50 → x_n x_P d xc_220 2 [] [(6, 2, 0), (2, 0, 0), (11, 0, 0), (0, w, 0)] φ n sl (x_r φ n sl (0, 1, 0)) := by
  induction k with
  | zero =>
    intro w hw
    have hw : w = 50 := hw
    subst hw
    refine q_load (v := (0, 50, 0)) (p2 := 3) rfl rfl rfl rfl ?_
    refine q_load (v := (6, 2, 0)) (p2 := 4) rfl rfl rfl rfl ?_
    refine q_getv (v := (6, 3, 0)) (p2 := 5) rfl hT.1 (by decide) rfl rfl ?_
    refine q_alen (p2 := 6) rfl hT.2.1 rfl (by omega) rfl ?_
    refine q_icmp_s (p2 := 7) rfl (by decide) (by omega) (by omega) rfl (fun _ => ?_) (fun hb => absurd (show ¬ (50 < 50) by omega) hb)
    refine q_const (p2 := 21) rfl rfl ?_
    exact q_retv (v := (0, 1, 0)) rfl rfl (⟨rfl, rfl, rfl, rfl, rfl⟩)
  | succ k ih =>
    intro w hw
    have hb := x_words_lt w
    have hne : x_words w ≠ 0 := (show ∀ i, i < 50 → x_words i ≠ 0 by decide +kernel) w (by omega)
    refine q_load (v := (0, w, 0)) (p2 := 3) rfl rfl rfl rfl ?_
    refine q_load (v := (6, 2, 0)) (p2 := 4) rfl rfl rfl rfl ?_
    refine q_getv (v := (6, 3, 0)) (p2 := 5) rfl hT.1 (by decide) rfl rfl ?_
    refine q_alen (p2 := 6) rfl hT.2.1 rfl (by omega) rfl ?_
    refine q_icmp_s (p2 := 7) rfl (by decide) (by omega) (by omega) rfl (fun hb => absurd hb (show ¬ (¬ (w < 50)) by omega)) (fun _ => ?_)
    refine q_load (v := (6, 2, 0)) (p2 := 8) rfl rfl rfl rfl ?_
    refine q_getv (v := (6, 3, 0)) (p2 := 9) rfl hT.1 (by decide) rfl rfl ?_
    refine q_load (v := (0, w, 0)) (p2 := 10) rfl rfl rfl rfl ?_
    refine q_aldT (tag := 2) (v := x_words w) (p2 := 11) rfl hT.2.1 (by omega) (by omega) rfl rfl ?_
    refine q_load (v := (2, 0, 0)) (p2 := 12) rfl rfl rfl rfl ?_
    refine q_lcif (p2 := 14) rfl rfl (by decide) (by omega) (by omega) rfl (fun _ => ?_) (fun hb => absurd (show ¬ (x_words w = 0) by omega) hb)
    refine q_iinc (z := w + 1) (loc2 := [(6, 2, 0), (2, 0, 0), (11, 0, 0), (0, w + 1, 0)]) (p2 := 19) rfl rfl (Nat.mod_eq_of_lt (by omega)) rfl rfl ?_
    refine q_goto rfl ?_
    exact ih (w + 1) (by omega)
theorem zc_kw_0 {d n sl : Nat} {φ : FH} {tot : Nat} {at_ : Nat} {cur : Nat} {pl : Nat} {va : Nat} {fa : Nat} {fp : Nat} {sf : Nat} {sp : Nat} {no : Nat} {op : Nat} {K : Nat → Nat} {P : Nat → Nat} {V : Nat → Nat} (hT : zq_T φ tot at_ cur pl va fa fp sf sp no op K P V) : x_f x_P (d + 1) 220 [(6, 2, 0), (2, 0, 0), (11, 0, 0), (11, 0, 0)] φ n sl (x_r φ n sl (0, 1, 0)) := by
  refine x_f_of rfl ?_
  refine q_const (p2 := 1) rfl rfl ?_
  refine q_store (loc2 := [(6, 2, 0), (2, 0, 0), (11, 0, 0), (0, 0, 0)]) (p2 := 2) rfl rfl rfl rfl rfl ?_
  exact zc_kow_0 hT 50 0 rfl
theorem zc_s_find2_0 {d n sl : Nat} {φ : FH}  (hS : x_sch φ) (hN : zq_nm φ)  : x_f x_P (d + 1) 217 [(6, 237, 0), (0, 2, 0), (2, 0, 0), (11, 0, 0), (11, 0, 0), (11, 0, 0)] φ n sl (x_r φ n sl (0, 4294967293, 0)) := by
  refine x_f_of rfl ?_
  refine q_load (v := (6, 237, 0)) (p2 := 1) rfl rfl rfl rfl ?_
  refine q_getv (v := (6, 239, 0)) (p2 := 2) rfl hS.1.choose_spec.1 (by decide) hS.1.choose_spec.2.2.1 rfl ?_
  refine q_load (v := (0, 2, 0)) (p2 := 3) rfl rfl rfl rfl ?_
  refine q_aldv (v := (6, 242, 0)) (p2 := 4) rfl hN.1 (by omega) (by omega) rfl rfl ?_
  refine q_store (loc2 := [(6, 237, 0), (0, 2, 0), (2, 0, 0), (11, 0, 0), (6, 242, 0), (11, 0, 0)]) (p2 := 5) rfl rfl rfl rfl rfl ?_
  refine q_const (p2 := 6) rfl rfl ?_
  refine q_store (loc2 := [(6, 237, 0), (0, 2, 0), (2, 0, 0), (11, 0, 0), (6, 242, 0), (0, 0, 0)]) (p2 := 7) rfl rfl rfl rfl rfl ?_
  refine q_load (v := (0, 0, 0)) (p2 := 8) rfl rfl rfl rfl ?_
  refine q_load (v := (6, 237, 0)) (p2 := 9) rfl rfl rfl rfl ?_
  refine q_getv (v := (6, 246, 0)) (p2 := 10) rfl hS.1.choose_spec.1 (by decide) hS.1.choose_spec.2.2.2.1 rfl ?_
  refine q_load (v := (0, 2, 0)) (p2 := 11) rfl rfl rfl rfl ?_
  refine q_aldv (v := (0, 3, 0)) (p2 := 12) rfl (x_sc_246 hS) (by omega) (by omega) rfl rfl ?_
  refine q_icmp_s (p2 := 13) rfl (by decide) (by omega) (by omega) rfl (fun hb => absurd hb (show ¬ (¬ (0 < 3)) by omega)) (fun _ => ?_)
  refine q_load (v := (0, 0, 0)) (p2 := 14) rfl rfl rfl rfl ?_
  refine q_load (v := (6, 242, 0)) (p2 := 15) rfl rfl rfl rfl ?_
  refine q_alen (p2 := 16) rfl hN.2.1 rfl (by omega) rfl ?_
  refine q_icmp_s (p2 := 17) rfl (by decide) (by omega) (by omega) rfl (fun hb => absurd hb (show ¬ (¬ (0 < 40)) by omega)) (fun _ => ?_)
  refine q_load (v := (6, 242, 0)) (p2 := 18) rfl rfl rfl rfl ?_
  refine q_load (v := (0, 0, 0)) (p2 := 19) rfl rfl rfl rfl ?_
  refine q_aldv (v := (2, 1, 0)) (p2 := 20) rfl hN.2.1 (by omega) (by omega) rfl rfl ?_
  refine q_load (v := (2, 0, 0)) (p2 := 21) rfl rfl rfl rfl ?_
  refine q_lcif (p2 := 23) rfl rfl (by decide) (by omega) (by omega) rfl (fun _ => ?_) (fun hb => absurd (show ¬ (1 = 0) by omega) hb)
  refine q_iinc (z := 1) (loc2 := [(6, 237, 0), (0, 2, 0), (2, 0, 0), (11, 0, 0), (6, 242, 0), (0, 1, 0)]) (p2 := 26) rfl rfl (by decide) rfl rfl ?_
  refine q_goto rfl ?_
  refine q_load (v := (0, 1, 0)) (p2 := 8) rfl rfl rfl rfl ?_
  refine q_load (v := (6, 237, 0)) (p2 := 9) rfl rfl rfl rfl ?_
  refine q_getv (v := (6, 246, 0)) (p2 := 10) rfl hS.1.choose_spec.1 (by decide) hS.1.choose_spec.2.2.2.1 rfl ?_
  refine q_load (v := (0, 2, 0)) (p2 := 11) rfl rfl rfl rfl ?_
  refine q_aldv (v := (0, 3, 0)) (p2 := 12) rfl (x_sc_246 hS) (by omega) (by omega) rfl rfl ?_
  refine q_icmp_s (p2 := 13) rfl (by decide) (by omega) (by omega) rfl (fun hb => absurd hb (show ¬ (¬ (1 < 3)) by omega)) (fun _ => ?_)
  refine q_load (v := (0, 1, 0)) (p2 := 14) rfl rfl rfl rfl ?_
  refine q_load (v := (6, 242, 0)) (p2 := 15) rfl rfl rfl rfl ?_
  refine q_alen (p2 := 16) rfl hN.2.1 rfl (by omega) rfl ?_
  refine q_icmp_s (p2 := 17) rfl (by decide) (by omega) (by omega) rfl (fun hb => absurd hb (show ¬ (¬ (1 < 40)) by omega)) (fun _ => ?_)
  refine q_load (v := (6, 242, 0)) (p2 := 18) rfl rfl rfl rfl ?_
  refine q_load (v := (0, 1, 0)) (p2 := 19) rfl rfl rfl rfl ?_
  refine q_aldv (v := (2, 2, 0)) (p2 := 20) rfl hN.2.1 (by omega) (by omega) rfl rfl ?_
  refine q_load (v := (2, 0, 0)) (p2 := 21) rfl rfl rfl rfl ?_
  refine q_lcif (p2 := 23) rfl rfl (by decide) (by omega) (by omega) rfl (fun _ => ?_) (fun hb => absurd (show ¬ (2 = 0) by omega) hb)
  refine q_iinc (z := 2) (loc2 := [(6, 237, 0), (0, 2, 0), (2, 0, 0), (11, 0, 0), (6, 242, 0), (0, 2, 0)]) (p2 := 26) rfl rfl (by decide) rfl rfl ?_
  refine q_goto rfl ?_
  refine q_load (v := (0, 2, 0)) (p2 := 8) rfl rfl rfl rfl ?_
  refine q_load (v := (6, 237, 0)) (p2 := 9) rfl rfl rfl rfl ?_
  refine q_getv (v := (6, 246, 0)) (p2 := 10) rfl hS.1.choose_spec.1 (by decide) hS.1.choose_spec.2.2.2.1 rfl ?_
  refine q_load (v := (0, 2, 0)) (p2 := 11) rfl rfl rfl rfl ?_
  refine q_aldv (v := (0, 3, 0)) (p2 := 12) rfl (x_sc_246 hS) (by omega) (by omega) rfl rfl ?_
  refine q_icmp_s (p2 := 13) rfl (by decide) (by omega) (by omega) rfl (fun hb => absurd hb (show ¬ (¬ (2 < 3)) by omega)) (fun _ => ?_)
  refine q_load (v := (0, 2, 0)) (p2 := 14) rfl rfl rfl rfl ?_
  refine q_load (v := (6, 242, 0)) (p2 := 15) rfl rfl rfl rfl ?_
  refine q_alen (p2 := 16) rfl hN.2.1 rfl (by omega) rfl ?_
  refine q_icmp_s (p2 := 17) rfl (by decide) (by omega) (by omega) rfl (fun hb => absurd hb (show ¬ (¬ (2 < 40)) by omega)) (fun _ => ?_)
  refine q_load (v := (6, 242, 0)) (p2 := 18) rfl rfl rfl rfl ?_
  refine q_load (v := (0, 2, 0)) (p2 := 19) rfl rfl rfl rfl ?_
  refine q_aldv (v := (2, 3, 0)) (p2 := 20) rfl hN.2.1 (by omega) (by omega) rfl rfl ?_
  refine q_load (v := (2, 0, 0)) (p2 := 21) rfl rfl rfl rfl ?_
  refine q_lcif (p2 := 23) rfl rfl (by decide) (by omega) (by omega) rfl (fun _ => ?_) (fun hb => absurd (show ¬ (3 = 0) by omega) hb)
  refine q_iinc (z := 3) (loc2 := [(6, 237, 0), (0, 2, 0), (2, 0, 0), (11, 0, 0), (6, 242, 0), (0, 3, 0)]) (p2 := 26) rfl rfl (by decide) rfl rfl ?_
  refine q_goto rfl ?_
  refine q_load (v := (0, 3, 0)) (p2 := 8) rfl rfl rfl rfl ?_
  refine q_load (v := (6, 237, 0)) (p2 := 9) rfl rfl rfl rfl ?_
  refine q_getv (v := (6, 246, 0)) (p2 := 10) rfl hS.1.choose_spec.1 (by decide) hS.1.choose_spec.2.2.2.1 rfl ?_
  refine q_load (v := (0, 2, 0)) (p2 := 11) rfl rfl rfl rfl ?_
  refine q_aldv (v := (0, 3, 0)) (p2 := 12) rfl (x_sc_246 hS) (by omega) (by omega) rfl rfl ?_
  refine q_icmp_s (p2 := 13) rfl (by decide) (by omega) (by omega) rfl (fun _ => ?_) (fun hb => absurd (show ¬ (3 < 3) by omega) hb)
  refine q_const (p2 := 28) rfl rfl ?_
  exact q_retv (v := (0, 4294967293, 0)) rfl rfl (⟨rfl, rfl, rfl, rfl, rfl⟩)
theorem zc_s_find2_1 {d n sl : Nat} {φ : FH}  (hS : x_sch φ) (hN : zq_nm φ)  : x_f x_P (d + 1) 217 [(6, 237, 0), (0, 2, 0), (2, 1, 0), (11, 0, 0), (11, 0, 0), (11, 0, 0)] φ n sl (x_r φ n sl (0, 0, 0)) := by
  refine x_f_of rfl ?_
  refine q_load (v := (6, 237, 0)) (p2 := 1) rfl rfl rfl rfl ?_
  refine q_getv (v := (6, 239, 0)) (p2 := 2) rfl hS.1.choose_spec.1 (by decide) hS.1.choose_spec.2.2.1 rfl ?_
  refine q_load (v := (0, 2, 0)) (p2 := 3) rfl rfl rfl rfl ?_
  refine q_aldv (v := (6, 242, 0)) (p2 := 4) rfl hN.1 (by omega) (by omega) rfl rfl ?_
  refine q_store (loc2 := [(6, 237, 0), (0, 2, 0), (2, 1, 0), (11, 0, 0), (6, 242, 0), (11, 0, 0)]) (p2 := 5) rfl rfl rfl rfl rfl ?_
  refine q_const (p2 := 6) rfl rfl ?_
  refine q_store (loc2 := [(6, 237, 0), (0, 2, 0), (2, 1, 0), (11, 0, 0), (6, 242, 0), (0, 0, 0)]) (p2 := 7) rfl rfl rfl rfl rfl ?_
  refine q_load (v := (0, 0, 0)) (p2 := 8) rfl rfl rfl rfl ?_
  refine q_load (v := (6, 237, 0)) (p2 := 9) rfl rfl rfl rfl ?_
  refine q_getv (v := (6, 246, 0)) (p2 := 10) rfl hS.1.choose_spec.1 (by decide) hS.1.choose_spec.2.2.2.1 rfl ?_
  refine q_load (v := (0, 2, 0)) (p2 := 11) rfl rfl rfl rfl ?_
  refine q_aldv (v := (0, 3, 0)) (p2 := 12) rfl (x_sc_246 hS) (by omega) (by omega) rfl rfl ?_
  refine q_icmp_s (p2 := 13) rfl (by decide) (by omega) (by omega) rfl (fun hb => absurd hb (show ¬ (¬ (0 < 3)) by omega)) (fun _ => ?_)
  refine q_load (v := (0, 0, 0)) (p2 := 14) rfl rfl rfl rfl ?_
  refine q_load (v := (6, 242, 0)) (p2 := 15) rfl rfl rfl rfl ?_
  refine q_alen (p2 := 16) rfl hN.2.1 rfl (by omega) rfl ?_
  refine q_icmp_s (p2 := 17) rfl (by decide) (by omega) (by omega) rfl (fun hb => absurd hb (show ¬ (¬ (0 < 40)) by omega)) (fun _ => ?_)
  refine q_load (v := (6, 242, 0)) (p2 := 18) rfl rfl rfl rfl ?_
  refine q_load (v := (0, 0, 0)) (p2 := 19) rfl rfl rfl rfl ?_
  refine q_aldv (v := (2, 1, 0)) (p2 := 20) rfl hN.2.1 (by omega) (by omega) rfl rfl ?_
  refine q_load (v := (2, 1, 0)) (p2 := 21) rfl rfl rfl rfl ?_
  refine q_lcif (p2 := 23) rfl rfl (by decide) (by omega) (by omega) rfl (fun hb => absurd hb (show ¬ (¬ (1 = 1)) by omega)) (fun _ => ?_)
  refine q_load (v := (0, 0, 0)) (p2 := 24) rfl rfl rfl rfl ?_
  exact q_retv (v := (0, 0, 0)) rfl rfl (⟨rfl, rfl, rfl, rfl, rfl⟩)
theorem e_announceP {d n sl A B made sv svm st x c_ : Nat} {φ : FH} {comb : Nat → Nat} {hm : Nat → MV} (hS : x_PS φ A B made sv svm st comb hm) (hx : made ≤ x ∧ x < 512) (hco : c_ < 2147483648) : x_f x_P (d + 1) 132 [(6, 7, 0), (0, x, 0), (0, c_, 0)] φ n sl (x_vR n sl (fun φ2 => x_PS φ2 A B made sv svm st (x_s comb x c_) hm ∧ ∀ j, j ≠ 226 → φ2 j = φ j)) := by
  have hP := hS.1.choose_spec
  have hC := hS.2.1
  have hmade := x_PS_lt hS
  refine x_f_of rfl ?_
  refine q_load (v := (0, x, 0)) (p2 := 1) rfl rfl rfl rfl ?_
  refine q_load (v := (6, 7, 0)) (p2 := 2) rfl rfl rfl rfl ?_
  refine q_getv (v := (0, made, 0)) (p2 := 3) rfl hP.1 (by decide) hP.2.2.2.1 rfl ?_
  refine q_icmp_s (p2 := 4) rfl (by decide) (by omega) (by omega) rfl (fun hb => absurd hb (show ¬ (x < made) by omega)) (fun _ => ?_)
  refine q_load (v := (0, x, 0)) (p2 := 5) rfl rfl rfl rfl ?_
  refine q_load (v := (6, 7, 0)) (p2 := 6) rfl rfl rfl rfl ?_
  refine q_getv (v := (6, 226, 0)) (p2 := 7) rfl hP.1 (by decide) hP.2.2.2.2.1 rfl ?_
  refine q_alen (p2 := 8) rfl hC.1 rfl (by omega) rfl ?_
  refine q_icmp_s (p2 := 9) rfl (by decide) (by omega) (by omega) rfl (fun hb => absurd hb (show ¬ (¬ (x < 512)) by omega)) (fun _ => ?_)
  refine q_load (v := (6, 7, 0)) (p2 := 10) rfl rfl rfl rfl ?_
  refine q_getv (v := (6, 226, 0)) (p2 := 11) rfl hP.1 (by decide) hP.2.2.2.2.1 rfl ?_
  refine q_load (v := (0, x, 0)) (p2 := 12) rfl rfl rfl rfl ?_
  refine q_load (v := (0, c_, 0)) (p2 := 13) rfl rfl rfl rfl ?_
  refine q_astE (v := (0, c_, 0)) (w := (0, c_, 0)) (p2 := 14) rfl hC.1 (by omega) (by omega) (x_ok_0 rfl) (x_nv_same rfl (by decide)) rfl (fun φ1 f1 hh1 hg1 ho1 fr1 => ?_)
  have hs1 := hh1.trans (x_arf (t := 0) hg1 ho1)
  exact q_ret rfl (⟨rfl, rfl, rfl, x_PS_comb hS hs1 (congrArg (fun z => ((0, z, 0) : XV)) x_s_eq) (fun i hi => congrArg (fun z => ((0, z, 0) : XV)) (x_s_ne hi)) (fun j hj => (fr1 j (by omega))) hco, fun j hj => (fr1 j (by omega))⟩)
theorem e_empty40_l {d n sl A B made sv svm st : Nat} {φ : FH} {fP : Nat → XV} (hP : x_pop φ A B made sv svm st fP) (k : Nat) : ∀ a, a + k = 40 → x_n x_P (d + 1) xc_103 2 [] [(6, 7, 0), (0, 40, 0), (0, a, 0)] φ n sl (x_v φ n sl) := by
  induction k with
  | zero =>
    intro a ha
    have ha : a = 40 := ha
    subst ha
    refine q_load (v := (0, 40, 0)) (p2 := 3) rfl rfl rfl rfl ?_
    refine q_const (p2 := 4) rfl rfl ?_
    refine q_icmp_s (p2 := 5) rfl (by decide) (by omega) (by omega) rfl (fun _ => ?_) (fun hb => absurd (show ¬ (40 < 40) by omega) hb)
    exact q_ret rfl (⟨rfl, rfl, rfl, rfl⟩)
  | succ k ih =>
    intro a ha
    refine q_load (v := (0, a, 0)) (p2 := 3) rfl rfl rfl rfl ?_
    refine q_const (p2 := 4) rfl rfl ?_
    refine q_icmp_s (p2 := 5) rfl (by decide) (by omega) (by omega) rfl (fun hb => absurd hb (show ¬ (¬ (a < 40)) by omega)) (fun _ => ?_)
    refine q_load (v := (6, 7, 0)) (p2 := 6) rfl rfl rfl rfl ?_
    refine q_load (v := (0, 40, 0)) (p2 := 7) rfl rfl rfl rfl ?_
    refine q_load (v := (0, a, 0)) (p2 := 8) rfl rfl rfl rfl ?_
    refine q_load (v := (6, 7, 0)) (p2 := 9) rfl rfl rfl rfl ?_
    refine q_getv (v := (6, 225, 0)) (p2 := 10) rfl hP.1 (by decide) hP.2.2.1 rfl ?_
    refine q_callKv (xs := [(6, 225, 0), (0, a, 0), (0, 40, 0), (6, 7, 0)]) (p2 := 11) rfl rfl rfl rfl (x_rcv_s 7 hP.1) rfl rfl ?_
    refine x_f_of rfl ?_
    refine q_load (v := (0, 40, 0)) (p2 := 1) rfl rfl rfl rfl ?_
    refine q_if0_s (p2 := 2) rfl (by decide) (by omega) rfl (fun hb => absurd hb (show ¬ (40 < 0) by omega)) (fun _ => ?_)
    refine q_load (v := (0, 40, 0)) (p2 := 3) rfl rfl rfl rfl ?_
    refine q_const (p2 := 4) rfl rfl ?_
    refine q_icmp_s (p2 := 5) rfl (by decide) (by omega) (by omega) rfl (fun _ => ?_) (fun hb => absurd (show ¬ (40 < 40) by omega) hb)
    refine q_ret rfl ⟨rfl, by omega, by omega, ?_⟩
    refine q_iinc (z := a + 1) (loc2 := [(6, 7, 0), (0, 40, 0), (0, a + 1, 0)]) (p2 := 12) rfl rfl (Nat.mod_eq_of_lt (by omega)) rfl rfl ?_
    refine q_goto rfl ?_
    exact ih (a + 1) (by omega)
theorem e_empty40 {d n sl A B made sv svm st : Nat} {φ : FH} {fP : Nat → XV} (hP : x_pop φ A B made sv svm st fP) : x_f x_P (d + 2) 103 [(6, 7, 0), (0, 40, 0), (11, 0, 0)] φ n sl (x_v φ n sl) := by
  refine x_f_of rfl ?_
  refine q_const (p2 := 1) rfl rfl ?_
  refine q_store (loc2 := [(6, 7, 0), (0, 40, 0), (0, 0, 0)]) (p2 := 2) rfl rfl rfl rfl rfl ?_
  exact e_empty40_l hP 40 0 rfl
theorem x_pk_congr {q q2 : Nat → Prop} [DecidablePred q] [DecidablePred q2] {v b : Nat} (h : ∀ y, y < b → (q y ↔ q2 y)) (k : Nat) : ∀ y, y + k ≤ b → x_pk q v k y = x_pk q2 v k y := by
  induction k with
  | zero => intro y _; rfl
  | succ k ih =>
    intro y hy
    show (if q y then y else x_pk q v k (y + 1)) = (if q2 y then y else x_pk q2 v k (y + 1))
    rw [ih (y + 1) (by omega)]
    exact zif_congr (h y (by omega))
theorem x_hA_congr {lik lik2 : Nat → Nat} {made x y : Nat} {hm hm2 : Nat → MV} (h : ∀ i, i < made → lik i = lik2 i) (hh : ∀ i, i < made * 40 → hm i = hm2 i) (hx : x < made) (hy : y < made) : x_hA lik made hm x y ↔ x_hA lik2 made hm2 x y := by
  unfold x_hA
  rw [hh (x * 40 + 0) (by omega), hh (y * 40 + 0) (by omega), hh (x * 40 + 1) (by omega), hh (y * 40 + 1) (by omega), hh (x * 40 + 3) (by omega), hh (y * 40 + 3) (by omega)]
  rw [x_lk_congr h, x_lk_congr h, x_lk_congr h]
theorem x_fi_congr {lik lik2 : Nat → Nat} {made : Nat} {hm hm2 : Nat → MV} (h : ∀ i, i < made → lik i = lik2 i) (hh : ∀ i, i < made * 40 → hm i = hm2 i) (x : Nat) : x ≤ made → ∀ i, x_fi lik made hm x i = x_fi lik2 made hm2 x i := by
  induction x with
  | zero => intro _ i; rfl
  | succ x ih =>
    intro hx i
    by_cases hi : i = x
    · subst hi
      rw [x_fi_at, x_fi_at]
      refine x_pk_congr (b := i) (fun y hy => ?_) i 0 (by omega)
      rw [ih (by omega) y, h y (by omega), h i (by omega), x_hA_congr h hh (by omega) (by omega)]
    · rw [x_fi_ne hi, x_fi_ne hi]; exact ih (by omega) i
theorem x_pd_congr {lik lik2 : Nat → Nat} {made : Nat} {hm hm2 : Nat → MV} (h : ∀ i, i < made → lik i = lik2 i) (hh : ∀ i, i < made * 40 → hm i = hm2 i) (x : Nat) : x ≤ made → x_pd lik made hm x = x_pd lik2 made hm2 x := by
  induction x with
  | zero => intro _; rfl
  | succ x ih =>
    intro hx
    rw [x_pd_s, x_pd_s, ih (by omega), x_fi_congr h hh (x + 1) hx x, h x (by omega)]
theorem x_lm_congr {made : Nat} {hm hm2 : Nat → MV} (hh : ∀ i, i < made * 40 → hm i = hm2 i) (k : Nat) : ∀ l l2 : Nat → Nat, (∀ i, i < made → l i = l2 i) → ∀ i, i < made → x_lm made hm k l i = x_lm made hm2 k l2 i := by
  induction k with
  | zero => intro l l2 h i hi; exact h i hi
  | succ k ih =>
    intro l l2 h i hi
    have e1 := x_pd_congr h hh made (Nat.le_refl _)
    have e2 := x_fi_congr h hh made (Nat.le_refl _)
    show (if x_pd l made hm made = 0 then x_fi l made hm made else x_lm made hm k (x_fi l made hm made)) i = (if x_pd l2 made hm2 made = 0 then x_fi l2 made hm2 made else x_lm made hm2 k (x_fi l2 made hm2 made)) i
    rw [e1]
    by_cases hz : x_pd l2 made hm2 made = 0
    · rw [if_pos hz, if_pos hz]; exact e2 i
    · rw [if_neg hz, if_neg hz]; exact ih _ _ (fun j _ => e2 j) i hi
theorem x_dn_congr {comb comb2 : Nat → Nat} {x : Nat} (h : ∀ y, y ≤ x → comb y = comb2 y) : ∀ {k : Nat}, k ≤ x → ∀ v, x_dn comb x k v = x_dn comb2 x k v
  | 0, _, v => rfl
  | k + 1, hk, v => by
    show x_dn comb x k (if comb x ≠ 0 ∧ comb k = comb x then k else v) = x_dn comb2 x k (if comb2 x ≠ 0 ∧ comb2 k = comb2 x then k else v)
    rw [h x (Nat.le_refl _), h k (by omega)]
    exact x_dn_congr h (by omega) _
theorem x_lks_congr {made : Nat} {comb comb2 : Nat → Nat} {hm hm2 : Nat → MV} (hc : ∀ i, i < made → comb i = comb2 i) (hh : ∀ i, i < made * 40 → hm i = hm2 i) {i : Nat} (hi : i < made) : x_lks made comb hm i = x_lks made comb2 hm2 i :=
  x_lm_congr hh 41 _ _ (fun j hj => x_dn_congr (fun y hy => hc y (by omega)) (Nat.le_refl _) j) i hi
theorem x_LK_cm {φ φ1 : FH} {A B made st x c_ : Nat} {comb : Nat → Nat} {hm : Nat → MV} (h : x_LK φ A B made st comb hm ∧ (A = 230 ∧ B = 231 ∨ A = 231 ∧ B = 230)) (hx : made ≤ x) (e : ∀ j, 230 ≤ j → j ≤ 231 → φ1 j = φ j) : x_LK φ1 A B made st (x_s comb x c_) hm ∧ (A = 230 ∧ B = 231 ∨ A = 231 ∧ B = 230) := by
  obtain ⟨⟨la, lb, h1, h2, h3⟩, hA⟩ := h
  exact ⟨⟨la, lb, x_row_at2 h1 (e _ (by omega) (by omega)), x_row_at2 h2 (e _ (by omega) (by omega)), fun z i hi => (h3 z i hi).trans (x_lks_congr (fun j hj => (x_s_ne (by omega)).symm) (fun j _ => rfl) hi)⟩, hA⟩
theorem zc_fr_start_1 {d n sl : Nat} {φ : FH} {A : Nat} {B : Nat} {K : Nat → Nat} {P : Nat → Nat} {V : Nat → Nat} {at_ : Nat} {co : Nat → Nat} {comb : Nat → Nat} {cur : Nat} {fa : Nat} {fat : Nat} {fbi : Nat} {fcl : Nat → Nat} {fco : Nat → Nat} {fen : Nat} {fey : Nat} {ffa : Nat} {ffp : Nat} {fki : Nat} {fl : Nat → Nat} {fle : Nat} {fna : Nat} {fnu : Nat → Nat} {fp : Nat} {fr_ : Nat} {fse : Nat} {fso : Nat → Nat} {ftc : Nat} {ftf : Nat} {ftn : Nat → Nat} {ftx : Nat} {hm : Nat → MV} {lo : Nat → Nat} {made : Nat} {mi : Nat} {mm : Nat} {no : Nat} {op : Nat} {pc_ : Nat} {pl : Nat} {re : Nat → Nat} {rs : Nat → Nat} {s9 : Nat} {se : Nat → Nat} {sf : Nat} {sp : Nat} {st : Nat → Nat} {sv : Nat} {svm : Nat} {top_ : Nat} {tot : Nat} {tp : Nat → Nat} {va : Nat} (hF : zq_F φ ftx fle fat fse ffa ffp fen fey fna fki fbi ftc ftf fnu fco fso fcl ftn) (hB : zq_tp φ tp) (hT : zq_T φ tot at_ cur pl va fa fp sf sp no op K P V) (hKS : x_KS φ top_ fr_ pc_ mm mi st lo re rs fl se co) (hPS : x_PS φ A B made sv svm s9 comb hm) (hN : zq_nm φ) (hc0 : tp 0 = 35) (hc1 : tp 1 = 49) (hc2 : tp 2 = 61) (hc3 : tp 3 = 97) (hc4 : tp 4 = 40) (hc5 : tp 5 = 41) (hc6 : tp 6 = 59) : x_f x_P (d + 1) 81 [(6, 471, 0), (6, 1, 0), (0, 7, 0)] φ n sl (x_vR n sl (fun φ2 => zq_F φ2 1 7 fat fse 0 ffp 0 fey fna fki fbi ftc ftf fnu fco fso fcl ftn ∧ ∀ j, j ≠ 471 → φ2 j = φ j)) := by
  refine x_f_of rfl ?_
  refine x_n_lt (fun hlt0 => ?_)
  refine q_load (v := (6, 471, 0)) (p2 := 1) rfl rfl rfl rfl ?_
  refine q_load (v := (6, 1, 0)) (p2 := 2) rfl rfl rfl rfl ?_
  refine q_putfE (v := (6, 1, 0)) (p2 := 3) rfl hF.1 (by decide) rfl rfl (fun φ1 f1 hh1 hg1 ho1 fr1 => ?_)
  have hs1 := zq_F_put_471_2 hF hh1 hg1 ho1 fr1
  refine q_load (v := (6, 471, 0)) (p2 := 4) rfl rfl rfl rfl ?_
  refine q_load (v := (0, 7, 0)) (p2 := 5) rfl rfl rfl rfl ?_
  refine q_putfE (v := (0, 7, 0)) (p2 := 6) rfl hs1.1 (by decide) rfl rfl (fun φ2 f2 hh2 hg2 ho2 fr2 => ?_)
  have hs2 := zq_F_put_471_3 hs1 hh2 hg2 ho2 fr2
  refine q_load (v := (6, 471, 0)) (p2 := 7) rfl rfl rfl rfl ?_
  refine q_const (p2 := 8) rfl rfl ?_
  refine q_putfE (v := (0, 0, 0)) (p2 := 9) rfl hs2.1 (by decide) rfl rfl (fun φ3 f3 hh3 hg3 ho3 fr3 => ?_)
  have hs3 := zq_F_put_471_6 hs2 hh3 hg3 ho3 fr3
  refine q_load (v := (6, 471, 0)) (p2 := 10) rfl rfl rfl rfl ?_
  refine q_const (p2 := 11) rfl rfl ?_
  refine q_putfE (v := (0, 0, 0)) (p2 := 12) rfl hs3.1 (by decide) rfl rfl (fun φ4 f4 hh4 hg4 ho4 fr4 => ?_)
  have hs4 := zq_F_put_471_11 hs3 hh4 hg4 ho4 fr4
  exact q_ret rfl (⟨rfl, rfl, rfl, hs4, fun j hj0 => ((fr4 j (by omega)).trans ((fr3 j (by omega)).trans ((fr2 j (by omega)).trans (fr1 j (by omega)))))⟩)
theorem zc_fr_peek_3 {d n sl : Nat} {φ : FH} {A : Nat} {B : Nat} {K : Nat → Nat} {P : Nat → Nat} {V : Nat → Nat} {at_ : Nat} {co : Nat → Nat} {comb : Nat → Nat} {cur : Nat} {fa : Nat} {fbi : Nat} {fcl : Nat → Nat} {fco : Nat → Nat} {ffp : Nat} {fki : Nat} {fl : Nat → Nat} {fna : Nat} {fnu : Nat → Nat} {fp : Nat} {fr_ : Nat} {fso : Nat → Nat} {ftc : Nat} {ftf : Nat} {ftn : Nat → Nat} {hm : Nat → MV} {lo : Nat → Nat} {made : Nat} {mi : Nat} {mm : Nat} {no : Nat} {op : Nat} {pc_ : Nat} {pl : Nat} {re : Nat → Nat} {rs : Nat → Nat} {s9 : Nat} {se : Nat → Nat} {sf : Nat} {sp : Nat} {st : Nat → Nat} {sv : Nat} {svm : Nat} {top_ : Nat} {tot : Nat} {tp : Nat → Nat} {va : Nat} (hF : zq_F φ 1 7 0 0 0 ffp 0 0 fna fki fbi ftc ftf fnu fco fso fcl ftn) (hB : zq_tp φ tp) (hT : zq_T φ tot at_ cur pl va fa fp sf sp no op K P V) (hKS : x_KS φ top_ fr_ pc_ mm mi st lo re rs fl se co) (hPS : x_PS φ A B made sv svm s9 comb hm) (hN : zq_nm φ) (hc0 : tp 0 = 35) (hc1 : tp 1 = 49) (hc2 : tp 2 = 61) (hc3 : tp 3 = 97) (hc4 : tp 4 = 40) (hc5 : tp 5 = 41) (hc6 : tp 6 = 59) : x_f x_P (d + 1) 138 [(6, 471, 0)] φ n sl (x_r φ n sl (0, 35, 0)) := by
  refine x_f_of rfl ?_
  refine x_n_lt (fun hlt0 => ?_)
  refine q_load (v := (6, 471, 0)) (p2 := 1) rfl rfl rfl rfl ?_
  refine q_getv (v := (0, 0, 0)) (p2 := 2) rfl hF.1 (by decide) rfl rfl ?_
  refine q_if0_s (p2 := 3) rfl (by decide) (by omega) rfl (fun hb => absurd hb (show ¬ (0 < 0) by omega)) (fun _ => ?_)
  refine q_load (v := (6, 471, 0)) (p2 := 4) rfl rfl rfl rfl ?_
  refine q_getv (v := (0, 0, 0)) (p2 := 5) rfl hF.1 (by decide) rfl rfl ?_
  refine q_load (v := (6, 471, 0)) (p2 := 6) rfl rfl rfl rfl ?_
  refine q_getv (v := (0, 7, 0)) (p2 := 7) rfl hF.1 (by decide) rfl rfl ?_
  refine q_icmp_s (p2 := 8) rfl (by decide) (by omega) (by omega) rfl (fun hb => absurd hb (show ¬ (¬ (0 < 7)) by omega)) (fun _ => ?_)
  refine q_load (v := (6, 471, 0)) (p2 := 9) rfl rfl rfl rfl ?_
  refine q_getv (v := (0, 0, 0)) (p2 := 10) rfl hF.1 (by decide) rfl rfl ?_
  refine q_load (v := (6, 471, 0)) (p2 := 11) rfl rfl rfl rfl ?_
  refine q_getv (v := (6, 1, 0)) (p2 := 12) rfl hF.1 (by decide) rfl rfl ?_
  refine q_alen (p2 := 13) rfl hB rfl (by omega) rfl ?_
  refine q_icmp_s (p2 := 14) rfl (by decide) (by omega) (by omega) rfl (fun hb => absurd hb (show ¬ (¬ (0 < 3000)) by omega)) (fun _ => ?_)
  refine q_load (v := (6, 471, 0)) (p2 := 15) rfl rfl rfl rfl ?_
  refine q_getv (v := (6, 1, 0)) (p2 := 16) rfl hF.1 (by decide) rfl rfl ?_
  refine q_load (v := (6, 471, 0)) (p2 := 17) rfl rfl rfl rfl ?_
  refine q_getv (v := (0, 0, 0)) (p2 := 18) rfl hF.1 (by decide) rfl rfl ?_
  refine q_aldT (tag := 0) (v := 35) (p2 := 19) rfl hB (by omega) (by omega) hc0 rfl ?_
  refine q_const (p2 := 20) rfl rfl ?_
  refine q_iop (w := 35 &&& 255) (z := 35) (p2 := 21) rfl (xo_and 35 255) (by decide) rfl ?_
  refine q_goto rfl ?_
  exact q_retv (v := (0, 35, 0)) rfl rfl (⟨rfl, rfl, rfl, rfl, rfl⟩)
theorem zc_fr_blanks_2 {d n sl : Nat} {φ : FH} {A : Nat} {B : Nat} {K : Nat → Nat} {P : Nat → Nat} {V : Nat → Nat} {at_ : Nat} {co : Nat → Nat} {comb : Nat → Nat} {cur : Nat} {fa : Nat} {fbi : Nat} {fcl : Nat → Nat} {fco : Nat → Nat} {ffp : Nat} {fki : Nat} {fl : Nat → Nat} {fna : Nat} {fnu : Nat → Nat} {fp : Nat} {fr_ : Nat} {fso : Nat → Nat} {ftc : Nat} {ftf : Nat} {ftn : Nat → Nat} {hm : Nat → MV} {lo : Nat → Nat} {made : Nat} {mi : Nat} {mm : Nat} {no : Nat} {op : Nat} {pc_ : Nat} {pl : Nat} {re : Nat → Nat} {rs : Nat → Nat} {s9 : Nat} {se : Nat → Nat} {sf : Nat} {sp : Nat} {st : Nat → Nat} {sv : Nat} {svm : Nat} {top_ : Nat} {tot : Nat} {tp : Nat → Nat} {va : Nat} (hF : zq_F φ 1 7 0 0 0 ffp 0 0 fna fki fbi ftc ftf fnu fco fso fcl ftn) (hB : zq_tp φ tp) (hT : zq_T φ tot at_ cur pl va fa fp sf sp no op K P V) (hKS : x_KS φ top_ fr_ pc_ mm mi st lo re rs fl se co) (hPS : x_PS φ A B made sv svm s9 comb hm) (hN : zq_nm φ) (hc0 : tp 0 = 35) (hc1 : tp 1 = 49) (hc2 : tp 2 = 61) (hc3 : tp 3 = 97) (hc4 : tp 4 = 40) (hc5 : tp 5 = 41) (hc6 : tp 6 = 59) : x_f x_P (d + 2) 133 [(6, 471, 0), (11, 0, 0)] φ n sl (x_v φ n sl) := by
  refine x_f_of rfl ?_
  refine x_n_lt (fun hlt0 => ?_)
  refine q_const (p2 := 1) rfl rfl ?_
  refine q_store (loc2 := [(6, 471, 0), (0, 0, 0)]) (p2 := 2) rfl rfl rfl rfl rfl ?_
  refine q_load (v := (0, 0, 0)) (p2 := 3) rfl rfl rfl rfl ?_
  refine q_load (v := (6, 471, 0)) (p2 := 4) rfl rfl rfl rfl ?_
  refine q_getv (v := (0, 7, 0)) (p2 := 5) rfl hF.1 (by decide) rfl rfl ?_
  refine q_icmp_s (p2 := 6) rfl (by decide) (by omega) (by omega) rfl (fun hb => absurd hb (show ¬ (¬ (0 < 7)) by omega)) (fun _ => ?_)
  refine q_load (v := (6, 471, 0)) (p2 := 7) rfl rfl rfl rfl ?_
  refine q_callr (xs := [(6, 471, 0)]) (p2 := 8) rfl rfl rfl rfl (x_rcv_s 471 hF.1) rfl (zc_fr_peek_3 hF hB hT hKS hPS hN hc0 hc1 hc2 hc3 hc4 hc5 hc6) (Nat.le_refl _) (Nat.le_refl _) rfl ?_
  refine q_callr (xs := [(0, 35, 0)]) (p2 := 9) rfl rfl rfl rfl (fun _ _ => rfl) rfl (zc_a_87_35 ) (Nat.le_refl _) (Nat.le_refl _) rfl ?_
  refine q_if0_s (p2 := 10) rfl (by decide) (by omega) rfl (fun _ => ?_) (fun hb => absurd (show 0 = 0 by omega) hb)
  exact q_ret rfl (⟨rfl, rfl, rfl, rfl⟩)
theorem zc_fr_goesOn_4 {d n sl : Nat} {φ : FH} {A : Nat} {B : Nat} {K : Nat → Nat} {P : Nat → Nat} {V : Nat → Nat} {at_ : Nat} {co : Nat → Nat} {comb : Nat → Nat} {cur : Nat} {fa : Nat} {fbi : Nat} {fcl : Nat → Nat} {fco : Nat → Nat} {ffp : Nat} {fki : Nat} {fl : Nat → Nat} {fna : Nat} {fnu : Nat → Nat} {fp : Nat} {fr_ : Nat} {fso : Nat → Nat} {ftc : Nat} {ftf : Nat} {ftn : Nat → Nat} {hm : Nat → MV} {lo : Nat → Nat} {made : Nat} {mi : Nat} {mm : Nat} {no : Nat} {op : Nat} {pc_ : Nat} {pl : Nat} {re : Nat → Nat} {rs : Nat → Nat} {s9 : Nat} {se : Nat → Nat} {sf : Nat} {sp : Nat} {st : Nat → Nat} {sv : Nat} {svm : Nat} {top_ : Nat} {tot : Nat} {tp : Nat → Nat} {va : Nat} (hF : zq_F φ 1 7 0 0 0 ffp 0 0 fna fki fbi ftc ftf fnu fco fso fcl ftn) (hB : zq_tp φ tp) (hT : zq_T φ tot at_ cur pl va fa fp sf sp no op K P V) (hKS : x_KS φ top_ fr_ pc_ mm mi st lo re rs fl se co) (hPS : x_PS φ A B made sv svm s9 comb hm) (hN : zq_nm φ) (hc0 : tp 0 = 35) (hc1 : tp 1 = 49) (hc2 : tp 2 = 61) (hc3 : tp 3 = 97) (hc4 : tp 4 = 40) (hc5 : tp 5 = 41) (hc6 : tp 6 = 59) : x_f x_P (d + 1) 83 [(6, 471, 0)] φ n sl (x_r φ n sl (0, 1, 0)) := by
  refine x_f_of rfl ?_
  refine x_n_lt (fun hlt0 => ?_)
  refine q_load (v := (6, 471, 0)) (p2 := 1) rfl rfl rfl rfl ?_
  refine q_getv (v := (0, 0, 0)) (p2 := 2) rfl hF.1 (by decide) rfl rfl ?_
  refine q_if0_s (p2 := 3) rfl (by decide) (by omega) rfl (fun hb => absurd hb (show ¬ (¬ (0 = 0)) by omega)) (fun _ => ?_)
  refine q_load (v := (6, 471, 0)) (p2 := 4) rfl rfl rfl rfl ?_
  refine q_getv (v := (0, 0, 0)) (p2 := 5) rfl hF.1 (by decide) rfl rfl ?_
  refine q_load (v := (6, 471, 0)) (p2 := 6) rfl rfl rfl rfl ?_
  refine q_getv (v := (0, 7, 0)) (p2 := 7) rfl hF.1 (by decide) rfl rfl ?_
  refine q_icmp_s (p2 := 8) rfl (by decide) (by omega) (by omega) rfl (fun hb => absurd hb (show ¬ (¬ (0 < 7)) by omega)) (fun _ => ?_)
  refine q_const (p2 := 9) rfl rfl ?_
  refine q_goto rfl ?_
  exact q_retv (v := (0, 1, 0)) rfl rfl (⟨rfl, rfl, rfl, rfl, rfl⟩)
theorem zc_fr_expect_6 {d n sl : Nat} {φ : FH} {A : Nat} {B : Nat} {K : Nat → Nat} {P : Nat → Nat} {V : Nat → Nat} {at_ : Nat} {co : Nat → Nat} {comb : Nat → Nat} {cur : Nat} {fa : Nat} {fbi : Nat} {fcl : Nat → Nat} {fco : Nat → Nat} {ffp : Nat} {fki : Nat} {fl : Nat → Nat} {fna : Nat} {fnu : Nat → Nat} {fp : Nat} {fr_ : Nat} {fso : Nat → Nat} {ftc : Nat} {ftf : Nat} {ftn : Nat → Nat} {hm : Nat → MV} {lo : Nat → Nat} {made : Nat} {mi : Nat} {mm : Nat} {no : Nat} {op : Nat} {pc_ : Nat} {pl : Nat} {re : Nat → Nat} {rs : Nat → Nat} {s9 : Nat} {se : Nat → Nat} {sf : Nat} {sp : Nat} {st : Nat → Nat} {sv : Nat} {svm : Nat} {top_ : Nat} {tot : Nat} {tp : Nat → Nat} {va : Nat} (hF : zq_F φ 1 7 0 0 0 ffp 0 0 fna fki fbi ftc ftf fnu fco fso fcl ftn) (hB : zq_tp φ tp) (hT : zq_T φ tot at_ cur pl va fa fp sf sp no op K P V) (hKS : x_KS φ top_ fr_ pc_ mm mi st lo re rs fl se co) (hPS : x_PS φ A B made sv svm s9 comb hm) (hN : zq_nm φ) (hc0 : tp 0 = 35) (hc1 : tp 1 = 49) (hc2 : tp 2 = 61) (hc3 : tp 3 = 97) (hc4 : tp 4 = 40) (hc5 : tp 5 = 41) (hc6 : tp 6 = 59) : x_f x_P (d + 2) 213 [(6, 471, 0), (0, 35, 0)] φ n sl (x_vR n sl (fun φ2 => zq_F φ2 1 7 1 0 0 ffp 0 0 fna fki fbi ftc ftf fnu fco fso fcl ftn ∧ ∀ j, j ≠ 471 → φ2 j = φ j)) := by
  refine x_f_of rfl ?_
  refine x_n_lt (fun hlt0 => ?_)
  refine q_load (v := (6, 471, 0)) (p2 := 1) rfl rfl rfl rfl ?_
  refine q_callr (xs := [(6, 471, 0)]) (p2 := 2) rfl rfl rfl rfl (x_rcv_s 471 hF.1) rfl (zc_fr_peek_3 hF hB hT hKS hPS hN hc0 hc1 hc2 hc3 hc4 hc5 hc6) (Nat.le_refl _) (Nat.le_refl _) rfl ?_
  refine q_load (v := (0, 35, 0)) (p2 := 3) rfl rfl rfl rfl ?_
  refine q_icmp_s (p2 := 4) rfl (by decide) (by omega) (by omega) rfl (fun _ => ?_) (fun hb => absurd (show 35 = 35 by omega) hb)
  refine q_load (v := (6, 471, 0)) (p2 := 11) rfl rfl rfl rfl ?_
  refine q_getv (v := (0, 0, 0)) (p2 := 12) rfl hF.1 (by decide) rfl rfl ?_
  refine q_if0_s (p2 := 13) rfl (by decide) (by omega) rfl (fun hb => absurd hb (show ¬ (¬ (0 = 0)) by omega)) (fun _ => ?_)
  refine q_load (v := (6, 471, 0)) (p2 := 14) rfl rfl rfl rfl ?_
  refine q_dup (p2 := 15) rfl rfl rfl ?_
  refine q_getv (v := (0, 0, 0)) (p2 := 16) rfl hF.1 (by decide) rfl rfl ?_
  refine q_const (p2 := 17) rfl rfl ?_
  refine q_iop (w := 0 + 1) (z := 1) (p2 := 18) rfl (xo_add 0 1) (by decide) rfl ?_
  refine q_putfE (v := (0, 1, 0)) (p2 := 19) rfl hF.1 (by decide) rfl rfl (fun φ1 f1 hh1 hg1 ho1 fr1 => ?_)
  have hs1 := zq_F_put_471_4 hF hh1 hg1 ho1 fr1
  exact q_ret rfl (⟨rfl, rfl, rfl, hs1, fun j hj0 => (fr1 j (by omega))⟩)
theorem zc_fr_peek_7 {d n sl : Nat} {φ : FH} {A : Nat} {B : Nat} {K : Nat → Nat} {P : Nat → Nat} {V : Nat → Nat} {at_ : Nat} {co : Nat → Nat} {comb : Nat → Nat} {cur : Nat} {fa : Nat} {fbi : Nat} {fcl : Nat → Nat} {fco : Nat → Nat} {ffp : Nat} {fki : Nat} {fl : Nat → Nat} {fna : Nat} {fnu : Nat → Nat} {fp : Nat} {fr_ : Nat} {fso : Nat → Nat} {ftc : Nat} {ftf : Nat} {ftn : Nat → Nat} {hm : Nat → MV} {lo : Nat → Nat} {made : Nat} {mi : Nat} {mm : Nat} {no : Nat} {op : Nat} {pc_ : Nat} {pl : Nat} {re : Nat → Nat} {rs : Nat → Nat} {s9 : Nat} {se : Nat → Nat} {sf : Nat} {sp : Nat} {st : Nat → Nat} {sv : Nat} {svm : Nat} {top_ : Nat} {tot : Nat} {tp : Nat → Nat} {va : Nat} (hF : zq_F φ 1 7 1 0 0 ffp 0 0 fna fki fbi ftc ftf fnu fco fso fcl ftn) (hB : zq_tp φ tp) (hT : zq_T φ tot at_ cur pl va fa fp sf sp no op K P V) (hKS : x_KS φ top_ fr_ pc_ mm mi st lo re rs fl se co) (hPS : x_PS φ A B made sv svm s9 comb hm) (hN : zq_nm φ) (hc0 : tp 0 = 35) (hc1 : tp 1 = 49) (hc2 : tp 2 = 61) (hc3 : tp 3 = 97) (hc4 : tp 4 = 40) (hc5 : tp 5 = 41) (hc6 : tp 6 = 59) : x_f x_P (d + 1) 138 [(6, 471, 0)] φ n sl (x_r φ n sl (0, 49, 0)) := by
  refine x_f_of rfl ?_
  refine x_n_lt (fun hlt0 => ?_)
  refine q_load (v := (6, 471, 0)) (p2 := 1) rfl rfl rfl rfl ?_
  refine q_getv (v := (0, 1, 0)) (p2 := 2) rfl hF.1 (by decide) rfl rfl ?_
  refine q_if0_s (p2 := 3) rfl (by decide) (by omega) rfl (fun hb => absurd hb (show ¬ (1 < 0) by omega)) (fun _ => ?_)
  refine q_load (v := (6, 471, 0)) (p2 := 4) rfl rfl rfl rfl ?_
  refine q_getv (v := (0, 1, 0)) (p2 := 5) rfl hF.1 (by decide) rfl rfl ?_
  refine q_load (v := (6, 471, 0)) (p2 := 6) rfl rfl rfl rfl ?_
  refine q_getv (v := (0, 7, 0)) (p2 := 7) rfl hF.1 (by decide) rfl rfl ?_
  refine q_icmp_s (p2 := 8) rfl (by decide) (by omega) (by omega) rfl (fun hb => absurd hb (show ¬ (¬ (1 < 7)) by omega)) (fun _ => ?_)
  refine q_load (v := (6, 471, 0)) (p2 := 9) rfl rfl rfl rfl ?_
  refine q_getv (v := (0, 1, 0)) (p2 := 10) rfl hF.1 (by decide) rfl rfl ?_
  refine q_load (v := (6, 471, 0)) (p2 := 11) rfl rfl rfl rfl ?_
  refine q_getv (v := (6, 1, 0)) (p2 := 12) rfl hF.1 (by decide) rfl rfl ?_
  refine q_alen (p2 := 13) rfl hB rfl (by omega) rfl ?_
  refine q_icmp_s (p2 := 14) rfl (by decide) (by omega) (by omega) rfl (fun hb => absurd hb (show ¬ (¬ (1 < 3000)) by omega)) (fun _ => ?_)
  refine q_load (v := (6, 471, 0)) (p2 := 15) rfl rfl rfl rfl ?_
  refine q_getv (v := (6, 1, 0)) (p2 := 16) rfl hF.1 (by decide) rfl rfl ?_
  refine q_load (v := (6, 471, 0)) (p2 := 17) rfl rfl rfl rfl ?_
  refine q_getv (v := (0, 1, 0)) (p2 := 18) rfl hF.1 (by decide) rfl rfl ?_
  refine q_aldT (tag := 0) (v := 49) (p2 := 19) rfl hB (by omega) (by omega) hc1 rfl ?_
  refine q_const (p2 := 20) rfl rfl ?_
  refine q_iop (w := 49 &&& 255) (z := 49) (p2 := 21) rfl (xo_and 49 255) (by decide) rfl ?_
  refine q_goto rfl ?_
  exact q_retv (v := (0, 49, 0)) rfl rfl (⟨rfl, rfl, rfl, rfl, rfl⟩)
theorem zc_fr_peek_8 {d n sl : Nat} {φ : FH} {A : Nat} {B : Nat} {K : Nat → Nat} {P : Nat → Nat} {V : Nat → Nat} {at_ : Nat} {co : Nat → Nat} {comb : Nat → Nat} {cur : Nat} {fa : Nat} {fbi : Nat} {fcl : Nat → Nat} {fco : Nat → Nat} {ffp : Nat} {fki : Nat} {fl : Nat → Nat} {fna : Nat} {fnu : Nat → Nat} {fp : Nat} {fr_ : Nat} {fso : Nat → Nat} {ftc : Nat} {ftf : Nat} {ftn : Nat → Nat} {hm : Nat → MV} {lo : Nat → Nat} {made : Nat} {mi : Nat} {mm : Nat} {no : Nat} {op : Nat} {pc_ : Nat} {pl : Nat} {re : Nat → Nat} {rs : Nat → Nat} {s9 : Nat} {se : Nat → Nat} {sf : Nat} {sp : Nat} {st : Nat → Nat} {sv : Nat} {svm : Nat} {top_ : Nat} {tot : Nat} {tp : Nat → Nat} {va : Nat} (hF : zq_F φ 1 7 2 0 0 ffp 0 0 fna fki fbi ftc ftf fnu fco fso fcl ftn) (hB : zq_tp φ tp) (hT : zq_T φ tot at_ cur pl va fa fp sf sp no op K P V) (hKS : x_KS φ top_ fr_ pc_ mm mi st lo re rs fl se co) (hPS : x_PS φ A B made sv svm s9 comb hm) (hN : zq_nm φ) (hc0 : tp 0 = 35) (hc1 : tp 1 = 49) (hc2 : tp 2 = 61) (hc3 : tp 3 = 97) (hc4 : tp 4 = 40) (hc5 : tp 5 = 41) (hc6 : tp 6 = 59) : x_f x_P (d + 1) 138 [(6, 471, 0)] φ n sl (x_r φ n sl (0, 61, 0)) := by
  refine x_f_of rfl ?_
  refine x_n_lt (fun hlt0 => ?_)
  refine q_load (v := (6, 471, 0)) (p2 := 1) rfl rfl rfl rfl ?_
  refine q_getv (v := (0, 2, 0)) (p2 := 2) rfl hF.1 (by decide) rfl rfl ?_
  refine q_if0_s (p2 := 3) rfl (by decide) (by omega) rfl (fun hb => absurd hb (show ¬ (2 < 0) by omega)) (fun _ => ?_)
  refine q_load (v := (6, 471, 0)) (p2 := 4) rfl rfl rfl rfl ?_
  refine q_getv (v := (0, 2, 0)) (p2 := 5) rfl hF.1 (by decide) rfl rfl ?_
  refine q_load (v := (6, 471, 0)) (p2 := 6) rfl rfl rfl rfl ?_
  refine q_getv (v := (0, 7, 0)) (p2 := 7) rfl hF.1 (by decide) rfl rfl ?_
  refine q_icmp_s (p2 := 8) rfl (by decide) (by omega) (by omega) rfl (fun hb => absurd hb (show ¬ (¬ (2 < 7)) by omega)) (fun _ => ?_)
  refine q_load (v := (6, 471, 0)) (p2 := 9) rfl rfl rfl rfl ?_
  refine q_getv (v := (0, 2, 0)) (p2 := 10) rfl hF.1 (by decide) rfl rfl ?_
  refine q_load (v := (6, 471, 0)) (p2 := 11) rfl rfl rfl rfl ?_
  refine q_getv (v := (6, 1, 0)) (p2 := 12) rfl hF.1 (by decide) rfl rfl ?_
  refine q_alen (p2 := 13) rfl hB rfl (by omega) rfl ?_
  refine q_icmp_s (p2 := 14) rfl (by decide) (by omega) (by omega) rfl (fun hb => absurd hb (show ¬ (¬ (2 < 3000)) by omega)) (fun _ => ?_)
  refine q_load (v := (6, 471, 0)) (p2 := 15) rfl rfl rfl rfl ?_
  refine q_getv (v := (6, 1, 0)) (p2 := 16) rfl hF.1 (by decide) rfl rfl ?_
  refine q_load (v := (6, 471, 0)) (p2 := 17) rfl rfl rfl rfl ?_
  refine q_getv (v := (0, 2, 0)) (p2 := 18) rfl hF.1 (by decide) rfl rfl ?_
  refine q_aldT (tag := 0) (v := 61) (p2 := 19) rfl hB (by omega) (by omega) hc2 rfl ?_
  refine q_const (p2 := 20) rfl rfl ?_
  refine q_iop (w := 61 &&& 255) (z := 61) (p2 := 21) rfl (xo_and 61 255) (by decide) rfl ?_
  refine q_goto rfl ?_
  exact q_retv (v := (0, 61, 0)) rfl rfl (⟨rfl, rfl, rfl, rfl, rfl⟩)
theorem zc_fr_reference_5 {d n sl : Nat} {φ : FH} {A : Nat} {B : Nat} {K : Nat → Nat} {P : Nat → Nat} {V : Nat → Nat} {at_ : Nat} {co : Nat → Nat} {comb : Nat → Nat} {cur : Nat} {fa : Nat} {fbi : Nat} {fcl : Nat → Nat} {fco : Nat → Nat} {ffp : Nat} {fki : Nat} {fl : Nat → Nat} {fna : Nat} {fnu : Nat → Nat} {fp : Nat} {fr_ : Nat} {fso : Nat → Nat} {ftc : Nat} {ftf : Nat} {ftn : Nat → Nat} {hm : Nat → MV} {lo : Nat → Nat} {made : Nat} {mi : Nat} {mm : Nat} {no : Nat} {op : Nat} {pc_ : Nat} {pl : Nat} {re : Nat → Nat} {rs : Nat → Nat} {s9 : Nat} {se : Nat → Nat} {sf : Nat} {sp : Nat} {st : Nat → Nat} {sv : Nat} {svm : Nat} {top_ : Nat} {tot : Nat} {tp : Nat → Nat} {va : Nat} (hF : zq_F φ 1 7 0 0 0 ffp 0 0 fna fki fbi ftc ftf fnu fco fso fcl ftn) (hB : zq_tp φ tp) (hT : zq_T φ tot at_ cur pl va fa fp sf sp no op K P V) (hKS : x_KS φ top_ fr_ pc_ mm mi st lo re rs fl se co) (hPS : x_PS φ A B made sv svm s9 comb hm) (hN : zq_nm φ) (hc0 : tp 0 = 35) (hc1 : tp 1 = 49) (hc2 : tp 2 = 61) (hc3 : tp 3 = 97) (hc4 : tp 4 = 40) (hc5 : tp 5 = 41) (hc6 : tp 6 = 59) : x_f x_P (d + 3) 134 [(6, 471, 0), (11, 0, 0), (11, 0, 0), (11, 0, 0)] φ n sl (x_rR (0, 1, 0) n sl (fun φ2 => zq_F φ2 1 7 2 0 0 ffp 0 0 fna fki fbi ftc ftf fnu fco fso fcl ftn ∧ ∀ j, j ≠ 471 → φ2 j = φ j)) := by
  refine x_f_of rfl ?_
  refine x_n_lt (fun hlt0 => ?_)
  refine q_load (v := (6, 471, 0)) (p2 := 1) rfl rfl rfl rfl ?_
  refine q_const (p2 := 2) rfl rfl ?_
  refine q_callvE (xs := [(0, 35, 0), (6, 471, 0)]) (p2 := 3) rfl rfl rfl rfl (x_rcv_s 471 hF.1) rfl (zc_fr_expect_6 hF hB hT hKS hPS hN hc0 hc1 hc2 hc3 hc4 hc5 hc6) (Nat.le_refl _) (Nat.le_refl _) rfl (fun φ1 hR1 => ?_)
  obtain ⟨hs1_0, fr1⟩ := hR1
  refine q_load (v := (6, 471, 0)) (p2 := 4) rfl rfl rfl rfl ?_
  refine q_getv (v := (0, 1, 0)) (p2 := 5) rfl hs1_0.1 (by decide) rfl rfl ?_
  refine q_store (loc2 := [(6, 471, 0), (0, 1, 0), (11, 0, 0), (11, 0, 0)]) (p2 := 6) rfl rfl rfl rfl rfl ?_
  refine q_const (p2 := 7) rfl rfl ?_
  refine q_store (loc2 := [(6, 471, 0), (0, 1, 0), (0, 0, 0), (11, 0, 0)]) (p2 := 8) rfl rfl rfl rfl rfl ?_
  refine q_const (p2 := 9) rfl rfl ?_
  refine q_store (loc2 := [(6, 471, 0), (0, 1, 0), (0, 0, 0), (0, 0, 0)]) (p2 := 10) rfl rfl rfl rfl rfl ?_
  refine q_load (v := (0, 0, 0)) (p2 := 11) rfl rfl rfl rfl ?_
  refine q_load (v := (6, 471, 0)) (p2 := 12) rfl rfl rfl rfl ?_
  refine q_getv (v := (0, 7, 0)) (p2 := 13) rfl hs1_0.1 (by decide) rfl rfl ?_
  refine q_icmp_s (p2 := 14) rfl (by decide) (by omega) (by omega) rfl (fun hb => absurd hb (show ¬ (¬ (0 < 7)) by omega)) (fun _ => ?_)
  refine q_load (v := (6, 471, 0)) (p2 := 15) rfl rfl rfl rfl ?_
  refine q_getv (v := (0, 0, 0)) (p2 := 16) rfl hs1_0.1 (by decide) rfl rfl ?_
  refine q_if0_s (p2 := 17) rfl (by decide) (by omega) rfl (fun hb => absurd hb (show ¬ (¬ (0 = 0)) by omega)) (fun _ => ?_)
  refine q_load (v := (6, 471, 0)) (p2 := 18) rfl rfl rfl rfl ?_
  have hm2 := (zq_tp_at hB (fr1 1 (by decide)))
  have hm3 := (zq_T_at hT (fr1 2 (by decide)) (fr1 3 (by decide)) (fr1 4 (by decide)) (fr1 5 (by decide)) (fr1 6 (by decide)))
  have hm4 := (x_KS_at2 hKS (fun j h1 h2 h3 h4 => (fr1 j (by omega))))
  refine x_n_lt (fun hlt6 => ?_)
  have hm5 := (x_PS_at hPS (fun j hj hne => by have hj2 := x_some_lt hlt0 hne; exact (fr1 j (by omega))))
  have hm7 := (zq_nm_at hN (fr1 239 (by decide)) (fr1 242 (by decide)) (fr1 244 (by decide)))
  refine q_callr (xs := [(6, 471, 0)]) (p2 := 19) rfl rfl rfl rfl (x_rcv_s 471 hs1_0.1) rfl (zc_fr_peek_7 hs1_0 hm2 hm3 hm4 hm5 hm7 hc0 hc1 hc2 hc3 hc4 hc5 hc6) (Nat.le_refl _) (Nat.le_refl _) rfl ?_
  refine q_callr (xs := [(0, 49, 0)]) (p2 := 20) rfl rfl rfl rfl (fun _ _ => rfl) rfl (zc_dg_isDigit (by omega)) (Nat.le_refl _) (Nat.le_refl _) rfl ?_
  refine q_if0_s (p2 := 21) rfl (by decide) (by omega) rfl (fun hb => absurd hb (show ¬ (1 = 0) by omega)) (fun _ => ?_)
  refine q_load (v := (6, 471, 0)) (p2 := 22) rfl rfl rfl rfl ?_
  refine q_getv (v := (0, 1, 0)) (p2 := 23) rfl hs1_0.1 (by decide) rfl rfl ?_
  refine q_load (v := (0, 1, 0)) (p2 := 24) rfl rfl rfl rfl ?_
  refine q_iop (w := 1 + (4294967296 - 1 % 4294967296)) (z := 0) (p2 := 25) rfl (xo_sub 1 1) (by decide) rfl ?_
  refine q_const (p2 := 26) rfl rfl ?_
  refine q_icmp_s (p2 := 27) rfl (by decide) (by omega) (by omega) rfl (fun hb => absurd hb (show ¬ (¬ (0 < 4)) by omega)) (fun _ => ?_)
  refine q_load (v := (0, 0, 0)) (p2 := 28) rfl rfl rfl rfl ?_
  refine q_const (p2 := 29) rfl rfl ?_
  refine q_iop (w := 0 * 10) (z := 0) (p2 := 30) rfl (xo_mul 0 10) (by decide) rfl ?_
  refine q_load (v := (6, 471, 0)) (p2 := 31) rfl rfl rfl rfl ?_
  refine q_callr (xs := [(6, 471, 0)]) (p2 := 32) rfl rfl rfl rfl (x_rcv_s 471 hs1_0.1) rfl (zc_fr_peek_7 hs1_0 hm2 hm3 hm4 hm5 hm7 hc0 hc1 hc2 hc3 hc4 hc5 hc6) (Nat.le_refl _) (Nat.le_refl _) rfl ?_
  refine q_iop (w := 0 + 49) (z := 49) (p2 := 33) rfl (xo_add 0 49) (by decide) rfl ?_
  refine q_const (p2 := 34) rfl rfl ?_
  refine q_iop (w := 49 + (4294967296 - 48 % 4294967296)) (z := 1) (p2 := 35) rfl (xo_sub 49 48) (by decide) rfl ?_
  refine q_goto rfl ?_
  refine q_store (loc2 := [(6, 471, 0), (0, 1, 0), (0, 1, 0), (0, 0, 0)]) (p2 := 38) rfl rfl rfl rfl rfl ?_
  refine q_load (v := (6, 471, 0)) (p2 := 39) rfl rfl rfl rfl ?_
  refine q_dup (p2 := 40) rfl rfl rfl ?_
  refine q_getv (v := (0, 1, 0)) (p2 := 41) rfl hs1_0.1 (by decide) rfl rfl ?_
  refine q_const (p2 := 42) rfl rfl ?_
  refine q_iop (w := 1 + 1) (z := 2) (p2 := 43) rfl (xo_add 1 1) (by decide) rfl ?_
  refine q_putfE (v := (0, 2, 0)) (p2 := 44) rfl hs1_0.1 (by decide) rfl rfl (fun φ8 f8 hh8 hg8 ho8 fr8 => ?_)
  have hs8 := zq_F_put_471_4 hs1_0 hh8 hg8 ho8 fr8
  refine q_iinc (z := 1) (loc2 := [(6, 471, 0), (0, 1, 0), (0, 1, 0), (0, 1, 0)]) (p2 := 45) rfl rfl (by decide) rfl rfl ?_
  refine q_goto rfl ?_
  refine q_load (v := (0, 1, 0)) (p2 := 11) rfl rfl rfl rfl ?_
  refine q_load (v := (6, 471, 0)) (p2 := 12) rfl rfl rfl rfl ?_
  refine q_getv (v := (0, 7, 0)) (p2 := 13) rfl hs8.1 (by decide) rfl rfl ?_
  refine q_icmp_s (p2 := 14) rfl (by decide) (by omega) (by omega) rfl (fun hb => absurd hb (show ¬ (¬ (1 < 7)) by omega)) (fun _ => ?_)
  refine q_load (v := (6, 471, 0)) (p2 := 15) rfl rfl rfl rfl ?_
  refine q_getv (v := (0, 0, 0)) (p2 := 16) rfl hs8.1 (by decide) rfl rfl ?_
  refine q_if0_s (p2 := 17) rfl (by decide) (by omega) rfl (fun hb => absurd hb (show ¬ (¬ (0 = 0)) by omega)) (fun _ => ?_)
  refine q_load (v := (6, 471, 0)) (p2 := 18) rfl rfl rfl rfl ?_
  have hm9 := (zq_tp_at hm2 (fr8 1 (by decide)))
  have hm10 := (zq_T_at hm3 (fr8 2 (by decide)) (fr8 3 (by decide)) (fr8 4 (by decide)) (fr8 5 (by decide)) (fr8 6 (by decide)))
  have hm11 := (x_KS_at2 hm4 (fun j h1 h2 h3 h4 => (fr8 j (by omega))))
  refine x_n_lt (fun hlt13 => ?_)
  have hm12 := (x_PS_at hm5 (fun j hj hne => by have hj2 := x_some_lt hlt6 hne; exact (fr8 j (by omega))))
  have hm14 := (zq_nm_at hm7 (fr8 239 (by decide)) (fr8 242 (by decide)) (fr8 244 (by decide)))
  refine q_callr (xs := [(6, 471, 0)]) (p2 := 19) rfl rfl rfl rfl (x_rcv_s 471 hs8.1) rfl (zc_fr_peek_8 hs8 hm9 hm10 hm11 hm12 hm14 hc0 hc1 hc2 hc3 hc4 hc5 hc6) (Nat.le_refl _) (Nat.le_refl _) rfl ?_
  refine q_callr (xs := [(0, 61, 0)]) (p2 := 20) rfl rfl rfl rfl (fun _ _ => rfl) rfl (zc_a_143_61 ) (Nat.le_refl _) (Nat.le_refl _) rfl ?_
  refine q_if0_s (p2 := 21) rfl (by decide) (by omega) rfl (fun _ => ?_) (fun hb => absurd (show 0 = 0 by omega) hb)
  refine q_load (v := (6, 471, 0)) (p2 := 47) rfl rfl rfl rfl ?_
  refine q_getv (v := (0, 2, 0)) (p2 := 48) rfl hs8.1 (by decide) rfl rfl ?_
  refine q_load (v := (0, 1, 0)) (p2 := 49) rfl rfl rfl rfl ?_
  refine q_icmp_s (p2 := 50) rfl (by decide) (by omega) (by omega) rfl (fun _ => ?_) (fun hb => absurd (show ¬ (2 = 1) by omega) hb)
  refine q_load (v := (6, 471, 0)) (p2 := 57) rfl rfl rfl rfl ?_
  refine q_getv (v := (0, 2, 0)) (p2 := 58) rfl hs8.1 (by decide) rfl rfl ?_
  refine q_load (v := (0, 1, 0)) (p2 := 59) rfl rfl rfl rfl ?_
  refine q_iop (w := 2 + (4294967296 - 1 % 4294967296)) (z := 1) (p2 := 60) rfl (xo_sub 2 1) (by decide) rfl ?_
  refine q_const (p2 := 61) rfl rfl ?_
  refine q_icmp_s (p2 := 62) rfl (by decide) (by omega) (by omega) rfl (fun _ => ?_) (fun hb => absurd (show ¬ (4 < 1) by omega) hb)
  refine q_load (v := (0, 1, 0)) (p2 := 67) rfl rfl rfl rfl ?_
  exact q_retv (v := (0, 1, 0)) rfl rfl (⟨rfl, rfl, rfl, rfl, hs8, fun j hj0 => ((fr8 j (by omega)).trans (fr1 j (by omega)))⟩)
theorem zc_fr_addEntry_9 {d n sl : Nat} {φ : FH} {A : Nat} {B : Nat} {K : Nat → Nat} {P : Nat → Nat} {V : Nat → Nat} {at_ : Nat} {co : Nat → Nat} {comb : Nat → Nat} {cur : Nat} {fa : Nat} {fbi : Nat} {fcl : Nat → Nat} {fco : Nat → Nat} {ffp : Nat} {fki : Nat} {fl : Nat → Nat} {fna : Nat} {fnu : Nat → Nat} {fp : Nat} {fr_ : Nat} {fso : Nat → Nat} {ftc : Nat} {ftf : Nat} {ftn : Nat → Nat} {hm : Nat → MV} {lo : Nat → Nat} {made : Nat} {mi : Nat} {mm : Nat} {no : Nat} {op : Nat} {pc_ : Nat} {pl : Nat} {re : Nat → Nat} {rs : Nat → Nat} {s9 : Nat} {se : Nat → Nat} {sf : Nat} {sp : Nat} {st : Nat → Nat} {sv : Nat} {svm : Nat} {top_ : Nat} {tot : Nat} {tp : Nat → Nat} {va : Nat} (hF : zq_F φ 1 7 2 0 0 ffp 0 0 fna fki fbi ftc ftf fnu fco fso fcl ftn) (hB : zq_tp φ tp) (hT : zq_T φ tot at_ cur pl va fa fp sf sp no op K P V) (hKS : x_KS φ top_ fr_ pc_ mm mi st lo re rs fl se co) (hPS : x_PS φ A B made sv svm s9 comb hm) (hN : zq_nm φ) (hc0 : tp 0 = 35) (hc1 : tp 1 = 49) (hc2 : tp 2 = 61) (hc3 : tp 3 = 97) (hc4 : tp 4 = 40) (hc5 : tp 5 = 41) (hc6 : tp 6 = 59) : x_f x_P (d + 1) 136 [(6, 471, 0), (0, 1, 0)] φ n sl (x_vR n sl (fun φ2 => zq_F φ2 1 7 2 0 0 ffp 1 0 fna fki fbi ftc ftf (x_s fnu 0 1) (x_s fco 0 0) (x_s fso 0 1) fcl ftn ∧ ∀ j, j ≠ 471 → j ≠ 473 → j ≠ 474 → j ≠ 475 → φ2 j = φ j)) := by
  refine x_f_of rfl ?_
  refine x_n_lt (fun hlt0 => ?_)
  refine q_load (v := (6, 471, 0)) (p2 := 1) rfl rfl rfl rfl ?_
  refine q_getv (v := (0, 0, 0)) (p2 := 2) rfl hF.1 (by decide) rfl rfl ?_
  refine q_if0_s (p2 := 3) rfl (by decide) (by omega) rfl (fun hb => absurd hb (show ¬ (¬ (0 = 0)) by omega)) (fun _ => ?_)
  refine q_load (v := (6, 471, 0)) (p2 := 4) rfl rfl rfl rfl ?_
  refine q_getv (v := (0, 0, 0)) (p2 := 5) rfl hF.1 (by decide) rfl rfl ?_
  refine q_const (p2 := 6) rfl rfl ?_
  refine q_icmp_s (p2 := 7) rfl (by decide) (by omega) (by omega) rfl (fun hb => absurd hb (show ¬ (¬ (0 < 440)) by omega)) (fun _ => ?_)
  refine q_load (v := (6, 471, 0)) (p2 := 8) rfl rfl rfl rfl ?_
  refine q_getv (v := (6, 473, 0)) (p2 := 9) rfl hF.1 (by decide) rfl rfl ?_
  refine q_load (v := (6, 471, 0)) (p2 := 10) rfl rfl rfl rfl ?_
  refine q_getv (v := (0, 0, 0)) (p2 := 11) rfl hF.1 (by decide) rfl rfl ?_
  refine q_load (v := (0, 1, 0)) (p2 := 12) rfl rfl rfl rfl ?_
  refine q_astE (v := (0, 1, 0)) (w := (0, 1, 0)) (p2 := 13) rfl hF.2.1 (by omega) (by omega) (x_ok_0 rfl) (x_nv_same rfl (by decide)) rfl (fun φ1 f1 hh1 hg1 ho1 fr1 => ?_)
  have hs1 := zq_F_st_473 hF hh1 hg1 ho1 fr1
  refine q_load (v := (6, 471, 0)) (p2 := 14) rfl rfl rfl rfl ?_
  refine q_getv (v := (6, 474, 0)) (p2 := 15) rfl hs1.1 (by decide) rfl rfl ?_
  refine q_load (v := (6, 471, 0)) (p2 := 16) rfl rfl rfl rfl ?_
  refine q_getv (v := (0, 0, 0)) (p2 := 17) rfl hs1.1 (by decide) rfl rfl ?_
  refine q_const (p2 := 18) rfl rfl ?_
  refine q_astE (v := (0, 0, 0)) (w := (0, 0, 0)) (p2 := 19) rfl hs1.2.2.1 (by omega) (by omega) (x_ok_0 rfl) (x_nv_same rfl (by decide)) rfl (fun φ2 f2 hh2 hg2 ho2 fr2 => ?_)
  have hs2 := zq_F_st_474 hs1 hh2 hg2 ho2 fr2
  refine q_load (v := (6, 471, 0)) (p2 := 20) rfl rfl rfl rfl ?_
  refine q_getv (v := (6, 475, 0)) (p2 := 21) rfl hs2.1 (by decide) rfl rfl ?_
  refine q_load (v := (6, 471, 0)) (p2 := 22) rfl rfl rfl rfl ?_
  refine q_getv (v := (0, 0, 0)) (p2 := 23) rfl hs2.1 (by decide) rfl rfl ?_
  refine q_const (p2 := 24) rfl rfl ?_
  refine q_astE (v := (0, 1, 0)) (w := (0, 1, 0)) (p2 := 25) rfl hs2.2.2.2.1 (by omega) (by omega) (x_ok_0 rfl) (x_nv_3 (by omega)) rfl (fun φ3 f3 hh3 hg3 ho3 fr3 => ?_)
  have hs3 := zq_F_st_475 hs2 hh3 hg3 ho3 fr3
  refine q_load (v := (6, 471, 0)) (p2 := 26) rfl rfl rfl rfl ?_
  refine q_dup (p2 := 27) rfl rfl rfl ?_
  refine q_getv (v := (0, 0, 0)) (p2 := 28) rfl hs3.1 (by decide) rfl rfl ?_
  refine q_const (p2 := 29) rfl rfl ?_
  refine q_iop (w := 0 + 1) (z := 1) (p2 := 30) rfl (xo_add 0 1) (by decide) rfl ?_
  refine q_putfE (v := (0, 1, 0)) (p2 := 31) rfl hs3.1 (by decide) rfl rfl (fun φ4 f4 hh4 hg4 ho4 fr4 => ?_)
  have hs4 := zq_F_put_471_11 hs3 hh4 hg4 ho4 fr4
  exact q_ret rfl (⟨rfl, rfl, rfl, hs4, fun j hj0 hj1 hj2 hj3 => ((fr4 j (by omega)).trans ((fr3 j (by omega)).trans ((fr2 j (by omega)).trans (fr1 j (by omega)))))⟩)
theorem zc_fr_peek_12 {d n sl : Nat} {φ : FH} {A : Nat} {B : Nat} {K : Nat → Nat} {P : Nat → Nat} {V : Nat → Nat} {at_ : Nat} {co : Nat → Nat} {comb : Nat → Nat} {cur : Nat} {fa : Nat} {fbi : Nat} {fcl : Nat → Nat} {fco : Nat → Nat} {ffp : Nat} {fki : Nat} {fl : Nat → Nat} {fnu : Nat → Nat} {fp : Nat} {fr_ : Nat} {fso : Nat → Nat} {ftc : Nat} {ftf : Nat} {ftn : Nat → Nat} {hm : Nat → MV} {lo : Nat → Nat} {made : Nat} {mi : Nat} {mm : Nat} {no : Nat} {op : Nat} {pc_ : Nat} {pl : Nat} {re : Nat → Nat} {rs : Nat → Nat} {s9 : Nat} {se : Nat → Nat} {sf : Nat} {sp : Nat} {st : Nat → Nat} {sv : Nat} {svm : Nat} {top_ : Nat} {tot : Nat} {tp : Nat → Nat} {va : Nat} (hF : zq_F φ 1 7 2 0 0 ffp 1 0 0 fki fbi ftc ftf (x_s fnu 0 1) (x_s fco 0 0) (x_s fso 0 1) fcl ftn) (hB : zq_tp φ tp) (hT : zq_T φ tot at_ cur pl va fa fp sf sp no op K P V) (hKS : x_KS φ top_ fr_ pc_ mm mi st lo re rs fl se co) (hPS : x_PS φ A B made sv svm s9 comb hm) (hN : zq_nm φ) (hc0 : tp 0 = 35) (hc1 : tp 1 = 49) (hc2 : tp 2 = 61) (hc3 : tp 3 = 97) (hc4 : tp 4 = 40) (hc5 : tp 5 = 41) (hc6 : tp 6 = 59) : x_f x_P (d + 1) 138 [(6, 471, 0)] φ n sl (x_r φ n sl (0, 61, 0)) := by
  refine x_f_of rfl ?_
  refine x_n_lt (fun hlt0 => ?_)
  refine q_load (v := (6, 471, 0)) (p2 := 1) rfl rfl rfl rfl ?_
  refine q_getv (v := (0, 2, 0)) (p2 := 2) rfl hF.1 (by decide) rfl rfl ?_
  refine q_if0_s (p2 := 3) rfl (by decide) (by omega) rfl (fun hb => absurd hb (show ¬ (2 < 0) by omega)) (fun _ => ?_)
  refine q_load (v := (6, 471, 0)) (p2 := 4) rfl rfl rfl rfl ?_
  refine q_getv (v := (0, 2, 0)) (p2 := 5) rfl hF.1 (by decide) rfl rfl ?_
  refine q_load (v := (6, 471, 0)) (p2 := 6) rfl rfl rfl rfl ?_
  refine q_getv (v := (0, 7, 0)) (p2 := 7) rfl hF.1 (by decide) rfl rfl ?_
  refine q_icmp_s (p2 := 8) rfl (by decide) (by omega) (by omega) rfl (fun hb => absurd hb (show ¬ (¬ (2 < 7)) by omega)) (fun _ => ?_)
  refine q_load (v := (6, 471, 0)) (p2 := 9) rfl rfl rfl rfl ?_
  refine q_getv (v := (0, 2, 0)) (p2 := 10) rfl hF.1 (by decide) rfl rfl ?_
  refine q_load (v := (6, 471, 0)) (p2 := 11) rfl rfl rfl rfl ?_
  refine q_getv (v := (6, 1, 0)) (p2 := 12) rfl hF.1 (by decide) rfl rfl ?_
  refine q_alen (p2 := 13) rfl hB rfl (by omega) rfl ?_
  refine q_icmp_s (p2 := 14) rfl (by decide) (by omega) (by omega) rfl (fun hb => absurd hb (show ¬ (¬ (2 < 3000)) by omega)) (fun _ => ?_)
  refine q_load (v := (6, 471, 0)) (p2 := 15) rfl rfl rfl rfl ?_
  refine q_getv (v := (6, 1, 0)) (p2 := 16) rfl hF.1 (by decide) rfl rfl ?_
  refine q_load (v := (6, 471, 0)) (p2 := 17) rfl rfl rfl rfl ?_
  refine q_getv (v := (0, 2, 0)) (p2 := 18) rfl hF.1 (by decide) rfl rfl ?_
  refine q_aldT (tag := 0) (v := 61) (p2 := 19) rfl hB (by omega) (by omega) hc2 rfl ?_
  refine q_const (p2 := 20) rfl rfl ?_
  refine q_iop (w := 61 &&& 255) (z := 61) (p2 := 21) rfl (xo_and 61 255) (by decide) rfl ?_
  refine q_goto rfl ?_
  exact q_retv (v := (0, 61, 0)) rfl rfl (⟨rfl, rfl, rfl, rfl, rfl⟩)
theorem zc_fr_blanks_11 {d n sl : Nat} {φ : FH} {A : Nat} {B : Nat} {K : Nat → Nat} {P : Nat → Nat} {V : Nat → Nat} {at_ : Nat} {co : Nat → Nat} {comb : Nat → Nat} {cur : Nat} {fa : Nat} {fbi : Nat} {fcl : Nat → Nat} {fco : Nat → Nat} {ffp : Nat} {fki : Nat} {fl : Nat → Nat} {fnu : Nat → Nat} {fp : Nat} {fr_ : Nat} {fso : Nat → Nat} {ftc : Nat} {ftf : Nat} {ftn : Nat → Nat} {hm : Nat → MV} {lo : Nat → Nat} {made : Nat} {mi : Nat} {mm : Nat} {no : Nat} {op : Nat} {pc_ : Nat} {pl : Nat} {re : Nat → Nat} {rs : Nat → Nat} {s9 : Nat} {se : Nat → Nat} {sf : Nat} {sp : Nat} {st : Nat → Nat} {sv : Nat} {svm : Nat} {top_ : Nat} {tot : Nat} {tp : Nat → Nat} {va : Nat} (hF : zq_F φ 1 7 2 0 0 ffp 1 0 0 fki fbi ftc ftf (x_s fnu 0 1) (x_s fco 0 0) (x_s fso 0 1) fcl ftn) (hB : zq_tp φ tp) (hT : zq_T φ tot at_ cur pl va fa fp sf sp no op K P V) (hKS : x_KS φ top_ fr_ pc_ mm mi st lo re rs fl se co) (hPS : x_PS φ A B made sv svm s9 comb hm) (hN : zq_nm φ) (hc0 : tp 0 = 35) (hc1 : tp 1 = 49) (hc2 : tp 2 = 61) (hc3 : tp 3 = 97) (hc4 : tp 4 = 40) (hc5 : tp 5 = 41) (hc6 : tp 6 = 59) : x_f x_P (d + 2) 133 [(6, 471, 0), (11, 0, 0)] φ n sl (x_v φ n sl) := by
  refine x_f_of rfl ?_
  refine x_n_lt (fun hlt0 => ?_)
  refine q_const (p2 := 1) rfl rfl ?_
  refine q_store (loc2 := [(6, 471, 0), (0, 0, 0)]) (p2 := 2) rfl rfl rfl rfl rfl ?_
  refine q_load (v := (0, 0, 0)) (p2 := 3) rfl rfl rfl rfl ?_
  refine q_load (v := (6, 471, 0)) (p2 := 4) rfl rfl rfl rfl ?_
  refine q_getv (v := (0, 7, 0)) (p2 := 5) rfl hF.1 (by decide) rfl rfl ?_
  refine q_icmp_s (p2 := 6) rfl (by decide) (by omega) (by omega) rfl (fun hb => absurd hb (show ¬ (¬ (0 < 7)) by omega)) (fun _ => ?_)
  refine q_load (v := (6, 471, 0)) (p2 := 7) rfl rfl rfl rfl ?_
  refine q_callr (xs := [(6, 471, 0)]) (p2 := 8) rfl rfl rfl rfl (x_rcv_s 471 hF.1) rfl (zc_fr_peek_12 hF hB hT hKS hPS hN hc0 hc1 hc2 hc3 hc4 hc5 hc6) (Nat.le_refl _) (Nat.le_refl _) rfl ?_
  refine q_callr (xs := [(0, 61, 0)]) (p2 := 9) rfl rfl rfl rfl (fun _ _ => rfl) rfl (zc_a_87_61 ) (Nat.le_refl _) (Nat.le_refl _) rfl ?_
  refine q_if0_s (p2 := 10) rfl (by decide) (by omega) rfl (fun _ => ?_) (fun hb => absurd (show 0 = 0 by omega) hb)
  exact q_ret rfl (⟨rfl, rfl, rfl, rfl⟩)
theorem zc_fr_peek_14 {d n sl : Nat} {φ : FH} {A : Nat} {B : Nat} {K : Nat → Nat} {P : Nat → Nat} {V : Nat → Nat} {at_ : Nat} {co : Nat → Nat} {comb : Nat → Nat} {cur : Nat} {fa : Nat} {fbi : Nat} {fcl : Nat → Nat} {fco : Nat → Nat} {ffp : Nat} {fki : Nat} {fl : Nat → Nat} {fnu : Nat → Nat} {fp : Nat} {fr_ : Nat} {fso : Nat → Nat} {ftc : Nat} {ftf : Nat} {ftn : Nat → Nat} {hm : Nat → MV} {lo : Nat → Nat} {made : Nat} {mi : Nat} {mm : Nat} {no : Nat} {op : Nat} {pc_ : Nat} {pl : Nat} {re : Nat → Nat} {rs : Nat → Nat} {s9 : Nat} {se : Nat → Nat} {sf : Nat} {sp : Nat} {st : Nat → Nat} {sv : Nat} {svm : Nat} {top_ : Nat} {tot : Nat} {tp : Nat → Nat} {va : Nat} (hF : zq_F φ 1 7 3 0 0 ffp 1 0 0 fki fbi ftc ftf (x_s fnu 0 1) (x_s fco 0 0) (x_s fso 0 1) fcl ftn) (hB : zq_tp φ tp) (hT : zq_T φ tot at_ cur pl va fa fp sf sp no op K P V) (hKS : x_KS φ top_ fr_ pc_ mm mi st lo re rs fl se co) (hPS : x_PS φ A B made sv svm s9 comb hm) (hN : zq_nm φ) (hc0 : tp 0 = 35) (hc1 : tp 1 = 49) (hc2 : tp 2 = 61) (hc3 : tp 3 = 97) (hc4 : tp 4 = 40) (hc5 : tp 5 = 41) (hc6 : tp 6 = 59) : x_f x_P (d + 1) 138 [(6, 471, 0)] φ n sl (x_r φ n sl (0, 97, 0)) := by
  refine x_f_of rfl ?_
  refine x_n_lt (fun hlt0 => ?_)
  refine q_load (v := (6, 471, 0)) (p2 := 1) rfl rfl rfl rfl ?_
  refine q_getv (v := (0, 3, 0)) (p2 := 2) rfl hF.1 (by decide) rfl rfl ?_
  refine q_if0_s (p2 := 3) rfl (by decide) (by omega) rfl (fun hb => absurd hb (show ¬ (3 < 0) by omega)) (fun _ => ?_)
  refine q_load (v := (6, 471, 0)) (p2 := 4) rfl rfl rfl rfl ?_
  refine q_getv (v := (0, 3, 0)) (p2 := 5) rfl hF.1 (by decide) rfl rfl ?_
  refine q_load (v := (6, 471, 0)) (p2 := 6) rfl rfl rfl rfl ?_
  refine q_getv (v := (0, 7, 0)) (p2 := 7) rfl hF.1 (by decide) rfl rfl ?_
  refine q_icmp_s (p2 := 8) rfl (by decide) (by omega) (by omega) rfl (fun hb => absurd hb (show ¬ (¬ (3 < 7)) by omega)) (fun _ => ?_)
  refine q_load (v := (6, 471, 0)) (p2 := 9) rfl rfl rfl rfl ?_
  refine q_getv (v := (0, 3, 0)) (p2 := 10) rfl hF.1 (by decide) rfl rfl ?_
  refine q_load (v := (6, 471, 0)) (p2 := 11) rfl rfl rfl rfl ?_
  refine q_getv (v := (6, 1, 0)) (p2 := 12) rfl hF.1 (by decide) rfl rfl ?_
  refine q_alen (p2 := 13) rfl hB rfl (by omega) rfl ?_
  refine q_icmp_s (p2 := 14) rfl (by decide) (by omega) (by omega) rfl (fun hb => absurd hb (show ¬ (¬ (3 < 3000)) by omega)) (fun _ => ?_)
  refine q_load (v := (6, 471, 0)) (p2 := 15) rfl rfl rfl rfl ?_
  refine q_getv (v := (6, 1, 0)) (p2 := 16) rfl hF.1 (by decide) rfl rfl ?_
  refine q_load (v := (6, 471, 0)) (p2 := 17) rfl rfl rfl rfl ?_
  refine q_getv (v := (0, 3, 0)) (p2 := 18) rfl hF.1 (by decide) rfl rfl ?_
  refine q_aldT (tag := 0) (v := 97) (p2 := 19) rfl hB (by omega) (by omega) hc3 rfl ?_
  refine q_const (p2 := 20) rfl rfl ?_
  refine q_iop (w := 97 &&& 255) (z := 97) (p2 := 21) rfl (xo_and 97 255) (by decide) rfl ?_
  refine q_goto rfl ?_
  exact q_retv (v := (0, 97, 0)) rfl rfl (⟨rfl, rfl, rfl, rfl, rfl⟩)
theorem zc_a_87_97 {d n sl : Nat} {φ : FH}    : x_f x_P (d + 1) 87 [(0, 97, 0)] φ n sl (x_r φ n sl (0, 0, 0)) := by
  refine x_f_of rfl ?_
  refine q_load (v := (0, 97, 0)) (p2 := 1) rfl rfl rfl rfl ?_
  refine q_const (p2 := 2) rfl rfl ?_
  refine q_icmp_s (p2 := 3) rfl (by decide) (by omega) (by omega) rfl (fun hb => absurd hb (show ¬ (97 = 32) by omega)) (fun _ => ?_)
  refine q_load (v := (0, 97, 0)) (p2 := 4) rfl rfl rfl rfl ?_
  refine q_const (p2 := 5) rfl rfl ?_
  refine q_icmp_s (p2 := 6) rfl (by decide) (by omega) (by omega) rfl (fun _ => ?_) (fun hb => absurd (show ¬ (97 = 10) by omega) hb)
  refine q_const (p2 := 9) rfl rfl ?_
  exact q_retv (v := (0, 0, 0)) rfl rfl (⟨rfl, rfl, rfl, rfl, rfl⟩)
theorem zc_fr_blanks_13 {d n sl : Nat} {φ : FH} {A : Nat} {B : Nat} {K : Nat → Nat} {P : Nat → Nat} {V : Nat → Nat} {at_ : Nat} {co : Nat → Nat} {comb : Nat → Nat} {cur : Nat} {fa : Nat} {fbi : Nat} {fcl : Nat → Nat} {fco : Nat → Nat} {ffp : Nat} {fki : Nat} {fl : Nat → Nat} {fnu : Nat → Nat} {fp : Nat} {fr_ : Nat} {fso : Nat → Nat} {ftc : Nat} {ftf : Nat} {ftn : Nat → Nat} {hm : Nat → MV} {lo : Nat → Nat} {made : Nat} {mi : Nat} {mm : Nat} {no : Nat} {op : Nat} {pc_ : Nat} {pl : Nat} {re : Nat → Nat} {rs : Nat → Nat} {s9 : Nat} {se : Nat → Nat} {sf : Nat} {sp : Nat} {st : Nat → Nat} {sv : Nat} {svm : Nat} {top_ : Nat} {tot : Nat} {tp : Nat → Nat} {va : Nat} (hF : zq_F φ 1 7 3 0 0 ffp 1 0 0 fki fbi ftc ftf (x_s fnu 0 1) (x_s fco 0 0) (x_s fso 0 1) fcl ftn) (hB : zq_tp φ tp) (hT : zq_T φ tot at_ cur pl va fa fp sf sp no op K P V) (hKS : x_KS φ top_ fr_ pc_ mm mi st lo re rs fl se co) (hPS : x_PS φ A B made sv svm s9 comb hm) (hN : zq_nm φ) (hc0 : tp 0 = 35) (hc1 : tp 1 = 49) (hc2 : tp 2 = 61) (hc3 : tp 3 = 97) (hc4 : tp 4 = 40) (hc5 : tp 5 = 41) (hc6 : tp 6 = 59) : x_f x_P (d + 2) 133 [(6, 471, 0), (11, 0, 0)] φ n sl (x_v φ n sl) := by
  refine x_f_of rfl ?_
  refine x_n_lt (fun hlt0 => ?_)
  refine q_const (p2 := 1) rfl rfl ?_
  refine q_store (loc2 := [(6, 471, 0), (0, 0, 0)]) (p2 := 2) rfl rfl rfl rfl rfl ?_
  refine q_load (v := (0, 0, 0)) (p2 := 3) rfl rfl rfl rfl ?_
  refine q_load (v := (6, 471, 0)) (p2 := 4) rfl rfl rfl rfl ?_
  refine q_getv (v := (0, 7, 0)) (p2 := 5) rfl hF.1 (by decide) rfl rfl ?_
  refine q_icmp_s (p2 := 6) rfl (by decide) (by omega) (by omega) rfl (fun hb => absurd hb (show ¬ (¬ (0 < 7)) by omega)) (fun _ => ?_)
  refine q_load (v := (6, 471, 0)) (p2 := 7) rfl rfl rfl rfl ?_
  refine q_callr (xs := [(6, 471, 0)]) (p2 := 8) rfl rfl rfl rfl (x_rcv_s 471 hF.1) rfl (zc_fr_peek_14 hF hB hT hKS hPS hN hc0 hc1 hc2 hc3 hc4 hc5 hc6) (Nat.le_refl _) (Nat.le_refl _) rfl ?_
  refine q_callr (xs := [(0, 97, 0)]) (p2 := 9) rfl rfl rfl rfl (fun _ _ => rfl) rfl (zc_a_87_97 ) (Nat.le_refl _) (Nat.le_refl _) rfl ?_
  refine q_if0_s (p2 := 10) rfl (by decide) (by omega) rfl (fun _ => ?_) (fun hb => absurd (show 0 = 0 by omega) hb)
  exact q_ret rfl (⟨rfl, rfl, rfl, rfl⟩)
theorem zc_fr_sign_10 {d n sl : Nat} {φ : FH} {A : Nat} {B : Nat} {K : Nat → Nat} {P : Nat → Nat} {V : Nat → Nat} {at_ : Nat} {co : Nat → Nat} {comb : Nat → Nat} {cur : Nat} {fa : Nat} {fbi : Nat} {fcl : Nat → Nat} {fco : Nat → Nat} {ffp : Nat} {fki : Nat} {fl : Nat → Nat} {fnu : Nat → Nat} {fp : Nat} {fr_ : Nat} {fso : Nat → Nat} {ftc : Nat} {ftf : Nat} {ftn : Nat → Nat} {hm : Nat → MV} {lo : Nat → Nat} {made : Nat} {mi : Nat} {mm : Nat} {no : Nat} {op : Nat} {pc_ : Nat} {pl : Nat} {re : Nat → Nat} {rs : Nat → Nat} {s9 : Nat} {se : Nat → Nat} {sf : Nat} {sp : Nat} {st : Nat → Nat} {sv : Nat} {svm : Nat} {top_ : Nat} {tot : Nat} {tp : Nat → Nat} {va : Nat} (hF : zq_F φ 1 7 2 0 0 ffp 1 0 0 fki fbi ftc ftf (x_s fnu 0 1) (x_s fco 0 0) (x_s fso 0 1) fcl ftn) (hB : zq_tp φ tp) (hT : zq_T φ tot at_ cur pl va fa fp sf sp no op K P V) (hKS : x_KS φ top_ fr_ pc_ mm mi st lo re rs fl se co) (hPS : x_PS φ A B made sv svm s9 comb hm) (hN : zq_nm φ) (hc0 : tp 0 = 35) (hc1 : tp 1 = 49) (hc2 : tp 2 = 61) (hc3 : tp 3 = 97) (hc4 : tp 4 = 40) (hc5 : tp 5 = 41) (hc6 : tp 6 = 59) : x_f x_P (d + 3) 137 [(6, 471, 0), (0, 61, 0)] φ n sl (x_vR n sl (fun φ2 => zq_F φ2 1 7 3 0 0 ffp 1 0 0 fki fbi ftc ftf (x_s fnu 0 1) (x_s fco 0 0) (x_s fso 0 1) fcl ftn ∧ ∀ j, j ≠ 471 → φ2 j = φ j)) := by
  refine x_f_of rfl ?_
  refine x_n_lt (fun hlt0 => ?_)
  refine q_load (v := (6, 471, 0)) (p2 := 1) rfl rfl rfl rfl ?_
  refine q_callv (xs := [(6, 471, 0)]) (p2 := 2) rfl rfl rfl rfl (x_rcv_s 471 hF.1) rfl (zc_fr_blanks_11 hF hB hT hKS hPS hN hc0 hc1 hc2 hc3 hc4 hc5 hc6) (Nat.le_refl _) (Nat.le_refl _) rfl ?_
  refine q_load (v := (6, 471, 0)) (p2 := 3) rfl rfl rfl rfl ?_
  refine q_callr (xs := [(6, 471, 0)]) (p2 := 4) rfl rfl rfl rfl (x_rcv_s 471 hF.1) rfl (zc_fr_peek_12 hF hB hT hKS hPS hN hc0 hc1 hc2 hc3 hc4 hc5 hc6) (Nat.le_refl _) (Nat.le_refl _) rfl ?_
  refine q_load (v := (0, 61, 0)) (p2 := 5) rfl rfl rfl rfl ?_
  refine q_icmp_s (p2 := 6) rfl (by decide) (by omega) (by omega) rfl (fun _ => ?_) (fun hb => absurd (show 61 = 61 by omega) hb)
  refine q_load (v := (6, 471, 0)) (p2 := 13) rfl rfl rfl rfl ?_
  refine q_getv (v := (0, 0, 0)) (p2 := 14) rfl hF.1 (by decide) rfl rfl ?_
  refine q_if0_s (p2 := 15) rfl (by decide) (by omega) rfl (fun hb => absurd hb (show ¬ (¬ (0 = 0)) by omega)) (fun _ => ?_)
  refine q_load (v := (6, 471, 0)) (p2 := 16) rfl rfl rfl rfl ?_
  refine q_dup (p2 := 17) rfl rfl rfl ?_
  refine q_getv (v := (0, 2, 0)) (p2 := 18) rfl hF.1 (by decide) rfl rfl ?_
  refine q_const (p2 := 19) rfl rfl ?_
  refine q_iop (w := 2 + 1) (z := 3) (p2 := 20) rfl (xo_add 2 1) (by decide) rfl ?_
  refine q_putfE (v := (0, 3, 0)) (p2 := 21) rfl hF.1 (by decide) rfl rfl (fun φ1 f1 hh1 hg1 ho1 fr1 => ?_)
  have hs1 := zq_F_put_471_4 hF hh1 hg1 ho1 fr1
  refine q_load (v := (6, 471, 0)) (p2 := 22) rfl rfl rfl rfl ?_
  have hm2 := (zq_tp_at hB (fr1 1 (by decide)))
  have hm3 := (zq_T_at hT (fr1 2 (by decide)) (fr1 3 (by decide)) (fr1 4 (by decide)) (fr1 5 (by decide)) (fr1 6 (by decide)))
  have hm4 := (x_KS_at2 hKS (fun j h1 h2 h3 h4 => (fr1 j (by omega))))
  refine x_n_lt (fun hlt6 => ?_)
  have hm5 := (x_PS_at hPS (fun j hj hne => by have hj2 := x_some_lt hlt0 hne; exact (fr1 j (by omega))))
  have hm7 := (zq_nm_at hN (fr1 239 (by decide)) (fr1 242 (by decide)) (fr1 244 (by decide)))
  refine q_callv (xs := [(6, 471, 0)]) (p2 := 23) rfl rfl rfl rfl (x_rcv_s 471 hs1.1) rfl (zc_fr_blanks_13 hs1 hm2 hm3 hm4 hm5 hm7 hc0 hc1 hc2 hc3 hc4 hc5 hc6) (Nat.le_refl _) (Nat.le_refl _) rfl ?_
  exact q_ret rfl (⟨rfl, rfl, rfl, hs1, fun j hj0 => (fr1 j (by omega))⟩)
theorem zc_a_141_97 {d n sl : Nat} {φ : FH}    : x_f x_P (d + 1) 141 [(0, 97, 0)] φ n sl (x_r φ n sl (0, 1, 0)) := by
  refine x_f_of rfl ?_
  refine q_load (v := (0, 97, 0)) (p2 := 1) rfl rfl rfl rfl ?_
  refine q_const (p2 := 2) rfl rfl ?_
  refine q_icmp_s (p2 := 3) rfl (by decide) (by omega) (by omega) rfl (fun hb => absurd hb (show ¬ (97 < 97) by omega)) (fun _ => ?_)
  refine q_load (v := (0, 97, 0)) (p2 := 4) rfl rfl rfl rfl ?_
  refine q_const (p2 := 5) rfl rfl ?_
  refine q_icmp_s (p2 := 6) rfl (by decide) (by omega) (by omega) rfl (fun hb => absurd hb (show ¬ (122 < 97) by omega)) (fun _ => ?_)
  refine q_const (p2 := 7) rfl rfl ?_
  refine q_goto rfl ?_
  exact q_retv (v := (0, 1, 0)) rfl rfl (⟨rfl, rfl, rfl, rfl, rfl⟩)
theorem zc_a_86_97 {d n sl : Nat} {φ : FH}    : x_f x_P (d + 1) 86 [(0, 97, 0)] φ n sl (x_r φ n sl (0, 1, 0)) := by
  refine x_f_of rfl ?_
  refine q_load (v := (0, 97, 0)) (p2 := 1) rfl rfl rfl rfl ?_
  refine q_const (p2 := 2) rfl rfl ?_
  refine q_icmp_s (p2 := 3) rfl (by decide) (by omega) (by omega) rfl (fun hb => absurd hb (show ¬ (97 < 97) by omega)) (fun _ => ?_)
  refine q_load (v := (0, 97, 0)) (p2 := 4) rfl rfl rfl rfl ?_
  refine q_const (p2 := 5) rfl rfl ?_
  refine q_icmp_s (p2 := 6) rfl (by decide) (by omega) (by omega) rfl (fun hb => absurd hb (show ¬ (122 < 97) by omega)) (fun _ => ?_)
  refine q_load (v := (0, 97, 0)) (p2 := 7) rfl rfl rfl rfl ?_
  refine q_const (p2 := 8) rfl rfl ?_
  refine q_iop (w := 97 + (4294967296 - 97 % 4294967296)) (z := 0) (p2 := 9) rfl (xo_sub 97 97) (by decide) rfl ?_
  refine q_const (p2 := 10) rfl rfl ?_
  refine q_iop (w := 0 + 1) (z := 1) (p2 := 11) rfl (xo_add 0 1) (by decide) rfl ?_
  exact q_retv (v := (0, 1, 0)) rfl rfl (⟨rfl, rfl, rfl, rfl, rfl⟩)
theorem zc_fr_peek_17 {d n sl : Nat} {φ : FH} {A : Nat} {B : Nat} {K : Nat → Nat} {P : Nat → Nat} {V : Nat → Nat} {at_ : Nat} {co : Nat → Nat} {comb : Nat → Nat} {cur : Nat} {fa : Nat} {fbi : Nat} {fcl : Nat → Nat} {fco : Nat → Nat} {ffp : Nat} {fki : Nat} {fl : Nat → Nat} {fnu : Nat → Nat} {fp : Nat} {fr_ : Nat} {fso : Nat → Nat} {ftc : Nat} {ftf : Nat} {ftn : Nat → Nat} {hm : Nat → MV} {lo : Nat → Nat} {made : Nat} {mi : Nat} {mm : Nat} {no : Nat} {op : Nat} {pc_ : Nat} {pl : Nat} {re : Nat → Nat} {rs : Nat → Nat} {s9 : Nat} {se : Nat → Nat} {sf : Nat} {sp : Nat} {st : Nat → Nat} {sv : Nat} {svm : Nat} {top_ : Nat} {tot : Nat} {tp : Nat → Nat} {va : Nat} (hF : zq_F φ 1 7 4 0 0 ffp 1 0 0 fki fbi ftc ftf (x_s fnu 0 1) (x_s fco 0 0) (x_s fso 0 1) fcl ftn) (hB : zq_tp φ tp) (hT : zq_T φ tot at_ cur pl va fa fp sf sp no op K P V) (hKS : x_KS φ top_ fr_ pc_ mm mi st lo re rs fl se co) (hPS : x_PS φ A B made sv svm s9 comb hm) (hN : zq_nm φ) (hc0 : tp 0 = 35) (hc1 : tp 1 = 49) (hc2 : tp 2 = 61) (hc3 : tp 3 = 97) (hc4 : tp 4 = 40) (hc5 : tp 5 = 41) (hc6 : tp 6 = 59) : x_f x_P (d + 1) 138 [(6, 471, 0)] φ n sl (x_r φ n sl (0, 40, 0)) := by
  refine x_f_of rfl ?_
  refine x_n_lt (fun hlt0 => ?_)
  refine q_load (v := (6, 471, 0)) (p2 := 1) rfl rfl rfl rfl ?_
  refine q_getv (v := (0, 4, 0)) (p2 := 2) rfl hF.1 (by decide) rfl rfl ?_
  refine q_if0_s (p2 := 3) rfl (by decide) (by omega) rfl (fun hb => absurd hb (show ¬ (4 < 0) by omega)) (fun _ => ?_)
  refine q_load (v := (6, 471, 0)) (p2 := 4) rfl rfl rfl rfl ?_
  refine q_getv (v := (0, 4, 0)) (p2 := 5) rfl hF.1 (by decide) rfl rfl ?_
  refine q_load (v := (6, 471, 0)) (p2 := 6) rfl rfl rfl rfl ?_
  refine q_getv (v := (0, 7, 0)) (p2 := 7) rfl hF.1 (by decide) rfl rfl ?_
  refine q_icmp_s (p2 := 8) rfl (by decide) (by omega) (by omega) rfl (fun hb => absurd hb (show ¬ (¬ (4 < 7)) by omega)) (fun _ => ?_)
  refine q_load (v := (6, 471, 0)) (p2 := 9) rfl rfl rfl rfl ?_
  refine q_getv (v := (0, 4, 0)) (p2 := 10) rfl hF.1 (by decide) rfl rfl ?_
  refine q_load (v := (6, 471, 0)) (p2 := 11) rfl rfl rfl rfl ?_
  refine q_getv (v := (6, 1, 0)) (p2 := 12) rfl hF.1 (by decide) rfl rfl ?_
  refine q_alen (p2 := 13) rfl hB rfl (by omega) rfl ?_
  refine q_icmp_s (p2 := 14) rfl (by decide) (by omega) (by omega) rfl (fun hb => absurd hb (show ¬ (¬ (4 < 3000)) by omega)) (fun _ => ?_)
  refine q_load (v := (6, 471, 0)) (p2 := 15) rfl rfl rfl rfl ?_
  refine q_getv (v := (6, 1, 0)) (p2 := 16) rfl hF.1 (by decide) rfl rfl ?_
  refine q_load (v := (6, 471, 0)) (p2 := 17) rfl rfl rfl rfl ?_
  refine q_getv (v := (0, 4, 0)) (p2 := 18) rfl hF.1 (by decide) rfl rfl ?_
  refine q_aldT (tag := 0) (v := 40) (p2 := 19) rfl hB (by omega) (by omega) hc4 rfl ?_
  refine q_const (p2 := 20) rfl rfl ?_
  refine q_iop (w := 40 &&& 255) (z := 40) (p2 := 21) rfl (xo_and 40 255) (by decide) rfl ?_
  refine q_goto rfl ?_
  exact q_retv (v := (0, 40, 0)) rfl rfl (⟨rfl, rfl, rfl, rfl, rfl⟩)
theorem zc_fr_word_16 {d n sl : Nat} {φ : FH} {A : Nat} {B : Nat} {K : Nat → Nat} {P : Nat → Nat} {V : Nat → Nat} {at_ : Nat} {co : Nat → Nat} {comb : Nat → Nat} {cur : Nat} {fa : Nat} {fbi : Nat} {fcl : Nat → Nat} {fco : Nat → Nat} {ffp : Nat} {fki : Nat} {fl : Nat → Nat} {fnu : Nat → Nat} {fp : Nat} {fr_ : Nat} {fso : Nat → Nat} {ftc : Nat} {ftf : Nat} {ftn : Nat → Nat} {hm : Nat → MV} {lo : Nat → Nat} {made : Nat} {mi : Nat} {mm : Nat} {no : Nat} {op : Nat} {pc_ : Nat} {pl : Nat} {re : Nat → Nat} {rs : Nat → Nat} {s9 : Nat} {se : Nat → Nat} {sf : Nat} {sp : Nat} {st : Nat → Nat} {sv : Nat} {svm : Nat} {top_ : Nat} {tot : Nat} {tp : Nat → Nat} {va : Nat} (hF : zq_F φ 1 7 3 0 0 ffp 1 0 0 fki fbi ftc ftf (x_s fnu 0 1) (x_s fco 0 0) (x_s fso 0 1) fcl ftn) (hB : zq_tp φ tp) (hT : zq_T φ tot at_ cur pl va fa fp sf sp no op K P V) (hKS : x_KS φ top_ fr_ pc_ mm mi st lo re rs fl se co) (hPS : x_PS φ A B made sv svm s9 comb hm) (hN : zq_nm φ) (hc0 : tp 0 = 35) (hc1 : tp 1 = 49) (hc2 : tp 2 = 61) (hc3 : tp 3 = 97) (hc4 : tp 4 = 40) (hc5 : tp 5 = 41) (hc6 : tp 6 = 59) : x_f x_P (d + 2) 216 [(6, 471, 0), (11, 0, 0), (11, 0, 0), (11, 0, 0)] φ n sl (x_rR (2, 1, 0) n sl (fun φ2 => zq_F φ2 1 7 4 0 0 ffp 1 0 0 fki fbi ftc ftf (x_s fnu 0 1) (x_s fco 0 0) (x_s fso 0 1) fcl ftn ∧ ∀ j, j ≠ 471 → φ2 j = φ j)) := by
  refine x_f_of rfl ?_
  refine x_n_lt (fun hlt0 => ?_)
  refine q_const (p2 := 1) rfl rfl ?_
  refine q_store2 (loc2 := [(6, 471, 0), (2, 0, 0), (11, 0, 0), (11, 0, 0)]) (p2 := 2) rfl rfl rfl rfl rfl ?_
  refine q_load (v := (6, 471, 0)) (p2 := 3) rfl rfl rfl rfl ?_
  refine q_callr (xs := [(6, 471, 0)]) (p2 := 4) rfl rfl rfl rfl (x_rcv_s 471 hF.1) rfl (zc_fr_peek_14 hF hB hT hKS hPS hN hc0 hc1 hc2 hc3 hc4 hc5 hc6) (Nat.le_refl _) (Nat.le_refl _) rfl ?_
  refine q_callr (xs := [(0, 97, 0)]) (p2 := 5) rfl rfl rfl rfl (fun _ _ => rfl) rfl (zc_a_141_97 ) (Nat.le_refl _) (Nat.le_refl _) rfl ?_
  refine q_if0_s (p2 := 6) rfl (by decide) (by omega) rfl (fun _ => ?_) (fun hb => absurd (show ¬ (1 = 0) by omega) hb)
  refine q_const (p2 := 12) rfl rfl ?_
  refine q_store (loc2 := [(6, 471, 0), (2, 0, 0), (11, 0, 0), (0, 0, 0)]) (p2 := 13) rfl rfl rfl rfl rfl ?_
  refine q_load (v := (0, 0, 0)) (p2 := 14) rfl rfl rfl rfl ?_
  refine q_const (p2 := 15) rfl rfl ?_
  refine q_icmp_s (p2 := 16) rfl (by decide) (by omega) (by omega) rfl (fun hb => absurd hb (show ¬ (¬ (0 < 12)) by omega)) (fun _ => ?_)
  refine q_load (v := (6, 471, 0)) (p2 := 17) rfl rfl rfl rfl ?_
  refine q_getv (v := (0, 0, 0)) (p2 := 18) rfl hF.1 (by decide) rfl rfl ?_
  refine q_if0_s (p2 := 19) rfl (by decide) (by omega) rfl (fun hb => absurd hb (show ¬ (¬ (0 = 0)) by omega)) (fun _ => ?_)
  refine q_load (v := (6, 471, 0)) (p2 := 20) rfl rfl rfl rfl ?_
  refine q_callr (xs := [(6, 471, 0)]) (p2 := 21) rfl rfl rfl rfl (x_rcv_s 471 hF.1) rfl (zc_fr_peek_14 hF hB hT hKS hPS hN hc0 hc1 hc2 hc3 hc4 hc5 hc6) (Nat.le_refl _) (Nat.le_refl _) rfl ?_
  refine q_callr (xs := [(0, 97, 0)]) (p2 := 22) rfl rfl rfl rfl (fun _ _ => rfl) rfl (zc_a_86_97 ) (Nat.le_refl _) (Nat.le_refl _) rfl ?_
  refine q_if0_s (p2 := 23) rfl (by decide) (by omega) rfl (fun hb => absurd hb (show ¬ (¬ (0 < 1)) by omega)) (fun _ => ?_)
  refine q_load (v := (2, 0, 0)) (p2 := 24) rfl rfl rfl rfl ?_
  refine q_const (p2 := 25) rfl rfl ?_
  refine q_lmulz (z := 0) (p2 := 26) rfl (by omega) (by omega) rfl ?_
  refine q_load (v := (6, 471, 0)) (p2 := 27) rfl rfl rfl rfl ?_
  refine q_callr (xs := [(6, 471, 0)]) (p2 := 28) rfl rfl rfl rfl (x_rcv_s 471 hF.1) rfl (zc_fr_peek_14 hF hB hT hKS hPS hN hc0 hc1 hc2 hc3 hc4 hc5 hc6) (Nat.le_refl _) (Nat.le_refl _) rfl ?_
  refine q_callr (xs := [(0, 97, 0)]) (p2 := 29) rfl rfl rfl rfl (fun _ _ => rfl) rfl (zc_a_86_97 ) (Nat.le_refl _) (Nat.le_refl _) rfl ?_
  refine q_i2l (p2 := 30) rfl (by omega) rfl ?_
  refine q_laddz (z := 1) (p2 := 31) rfl (by omega) (by omega) rfl ?_
  refine q_store2 (loc2 := [(6, 471, 0), (2, 1, 0), (11, 0, 0), (0, 0, 0)]) (p2 := 32) rfl rfl rfl rfl rfl ?_
  refine q_load (v := (6, 471, 0)) (p2 := 33) rfl rfl rfl rfl ?_
  refine q_dup (p2 := 34) rfl rfl rfl ?_
  refine q_getv (v := (0, 3, 0)) (p2 := 35) rfl hF.1 (by decide) rfl rfl ?_
  refine q_const (p2 := 36) rfl rfl ?_
  refine q_iop (w := 3 + 1) (z := 4) (p2 := 37) rfl (xo_add 3 1) (by decide) rfl ?_
  refine q_putfE (v := (0, 4, 0)) (p2 := 38) rfl hF.1 (by decide) rfl rfl (fun φ1 f1 hh1 hg1 ho1 fr1 => ?_)
  have hs1 := zq_F_put_471_4 hF hh1 hg1 ho1 fr1
  refine q_iinc (z := 1) (loc2 := [(6, 471, 0), (2, 1, 0), (11, 0, 0), (0, 1, 0)]) (p2 := 39) rfl rfl (by decide) rfl rfl ?_
  refine q_goto rfl ?_
  refine q_load (v := (0, 1, 0)) (p2 := 14) rfl rfl rfl rfl ?_
  refine q_const (p2 := 15) rfl rfl ?_
  refine q_icmp_s (p2 := 16) rfl (by decide) (by omega) (by omega) rfl (fun hb => absurd hb (show ¬ (¬ (1 < 12)) by omega)) (fun _ => ?_)
  refine q_load (v := (6, 471, 0)) (p2 := 17) rfl rfl rfl rfl ?_
  refine q_getv (v := (0, 0, 0)) (p2 := 18) rfl hs1.1 (by decide) rfl rfl ?_
  refine q_if0_s (p2 := 19) rfl (by decide) (by omega) rfl (fun hb => absurd hb (show ¬ (¬ (0 = 0)) by omega)) (fun _ => ?_)
  refine q_load (v := (6, 471, 0)) (p2 := 20) rfl rfl rfl rfl ?_
  have hm2 := (zq_tp_at hB (fr1 1 (by decide)))
  have hm3 := (zq_T_at hT (fr1 2 (by decide)) (fr1 3 (by decide)) (fr1 4 (by decide)) (fr1 5 (by decide)) (fr1 6 (by decide)))
  have hm4 := (x_KS_at2 hKS (fun j h1 h2 h3 h4 => (fr1 j (by omega))))
  refine x_n_lt (fun hlt6 => ?_)
  have hm5 := (x_PS_at hPS (fun j hj hne => by have hj2 := x_some_lt hlt0 hne; exact (fr1 j (by omega))))
  have hm7 := (zq_nm_at hN (fr1 239 (by decide)) (fr1 242 (by decide)) (fr1 244 (by decide)))
  refine q_callr (xs := [(6, 471, 0)]) (p2 := 21) rfl rfl rfl rfl (x_rcv_s 471 hs1.1) rfl (zc_fr_peek_17 hs1 hm2 hm3 hm4 hm5 hm7 hc0 hc1 hc2 hc3 hc4 hc5 hc6) (Nat.le_refl _) (Nat.le_refl _) rfl ?_
  refine q_callr (xs := [(0, 40, 0)]) (p2 := 22) rfl rfl rfl rfl (fun _ _ => rfl) rfl (zc_a_86_40 ) (Nat.le_refl _) (Nat.le_refl _) rfl ?_
  refine q_if0_s (p2 := 23) rfl (by decide) (by omega) rfl (fun _ => ?_) (fun hb => absurd (show ¬ (0 < 0) by omega) hb)
  refine q_load (v := (6, 471, 0)) (p2 := 41) rfl rfl rfl rfl ?_
  refine q_getv (v := (6, 2, 0)) (p2 := 42) rfl hs1.1 (by decide) rfl rfl ?_
  refine q_load (v := (2, 1, 0)) (p2 := 43) rfl rfl rfl rfl ?_
  refine q_callr (xs := [(2, 1, 0), (6, 2, 0)]) (p2 := 44) rfl rfl rfl rfl (x_rcv_s 2 hm3.1) rfl (zc_kw_1 hm3) (Nat.le_refl _) (Nat.le_refl _) rfl ?_
  refine q_const (p2 := 45) rfl rfl ?_
  refine q_icmp_s (p2 := 46) rfl (by decide) (by omega) (by omega) rfl (fun _ => ?_) (fun hb => absurd (show 1 = 1 by omega) hb)
  refine q_load (v := (2, 1, 0)) (p2 := 52) rfl rfl rfl rfl ?_
  exact q_retv (v := (2, 1, 0)) rfl rfl (⟨rfl, rfl, rfl, rfl, hs1, fun j hj0 => (fr1 j (by omega))⟩)
theorem zc_fr_peek_20 {d n sl : Nat} {φ : FH} {A : Nat} {B : Nat} {K : Nat → Nat} {P : Nat → Nat} {V : Nat → Nat} {at_ : Nat} {co : Nat → Nat} {comb : Nat → Nat} {cur : Nat} {fa : Nat} {fbi : Nat} {fcl : Nat → Nat} {fco : Nat → Nat} {ffp : Nat} {fki : Nat} {fl : Nat → Nat} {fnu : Nat → Nat} {fp : Nat} {fr_ : Nat} {fso : Nat → Nat} {ftc : Nat} {ftf : Nat} {ftn : Nat → Nat} {hm : Nat → MV} {lo : Nat → Nat} {made : Nat} {mi : Nat} {mm : Nat} {no : Nat} {op : Nat} {pc_ : Nat} {pl : Nat} {re : Nat → Nat} {rs : Nat → Nat} {s9 : Nat} {se : Nat → Nat} {sf : Nat} {sp : Nat} {st : Nat → Nat} {sv : Nat} {svm : Nat} {top_ : Nat} {tot : Nat} {tp : Nat → Nat} {va : Nat} (hF : zq_F φ 1 7 4 0 0 ffp 1 0 1 fki fbi ftc ftf (x_s fnu 0 1) (x_s (x_s fco 0 0) 0 1) (x_s (x_s fso 0 1) 0 1) fcl ftn) (hB : zq_tp φ tp) (hT : zq_T φ tot at_ cur pl va fa fp sf sp no op K P V) (hKS : x_KS φ top_ fr_ pc_ mm mi st lo re rs fl se co) (hPS : x_PS φ A B made sv svm s9 comb hm) (hN : zq_nm φ) (hc0 : tp 0 = 35) (hc1 : tp 1 = 49) (hc2 : tp 2 = 61) (hc3 : tp 3 = 97) (hc4 : tp 4 = 40) (hc5 : tp 5 = 41) (hc6 : tp 6 = 59) : x_f x_P (d + 1) 138 [(6, 471, 0)] φ n sl (x_r φ n sl (0, 40, 0)) := by
  refine x_f_of rfl ?_
  refine x_n_lt (fun hlt0 => ?_)
  refine q_load (v := (6, 471, 0)) (p2 := 1) rfl rfl rfl rfl ?_
  refine q_getv (v := (0, 4, 0)) (p2 := 2) rfl hF.1 (by decide) rfl rfl ?_
  refine q_if0_s (p2 := 3) rfl (by decide) (by omega) rfl (fun hb => absurd hb (show ¬ (4 < 0) by omega)) (fun _ => ?_)
  refine q_load (v := (6, 471, 0)) (p2 := 4) rfl rfl rfl rfl ?_
  refine q_getv (v := (0, 4, 0)) (p2 := 5) rfl hF.1 (by decide) rfl rfl ?_
  refine q_load (v := (6, 471, 0)) (p2 := 6) rfl rfl rfl rfl ?_
  refine q_getv (v := (0, 7, 0)) (p2 := 7) rfl hF.1 (by decide) rfl rfl ?_
  refine q_icmp_s (p2 := 8) rfl (by decide) (by omega) (by omega) rfl (fun hb => absurd hb (show ¬ (¬ (4 < 7)) by omega)) (fun _ => ?_)
  refine q_load (v := (6, 471, 0)) (p2 := 9) rfl rfl rfl rfl ?_
  refine q_getv (v := (0, 4, 0)) (p2 := 10) rfl hF.1 (by decide) rfl rfl ?_
  refine q_load (v := (6, 471, 0)) (p2 := 11) rfl rfl rfl rfl ?_
  refine q_getv (v := (6, 1, 0)) (p2 := 12) rfl hF.1 (by decide) rfl rfl ?_
  refine q_alen (p2 := 13) rfl hB rfl (by omega) rfl ?_
  refine q_icmp_s (p2 := 14) rfl (by decide) (by omega) (by omega) rfl (fun hb => absurd hb (show ¬ (¬ (4 < 3000)) by omega)) (fun _ => ?_)
  refine q_load (v := (6, 471, 0)) (p2 := 15) rfl rfl rfl rfl ?_
  refine q_getv (v := (6, 1, 0)) (p2 := 16) rfl hF.1 (by decide) rfl rfl ?_
  refine q_load (v := (6, 471, 0)) (p2 := 17) rfl rfl rfl rfl ?_
  refine q_getv (v := (0, 4, 0)) (p2 := 18) rfl hF.1 (by decide) rfl rfl ?_
  refine q_aldT (tag := 0) (v := 40) (p2 := 19) rfl hB (by omega) (by omega) hc4 rfl ?_
  refine q_const (p2 := 20) rfl rfl ?_
  refine q_iop (w := 40 &&& 255) (z := 40) (p2 := 21) rfl (xo_and 40 255) (by decide) rfl ?_
  refine q_goto rfl ?_
  exact q_retv (v := (0, 40, 0)) rfl rfl (⟨rfl, rfl, rfl, rfl, rfl⟩)
theorem zc_fr_blanks_19 {d n sl : Nat} {φ : FH} {A : Nat} {B : Nat} {K : Nat → Nat} {P : Nat → Nat} {V : Nat → Nat} {at_ : Nat} {co : Nat → Nat} {comb : Nat → Nat} {cur : Nat} {fa : Nat} {fbi : Nat} {fcl : Nat → Nat} {fco : Nat → Nat} {ffp : Nat} {fki : Nat} {fl : Nat → Nat} {fnu : Nat → Nat} {fp : Nat} {fr_ : Nat} {fso : Nat → Nat} {ftc : Nat} {ftf : Nat} {ftn : Nat → Nat} {hm : Nat → MV} {lo : Nat → Nat} {made : Nat} {mi : Nat} {mm : Nat} {no : Nat} {op : Nat} {pc_ : Nat} {pl : Nat} {re : Nat → Nat} {rs : Nat → Nat} {s9 : Nat} {se : Nat → Nat} {sf : Nat} {sp : Nat} {st : Nat → Nat} {sv : Nat} {svm : Nat} {top_ : Nat} {tot : Nat} {tp : Nat → Nat} {va : Nat} (hF : zq_F φ 1 7 4 0 0 ffp 1 0 1 fki fbi ftc ftf (x_s fnu 0 1) (x_s (x_s fco 0 0) 0 1) (x_s (x_s fso 0 1) 0 1) fcl ftn) (hB : zq_tp φ tp) (hT : zq_T φ tot at_ cur pl va fa fp sf sp no op K P V) (hKS : x_KS φ top_ fr_ pc_ mm mi st lo re rs fl se co) (hPS : x_PS φ A B made sv svm s9 comb hm) (hN : zq_nm φ) (hc0 : tp 0 = 35) (hc1 : tp 1 = 49) (hc2 : tp 2 = 61) (hc3 : tp 3 = 97) (hc4 : tp 4 = 40) (hc5 : tp 5 = 41) (hc6 : tp 6 = 59) : x_f x_P (d + 2) 133 [(6, 471, 0), (11, 0, 0)] φ n sl (x_v φ n sl) := by
  refine x_f_of rfl ?_
  refine x_n_lt (fun hlt0 => ?_)
  refine q_const (p2 := 1) rfl rfl ?_
  refine q_store (loc2 := [(6, 471, 0), (0, 0, 0)]) (p2 := 2) rfl rfl rfl rfl rfl ?_
  refine q_load (v := (0, 0, 0)) (p2 := 3) rfl rfl rfl rfl ?_
  refine q_load (v := (6, 471, 0)) (p2 := 4) rfl rfl rfl rfl ?_
  refine q_getv (v := (0, 7, 0)) (p2 := 5) rfl hF.1 (by decide) rfl rfl ?_
  refine q_icmp_s (p2 := 6) rfl (by decide) (by omega) (by omega) rfl (fun hb => absurd hb (show ¬ (¬ (0 < 7)) by omega)) (fun _ => ?_)
  refine q_load (v := (6, 471, 0)) (p2 := 7) rfl rfl rfl rfl ?_
  refine q_callr (xs := [(6, 471, 0)]) (p2 := 8) rfl rfl rfl rfl (x_rcv_s 471 hF.1) rfl (zc_fr_peek_20 hF hB hT hKS hPS hN hc0 hc1 hc2 hc3 hc4 hc5 hc6) (Nat.le_refl _) (Nat.le_refl _) rfl ?_
  refine q_callr (xs := [(0, 40, 0)]) (p2 := 9) rfl rfl rfl rfl (fun _ _ => rfl) rfl (zc_a_87_40 ) (Nat.le_refl _) (Nat.le_refl _) rfl ?_
  refine q_if0_s (p2 := 10) rfl (by decide) (by omega) rfl (fun _ => ?_) (fun hb => absurd (show 0 = 0 by omega) hb)
  exact q_ret rfl (⟨rfl, rfl, rfl, rfl⟩)
theorem zc_fr_peek_22 {d n sl : Nat} {φ : FH} {A : Nat} {B : Nat} {K : Nat → Nat} {P : Nat → Nat} {V : Nat → Nat} {at_ : Nat} {co : Nat → Nat} {comb : Nat → Nat} {cur : Nat} {fa : Nat} {fbi : Nat} {fcl : Nat → Nat} {fco : Nat → Nat} {ffp : Nat} {fki : Nat} {fl : Nat → Nat} {fnu : Nat → Nat} {fp : Nat} {fr_ : Nat} {fso : Nat → Nat} {ftc : Nat} {ftf : Nat} {ftn : Nat → Nat} {hm : Nat → MV} {lo : Nat → Nat} {made : Nat} {mi : Nat} {mm : Nat} {no : Nat} {op : Nat} {pc_ : Nat} {pl : Nat} {re : Nat → Nat} {rs : Nat → Nat} {s9 : Nat} {se : Nat → Nat} {sf : Nat} {sp : Nat} {st : Nat → Nat} {sv : Nat} {svm : Nat} {top_ : Nat} {tot : Nat} {tp : Nat → Nat} {va : Nat} (hF : zq_F φ 1 7 5 0 0 ffp 1 0 1 fki fbi ftc ftf (x_s fnu 0 1) (x_s (x_s fco 0 0) 0 1) (x_s (x_s fso 0 1) 0 1) fcl ftn) (hB : zq_tp φ tp) (hT : zq_T φ tot at_ cur pl va fa fp sf sp no op K P V) (hKS : x_KS φ top_ fr_ pc_ mm mi st lo re rs fl se co) (hPS : x_PS φ A B made sv svm s9 comb hm) (hN : zq_nm φ) (hc0 : tp 0 = 35) (hc1 : tp 1 = 49) (hc2 : tp 2 = 61) (hc3 : tp 3 = 97) (hc4 : tp 4 = 40) (hc5 : tp 5 = 41) (hc6 : tp 6 = 59) : x_f x_P (d + 1) 138 [(6, 471, 0)] φ n sl (x_r φ n sl (0, 41, 0)) := by
  refine x_f_of rfl ?_
  refine x_n_lt (fun hlt0 => ?_)
  refine q_load (v := (6, 471, 0)) (p2 := 1) rfl rfl rfl rfl ?_
  refine q_getv (v := (0, 5, 0)) (p2 := 2) rfl hF.1 (by decide) rfl rfl ?_
  refine q_if0_s (p2 := 3) rfl (by decide) (by omega) rfl (fun hb => absurd hb (show ¬ (5 < 0) by omega)) (fun _ => ?_)
  refine q_load (v := (6, 471, 0)) (p2 := 4) rfl rfl rfl rfl ?_
  refine q_getv (v := (0, 5, 0)) (p2 := 5) rfl hF.1 (by decide) rfl rfl ?_
  refine q_load (v := (6, 471, 0)) (p2 := 6) rfl rfl rfl rfl ?_
  refine q_getv (v := (0, 7, 0)) (p2 := 7) rfl hF.1 (by decide) rfl rfl ?_
  refine q_icmp_s (p2 := 8) rfl (by decide) (by omega) (by omega) rfl (fun hb => absurd hb (show ¬ (¬ (5 < 7)) by omega)) (fun _ => ?_)
  refine q_load (v := (6, 471, 0)) (p2 := 9) rfl rfl rfl rfl ?_
  refine q_getv (v := (0, 5, 0)) (p2 := 10) rfl hF.1 (by decide) rfl rfl ?_
  refine q_load (v := (6, 471, 0)) (p2 := 11) rfl rfl rfl rfl ?_
  refine q_getv (v := (6, 1, 0)) (p2 := 12) rfl hF.1 (by decide) rfl rfl ?_
  refine q_alen (p2 := 13) rfl hB rfl (by omega) rfl ?_
  refine q_icmp_s (p2 := 14) rfl (by decide) (by omega) (by omega) rfl (fun hb => absurd hb (show ¬ (¬ (5 < 3000)) by omega)) (fun _ => ?_)
  refine q_load (v := (6, 471, 0)) (p2 := 15) rfl rfl rfl rfl ?_
  refine q_getv (v := (6, 1, 0)) (p2 := 16) rfl hF.1 (by decide) rfl rfl ?_
  refine q_load (v := (6, 471, 0)) (p2 := 17) rfl rfl rfl rfl ?_
  refine q_getv (v := (0, 5, 0)) (p2 := 18) rfl hF.1 (by decide) rfl rfl ?_
  refine q_aldT (tag := 0) (v := 41) (p2 := 19) rfl hB (by omega) (by omega) hc5 rfl ?_
  refine q_const (p2 := 20) rfl rfl ?_
  refine q_iop (w := 41 &&& 255) (z := 41) (p2 := 21) rfl (xo_and 41 255) (by decide) rfl ?_
  refine q_goto rfl ?_
  exact q_retv (v := (0, 41, 0)) rfl rfl (⟨rfl, rfl, rfl, rfl, rfl⟩)
theorem zc_fr_blanks_21 {d n sl : Nat} {φ : FH} {A : Nat} {B : Nat} {K : Nat → Nat} {P : Nat → Nat} {V : Nat → Nat} {at_ : Nat} {co : Nat → Nat} {comb : Nat → Nat} {cur : Nat} {fa : Nat} {fbi : Nat} {fcl : Nat → Nat} {fco : Nat → Nat} {ffp : Nat} {fki : Nat} {fl : Nat → Nat} {fnu : Nat → Nat} {fp : Nat} {fr_ : Nat} {fso : Nat → Nat} {ftc : Nat} {ftf : Nat} {ftn : Nat → Nat} {hm : Nat → MV} {lo : Nat → Nat} {made : Nat} {mi : Nat} {mm : Nat} {no : Nat} {op : Nat} {pc_ : Nat} {pl : Nat} {re : Nat → Nat} {rs : Nat → Nat} {s9 : Nat} {se : Nat → Nat} {sf : Nat} {sp : Nat} {st : Nat → Nat} {sv : Nat} {svm : Nat} {top_ : Nat} {tot : Nat} {tp : Nat → Nat} {va : Nat} (hF : zq_F φ 1 7 5 0 0 ffp 1 0 1 fki fbi ftc ftf (x_s fnu 0 1) (x_s (x_s fco 0 0) 0 1) (x_s (x_s fso 0 1) 0 1) fcl ftn) (hB : zq_tp φ tp) (hT : zq_T φ tot at_ cur pl va fa fp sf sp no op K P V) (hKS : x_KS φ top_ fr_ pc_ mm mi st lo re rs fl se co) (hPS : x_PS φ A B made sv svm s9 comb hm) (hN : zq_nm φ) (hc0 : tp 0 = 35) (hc1 : tp 1 = 49) (hc2 : tp 2 = 61) (hc3 : tp 3 = 97) (hc4 : tp 4 = 40) (hc5 : tp 5 = 41) (hc6 : tp 6 = 59) : x_f x_P (d + 2) 133 [(6, 471, 0), (11, 0, 0)] φ n sl (x_v φ n sl) := by
  refine x_f_of rfl ?_
  refine x_n_lt (fun hlt0 => ?_)
  refine q_const (p2 := 1) rfl rfl ?_
  refine q_store (loc2 := [(6, 471, 0), (0, 0, 0)]) (p2 := 2) rfl rfl rfl rfl rfl ?_
  refine q_load (v := (0, 0, 0)) (p2 := 3) rfl rfl rfl rfl ?_
  refine q_load (v := (6, 471, 0)) (p2 := 4) rfl rfl rfl rfl ?_
  refine q_getv (v := (0, 7, 0)) (p2 := 5) rfl hF.1 (by decide) rfl rfl ?_
  refine q_icmp_s (p2 := 6) rfl (by decide) (by omega) (by omega) rfl (fun hb => absurd hb (show ¬ (¬ (0 < 7)) by omega)) (fun _ => ?_)
  refine q_load (v := (6, 471, 0)) (p2 := 7) rfl rfl rfl rfl ?_
  refine q_callr (xs := [(6, 471, 0)]) (p2 := 8) rfl rfl rfl rfl (x_rcv_s 471 hF.1) rfl (zc_fr_peek_22 hF hB hT hKS hPS hN hc0 hc1 hc2 hc3 hc4 hc5 hc6) (Nat.le_refl _) (Nat.le_refl _) rfl ?_
  refine q_callr (xs := [(0, 41, 0)]) (p2 := 9) rfl rfl rfl rfl (fun _ _ => rfl) rfl (zc_a_87_41 ) (Nat.le_refl _) (Nat.le_refl _) rfl ?_
  refine q_if0_s (p2 := 10) rfl (by decide) (by omega) rfl (fun _ => ?_) (fun hb => absurd (show 0 = 0 by omega) hb)
  exact q_ret rfl (⟨rfl, rfl, rfl, rfl⟩)
theorem zc_fr_sign_18 {d n sl : Nat} {φ : FH} {A : Nat} {B : Nat} {K : Nat → Nat} {P : Nat → Nat} {V : Nat → Nat} {at_ : Nat} {co : Nat → Nat} {comb : Nat → Nat} {cur : Nat} {fa : Nat} {fbi : Nat} {fcl : Nat → Nat} {fco : Nat → Nat} {ffp : Nat} {fki : Nat} {fl : Nat → Nat} {fnu : Nat → Nat} {fp : Nat} {fr_ : Nat} {fso : Nat → Nat} {ftc : Nat} {ftf : Nat} {ftn : Nat → Nat} {hm : Nat → MV} {lo : Nat → Nat} {made : Nat} {mi : Nat} {mm : Nat} {no : Nat} {op : Nat} {pc_ : Nat} {pl : Nat} {re : Nat → Nat} {rs : Nat → Nat} {s9 : Nat} {se : Nat → Nat} {sf : Nat} {sp : Nat} {st : Nat → Nat} {sv : Nat} {svm : Nat} {top_ : Nat} {tot : Nat} {tp : Nat → Nat} {va : Nat} (hF : zq_F φ 1 7 4 0 0 ffp 1 0 1 fki fbi ftc ftf (x_s fnu 0 1) (x_s (x_s fco 0 0) 0 1) (x_s (x_s fso 0 1) 0 1) fcl ftn) (hB : zq_tp φ tp) (hT : zq_T φ tot at_ cur pl va fa fp sf sp no op K P V) (hKS : x_KS φ top_ fr_ pc_ mm mi st lo re rs fl se co) (hPS : x_PS φ A B made sv svm s9 comb hm) (hN : zq_nm φ) (hc0 : tp 0 = 35) (hc1 : tp 1 = 49) (hc2 : tp 2 = 61) (hc3 : tp 3 = 97) (hc4 : tp 4 = 40) (hc5 : tp 5 = 41) (hc6 : tp 6 = 59) : x_f x_P (d + 3) 137 [(6, 471, 0), (0, 40, 0)] φ n sl (x_vR n sl (fun φ2 => zq_F φ2 1 7 5 0 0 ffp 1 0 1 fki fbi ftc ftf (x_s fnu 0 1) (x_s (x_s fco 0 0) 0 1) (x_s (x_s fso 0 1) 0 1) fcl ftn ∧ ∀ j, j ≠ 471 → φ2 j = φ j)) := by
  refine x_f_of rfl ?_
  refine x_n_lt (fun hlt0 => ?_)
  refine q_load (v := (6, 471, 0)) (p2 := 1) rfl rfl rfl rfl ?_
  refine q_callv (xs := [(6, 471, 0)]) (p2 := 2) rfl rfl rfl rfl (x_rcv_s 471 hF.1) rfl (zc_fr_blanks_19 hF hB hT hKS hPS hN hc0 hc1 hc2 hc3 hc4 hc5 hc6) (Nat.le_refl _) (Nat.le_refl _) rfl ?_
  refine q_load (v := (6, 471, 0)) (p2 := 3) rfl rfl rfl rfl ?_
  refine q_callr (xs := [(6, 471, 0)]) (p2 := 4) rfl rfl rfl rfl (x_rcv_s 471 hF.1) rfl (zc_fr_peek_20 hF hB hT hKS hPS hN hc0 hc1 hc2 hc3 hc4 hc5 hc6) (Nat.le_refl _) (Nat.le_refl _) rfl ?_
  refine q_load (v := (0, 40, 0)) (p2 := 5) rfl rfl rfl rfl ?_
  refine q_icmp_s (p2 := 6) rfl (by decide) (by omega) (by omega) rfl (fun _ => ?_) (fun hb => absurd (show 40 = 40 by omega) hb)
  refine q_load (v := (6, 471, 0)) (p2 := 13) rfl rfl rfl rfl ?_
  refine q_getv (v := (0, 0, 0)) (p2 := 14) rfl hF.1 (by decide) rfl rfl ?_
  refine q_if0_s (p2 := 15) rfl (by decide) (by omega) rfl (fun hb => absurd hb (show ¬ (¬ (0 = 0)) by omega)) (fun _ => ?_)
  refine q_load (v := (6, 471, 0)) (p2 := 16) rfl rfl rfl rfl ?_
  refine q_dup (p2 := 17) rfl rfl rfl ?_
  refine q_getv (v := (0, 4, 0)) (p2 := 18) rfl hF.1 (by decide) rfl rfl ?_
  refine q_const (p2 := 19) rfl rfl ?_
  refine q_iop (w := 4 + 1) (z := 5) (p2 := 20) rfl (xo_add 4 1) (by decide) rfl ?_
  refine q_putfE (v := (0, 5, 0)) (p2 := 21) rfl hF.1 (by decide) rfl rfl (fun φ1 f1 hh1 hg1 ho1 fr1 => ?_)
  have hs1 := zq_F_put_471_4 hF hh1 hg1 ho1 fr1
  refine q_load (v := (6, 471, 0)) (p2 := 22) rfl rfl rfl rfl ?_
  have hm2 := (zq_tp_at hB (fr1 1 (by decide)))
  have hm3 := (zq_T_at hT (fr1 2 (by decide)) (fr1 3 (by decide)) (fr1 4 (by decide)) (fr1 5 (by decide)) (fr1 6 (by decide)))
  have hm4 := (x_KS_at2 hKS (fun j h1 h2 h3 h4 => (fr1 j (by omega))))
  refine x_n_lt (fun hlt6 => ?_)
  have hm5 := (x_PS_at hPS (fun j hj hne => by have hj2 := x_some_lt hlt0 hne; exact (fr1 j (by omega))))
  have hm7 := (zq_nm_at hN (fr1 239 (by decide)) (fr1 242 (by decide)) (fr1 244 (by decide)))
  refine q_callv (xs := [(6, 471, 0)]) (p2 := 23) rfl rfl rfl rfl (x_rcv_s 471 hs1.1) rfl (zc_fr_blanks_21 hs1 hm2 hm3 hm4 hm5 hm7 hc0 hc1 hc2 hc3 hc4 hc5 hc6) (Nat.le_refl _) (Nat.le_refl _) rfl ?_
  exact q_ret rfl (⟨rfl, rfl, rfl, hs1, fun j hj0 => (fr1 j (by omega))⟩)
theorem zc_fs_explicitFrom_23 {d n sl : Nat} {φ : FH}  (hS : x_sch φ)  : x_f x_P (d + 1) 218 [(6, 237, 0), (0, 0, 0), (0, 1, 0), (11, 0, 0)] φ n sl (x_r φ n sl (0, 0, 0)) := by
  refine x_f_of rfl ?_
  refine q_load (v := (0, 0, 0)) (p2 := 1) rfl rfl rfl rfl ?_
  refine q_store (loc2 := [(6, 237, 0), (0, 0, 0), (0, 1, 0), (0, 0, 0)]) (p2 := 2) rfl rfl rfl rfl rfl ?_
  refine q_load (v := (0, 0, 0)) (p2 := 3) rfl rfl rfl rfl ?_
  refine q_if0_s (p2 := 4) rfl (by decide) (by omega) rfl (fun hb => absurd hb (show ¬ (0 < 0) by omega)) (fun _ => ?_)
  refine q_load (v := (0, 0, 0)) (p2 := 5) rfl rfl rfl rfl ?_
  refine q_load (v := (6, 237, 0)) (p2 := 6) rfl rfl rfl rfl ?_
  refine q_getv (v := (6, 246, 0)) (p2 := 7) rfl hS.1.choose_spec.1 (by decide) hS.1.choose_spec.2.2.2.1 rfl ?_
  refine q_const (p2 := 8) rfl rfl ?_
  refine q_aldv (v := (0, 5, 0)) (p2 := 9) rfl (x_sc_246 hS) (by omega) (by omega) rfl rfl ?_
  refine q_icmp_s (p2 := 10) rfl (by decide) (by omega) (by omega) rfl (fun hb => absurd hb (show ¬ (¬ (0 < 5)) by omega)) (fun _ => ?_)
  refine q_load (v := (6, 237, 0)) (p2 := 11) rfl rfl rfl rfl ?_
  refine q_getv (v := (6, 271, 0)) (p2 := 12) rfl hS.1.choose_spec.1 (by decide) hS.1.choose_spec.2.2.2.2.2.2.2.2.1 rfl ?_
  refine q_load (v := (0, 0, 0)) (p2 := 13) rfl rfl rfl rfl ?_
  refine q_aldv (v := (6, 272, 0)) (p2 := 14) rfl (x_sc_271 hS) (by omega) (by omega) rfl rfl ?_
  refine q_const (p2 := 15) rfl rfl ?_
  refine q_aldv (v := (0, 0, 0)) (p2 := 16) rfl (x_sc_272 hS) (by omega) (by omega) rfl rfl ?_
  refine q_if0_s (p2 := 17) rfl (by decide) (by omega) rfl (fun hb => absurd hb (show ¬ (¬ (0 = 0)) by omega)) (fun _ => ?_)
  refine q_load (v := (0, 1, 0)) (p2 := 18) rfl rfl rfl rfl ?_
  refine q_load (v := (6, 237, 0)) (p2 := 19) rfl rfl rfl rfl ?_
  refine q_getv (v := (6, 271, 0)) (p2 := 20) rfl hS.1.choose_spec.1 (by decide) hS.1.choose_spec.2.2.2.2.2.2.2.2.1 rfl ?_
  refine q_load (v := (0, 0, 0)) (p2 := 21) rfl rfl rfl rfl ?_
  refine q_aldv (v := (6, 272, 0)) (p2 := 22) rfl (x_sc_271 hS) (by omega) (by omega) rfl rfl ?_
  refine q_const (p2 := 23) rfl rfl ?_
  refine q_aldv (v := (0, 0, 0)) (p2 := 24) rfl (x_sc_272 hS) (by omega) (by omega) rfl rfl ?_
  refine q_iop (w := 1 >>> (0 % 32)) (z := 1) (p2 := 25) rfl (xo_shr (show 1 < 2147483648 by decide) 0) (by decide) rfl ?_
  refine q_const (p2 := 26) rfl rfl ?_
  refine q_iop (w := 1 &&& 1) (z := 1) (p2 := 27) rfl (xo_and 1 1) (by decide) rfl ?_
  refine q_const (p2 := 28) rfl rfl ?_
  refine q_icmp_s (p2 := 29) rfl (by decide) (by omega) (by omega) rfl (fun hb => absurd hb (show ¬ (¬ (1 = 1)) by omega)) (fun _ => ?_)
  refine q_load (v := (0, 0, 0)) (p2 := 30) rfl rfl rfl rfl ?_
  exact q_retv (v := (0, 0, 0)) rfl rfl (⟨rfl, rfl, rfl, rfl, rfl⟩)
theorem zc_fr_peek_26 {d n sl : Nat} {φ : FH} {A : Nat} {B : Nat} {K : Nat → Nat} {P : Nat → Nat} {V : Nat → Nat} {at_ : Nat} {co : Nat → Nat} {comb : Nat → Nat} {cur : Nat} {fa : Nat} {fbi : Nat} {fcl : Nat → Nat} {fco : Nat → Nat} {ffp : Nat} {fki : Nat} {fl : Nat → Nat} {fnu : Nat → Nat} {fp : Nat} {fr_ : Nat} {fso : Nat → Nat} {ftc : Nat} {ftf : Nat} {ftn : Nat → Nat} {hm : Nat → MV} {lo : Nat → Nat} {made : Nat} {mi : Nat} {mm : Nat} {no : Nat} {op : Nat} {pc_ : Nat} {pl : Nat} {re : Nat → Nat} {rs : Nat → Nat} {s9 : Nat} {se : Nat → Nat} {sf : Nat} {sp : Nat} {st : Nat → Nat} {sv : Nat} {svm : Nat} {top_ : Nat} {tot : Nat} {tp : Nat → Nat} {va : Nat} (hF : zq_F φ 1 7 6 0 0 ffp 1 0 1 fki fbi ftc ftf (x_s fnu 0 1) (x_s (x_s fco 0 0) 0 1) (x_s (x_s fso 0 1) 0 1) fcl ftn) (hB : zq_tp φ tp) (hT : zq_T φ tot at_ cur pl va fa fp sf sp no op K P V) (hKS : x_KS φ top_ fr_ pc_ mm mi st lo re rs fl se co) (hPS : x_PS φ A B made sv svm s9 comb hm) (hN : zq_nm φ) (hc0 : tp 0 = 35) (hc1 : tp 1 = 49) (hc2 : tp 2 = 61) (hc3 : tp 3 = 97) (hc4 : tp 4 = 40) (hc5 : tp 5 = 41) (hc6 : tp 6 = 59) : x_f x_P (d + 1) 138 [(6, 471, 0)] φ n sl (x_r φ n sl (0, 59, 0)) := by
  refine x_f_of rfl ?_
  refine x_n_lt (fun hlt0 => ?_)
  refine q_load (v := (6, 471, 0)) (p2 := 1) rfl rfl rfl rfl ?_
  refine q_getv (v := (0, 6, 0)) (p2 := 2) rfl hF.1 (by decide) rfl rfl ?_
  refine q_if0_s (p2 := 3) rfl (by decide) (by omega) rfl (fun hb => absurd hb (show ¬ (6 < 0) by omega)) (fun _ => ?_)
  refine q_load (v := (6, 471, 0)) (p2 := 4) rfl rfl rfl rfl ?_
  refine q_getv (v := (0, 6, 0)) (p2 := 5) rfl hF.1 (by decide) rfl rfl ?_
  refine q_load (v := (6, 471, 0)) (p2 := 6) rfl rfl rfl rfl ?_
  refine q_getv (v := (0, 7, 0)) (p2 := 7) rfl hF.1 (by decide) rfl rfl ?_
  refine q_icmp_s (p2 := 8) rfl (by decide) (by omega) (by omega) rfl (fun hb => absurd hb (show ¬ (¬ (6 < 7)) by omega)) (fun _ => ?_)
  refine q_load (v := (6, 471, 0)) (p2 := 9) rfl rfl rfl rfl ?_
  refine q_getv (v := (0, 6, 0)) (p2 := 10) rfl hF.1 (by decide) rfl rfl ?_
  refine q_load (v := (6, 471, 0)) (p2 := 11) rfl rfl rfl rfl ?_
  refine q_getv (v := (6, 1, 0)) (p2 := 12) rfl hF.1 (by decide) rfl rfl ?_
  refine q_alen (p2 := 13) rfl hB rfl (by omega) rfl ?_
  refine q_icmp_s (p2 := 14) rfl (by decide) (by omega) (by omega) rfl (fun hb => absurd hb (show ¬ (¬ (6 < 3000)) by omega)) (fun _ => ?_)
  refine q_load (v := (6, 471, 0)) (p2 := 15) rfl rfl rfl rfl ?_
  refine q_getv (v := (6, 1, 0)) (p2 := 16) rfl hF.1 (by decide) rfl rfl ?_
  refine q_load (v := (6, 471, 0)) (p2 := 17) rfl rfl rfl rfl ?_
  refine q_getv (v := (0, 6, 0)) (p2 := 18) rfl hF.1 (by decide) rfl rfl ?_
  refine q_aldT (tag := 0) (v := 59) (p2 := 19) rfl hB (by omega) (by omega) hc6 rfl ?_
  refine q_const (p2 := 20) rfl rfl ?_
  refine q_iop (w := 59 &&& 255) (z := 59) (p2 := 21) rfl (xo_and 59 255) (by decide) rfl ?_
  refine q_goto rfl ?_
  exact q_retv (v := (0, 59, 0)) rfl rfl (⟨rfl, rfl, rfl, rfl, rfl⟩)
theorem zc_a_87_59 {d n sl : Nat} {φ : FH}    : x_f x_P (d + 1) 87 [(0, 59, 0)] φ n sl (x_r φ n sl (0, 0, 0)) := by
  refine x_f_of rfl ?_
  refine q_load (v := (0, 59, 0)) (p2 := 1) rfl rfl rfl rfl ?_
  refine q_const (p2 := 2) rfl rfl ?_
  refine q_icmp_s (p2 := 3) rfl (by decide) (by omega) (by omega) rfl (fun hb => absurd hb (show ¬ (59 = 32) by omega)) (fun _ => ?_)
  refine q_load (v := (0, 59, 0)) (p2 := 4) rfl rfl rfl rfl ?_
  refine q_const (p2 := 5) rfl rfl ?_
  refine q_icmp_s (p2 := 6) rfl (by decide) (by omega) (by omega) rfl (fun _ => ?_) (fun hb => absurd (show ¬ (59 = 10) by omega) hb)
  refine q_const (p2 := 9) rfl rfl ?_
  exact q_retv (v := (0, 0, 0)) rfl rfl (⟨rfl, rfl, rfl, rfl, rfl⟩)
theorem zc_fr_blanks_25 {d n sl : Nat} {φ : FH} {A : Nat} {B : Nat} {K : Nat → Nat} {P : Nat → Nat} {V : Nat → Nat} {at_ : Nat} {co : Nat → Nat} {comb : Nat → Nat} {cur : Nat} {fa : Nat} {fbi : Nat} {fcl : Nat → Nat} {fco : Nat → Nat} {ffp : Nat} {fki : Nat} {fl : Nat → Nat} {fnu : Nat → Nat} {fp : Nat} {fr_ : Nat} {fso : Nat → Nat} {ftc : Nat} {ftf : Nat} {ftn : Nat → Nat} {hm : Nat → MV} {lo : Nat → Nat} {made : Nat} {mi : Nat} {mm : Nat} {no : Nat} {op : Nat} {pc_ : Nat} {pl : Nat} {re : Nat → Nat} {rs : Nat → Nat} {s9 : Nat} {se : Nat → Nat} {sf : Nat} {sp : Nat} {st : Nat → Nat} {sv : Nat} {svm : Nat} {top_ : Nat} {tot : Nat} {tp : Nat → Nat} {va : Nat} (hF : zq_F φ 1 7 6 0 0 ffp 1 0 1 fki fbi ftc ftf (x_s fnu 0 1) (x_s (x_s fco 0 0) 0 1) (x_s (x_s fso 0 1) 0 1) fcl ftn) (hB : zq_tp φ tp) (hT : zq_T φ tot at_ cur pl va fa fp sf sp no op K P V) (hKS : x_KS φ top_ fr_ pc_ mm mi st lo re rs fl se co) (hPS : x_PS φ A B made sv svm s9 comb hm) (hN : zq_nm φ) (hc0 : tp 0 = 35) (hc1 : tp 1 = 49) (hc2 : tp 2 = 61) (hc3 : tp 3 = 97) (hc4 : tp 4 = 40) (hc5 : tp 5 = 41) (hc6 : tp 6 = 59) : x_f x_P (d + 2) 133 [(6, 471, 0), (11, 0, 0)] φ n sl (x_v φ n sl) := by
  refine x_f_of rfl ?_
  refine x_n_lt (fun hlt0 => ?_)
  refine q_const (p2 := 1) rfl rfl ?_
  refine q_store (loc2 := [(6, 471, 0), (0, 0, 0)]) (p2 := 2) rfl rfl rfl rfl rfl ?_
  refine q_load (v := (0, 0, 0)) (p2 := 3) rfl rfl rfl rfl ?_
  refine q_load (v := (6, 471, 0)) (p2 := 4) rfl rfl rfl rfl ?_
  refine q_getv (v := (0, 7, 0)) (p2 := 5) rfl hF.1 (by decide) rfl rfl ?_
  refine q_icmp_s (p2 := 6) rfl (by decide) (by omega) (by omega) rfl (fun hb => absurd hb (show ¬ (¬ (0 < 7)) by omega)) (fun _ => ?_)
  refine q_load (v := (6, 471, 0)) (p2 := 7) rfl rfl rfl rfl ?_
  refine q_callr (xs := [(6, 471, 0)]) (p2 := 8) rfl rfl rfl rfl (x_rcv_s 471 hF.1) rfl (zc_fr_peek_26 hF hB hT hKS hPS hN hc0 hc1 hc2 hc3 hc4 hc5 hc6) (Nat.le_refl _) (Nat.le_refl _) rfl ?_
  refine q_callr (xs := [(0, 59, 0)]) (p2 := 9) rfl rfl rfl rfl (fun _ _ => rfl) rfl (zc_a_87_59 ) (Nat.le_refl _) (Nat.le_refl _) rfl ?_
  refine q_if0_s (p2 := 10) rfl (by decide) (by omega) rfl (fun _ => ?_) (fun hb => absurd (show 0 = 0 by omega) hb)
  exact q_ret rfl (⟨rfl, rfl, rfl, rfl⟩)
theorem zc_fr_sign_24 {d n sl : Nat} {φ : FH} {A : Nat} {B : Nat} {K : Nat → Nat} {P : Nat → Nat} {V : Nat → Nat} {at_ : Nat} {co : Nat → Nat} {comb : Nat → Nat} {cur : Nat} {fa : Nat} {fbi : Nat} {fcl : Nat → Nat} {fco : Nat → Nat} {ffp : Nat} {fki : Nat} {fl : Nat → Nat} {fnu : Nat → Nat} {fp : Nat} {fr_ : Nat} {fso : Nat → Nat} {ftc : Nat} {ftf : Nat} {ftn : Nat → Nat} {hm : Nat → MV} {lo : Nat → Nat} {made : Nat} {mi : Nat} {mm : Nat} {no : Nat} {op : Nat} {pc_ : Nat} {pl : Nat} {re : Nat → Nat} {rs : Nat → Nat} {s9 : Nat} {se : Nat → Nat} {sf : Nat} {sp : Nat} {st : Nat → Nat} {sv : Nat} {svm : Nat} {top_ : Nat} {tot : Nat} {tp : Nat → Nat} {va : Nat} (hF : zq_F φ 1 7 5 0 0 ffp 1 0 1 fki fbi ftc ftf (x_s fnu 0 1) (x_s (x_s fco 0 0) 0 1) (x_s (x_s fso 0 1) 0 1) fcl ftn) (hB : zq_tp φ tp) (hT : zq_T φ tot at_ cur pl va fa fp sf sp no op K P V) (hKS : x_KS φ top_ fr_ pc_ mm mi st lo re rs fl se co) (hPS : x_PS φ A B made sv svm s9 comb hm) (hN : zq_nm φ) (hc0 : tp 0 = 35) (hc1 : tp 1 = 49) (hc2 : tp 2 = 61) (hc3 : tp 3 = 97) (hc4 : tp 4 = 40) (hc5 : tp 5 = 41) (hc6 : tp 6 = 59) : x_f x_P (d + 3) 137 [(6, 471, 0), (0, 41, 0)] φ n sl (x_vR n sl (fun φ2 => zq_F φ2 1 7 6 0 0 ffp 1 0 1 fki fbi ftc ftf (x_s fnu 0 1) (x_s (x_s fco 0 0) 0 1) (x_s (x_s fso 0 1) 0 1) fcl ftn ∧ ∀ j, j ≠ 471 → φ2 j = φ j)) := by
  refine x_f_of rfl ?_
  refine x_n_lt (fun hlt0 => ?_)
  refine q_load (v := (6, 471, 0)) (p2 := 1) rfl rfl rfl rfl ?_
  refine q_callv (xs := [(6, 471, 0)]) (p2 := 2) rfl rfl rfl rfl (x_rcv_s 471 hF.1) rfl (zc_fr_blanks_21 hF hB hT hKS hPS hN hc0 hc1 hc2 hc3 hc4 hc5 hc6) (Nat.le_refl _) (Nat.le_refl _) rfl ?_
  refine q_load (v := (6, 471, 0)) (p2 := 3) rfl rfl rfl rfl ?_
  refine q_callr (xs := [(6, 471, 0)]) (p2 := 4) rfl rfl rfl rfl (x_rcv_s 471 hF.1) rfl (zc_fr_peek_22 hF hB hT hKS hPS hN hc0 hc1 hc2 hc3 hc4 hc5 hc6) (Nat.le_refl _) (Nat.le_refl _) rfl ?_
  refine q_load (v := (0, 41, 0)) (p2 := 5) rfl rfl rfl rfl ?_
  refine q_icmp_s (p2 := 6) rfl (by decide) (by omega) (by omega) rfl (fun _ => ?_) (fun hb => absurd (show 41 = 41 by omega) hb)
  refine q_load (v := (6, 471, 0)) (p2 := 13) rfl rfl rfl rfl ?_
  refine q_getv (v := (0, 0, 0)) (p2 := 14) rfl hF.1 (by decide) rfl rfl ?_
  refine q_if0_s (p2 := 15) rfl (by decide) (by omega) rfl (fun hb => absurd hb (show ¬ (¬ (0 = 0)) by omega)) (fun _ => ?_)
  refine q_load (v := (6, 471, 0)) (p2 := 16) rfl rfl rfl rfl ?_
  refine q_dup (p2 := 17) rfl rfl rfl ?_
  refine q_getv (v := (0, 5, 0)) (p2 := 18) rfl hF.1 (by decide) rfl rfl ?_
  refine q_const (p2 := 19) rfl rfl ?_
  refine q_iop (w := 5 + 1) (z := 6) (p2 := 20) rfl (xo_add 5 1) (by decide) rfl ?_
  refine q_putfE (v := (0, 6, 0)) (p2 := 21) rfl hF.1 (by decide) rfl rfl (fun φ1 f1 hh1 hg1 ho1 fr1 => ?_)
  have hs1 := zq_F_put_471_4 hF hh1 hg1 ho1 fr1
  refine q_load (v := (6, 471, 0)) (p2 := 22) rfl rfl rfl rfl ?_
  have hm2 := (zq_tp_at hB (fr1 1 (by decide)))
  have hm3 := (zq_T_at hT (fr1 2 (by decide)) (fr1 3 (by decide)) (fr1 4 (by decide)) (fr1 5 (by decide)) (fr1 6 (by decide)))
  have hm4 := (x_KS_at2 hKS (fun j h1 h2 h3 h4 => (fr1 j (by omega))))
  refine x_n_lt (fun hlt6 => ?_)
  have hm5 := (x_PS_at hPS (fun j hj hne => by have hj2 := x_some_lt hlt0 hne; exact (fr1 j (by omega))))
  have hm7 := (zq_nm_at hN (fr1 239 (by decide)) (fr1 242 (by decide)) (fr1 244 (by decide)))
  refine q_callv (xs := [(6, 471, 0)]) (p2 := 23) rfl rfl rfl rfl (x_rcv_s 471 hs1.1) rfl (zc_fr_blanks_25 hs1 hm2 hm3 hm4 hm5 hm7 hc0 hc1 hc2 hc3 hc4 hc5 hc6) (Nat.le_refl _) (Nat.le_refl _) rfl ?_
  exact q_ret rfl (⟨rfl, rfl, rfl, hs1, fun j hj0 => (fr1 j (by omega))⟩)
theorem zc_fr_form_15 {d n sl : Nat} {φ : FH} {A : Nat} {B : Nat} {K : Nat → Nat} {P : Nat → Nat} {V : Nat → Nat} {at_ : Nat} {co : Nat → Nat} {comb : Nat → Nat} {cur : Nat} {fa : Nat} {fbi : Nat} {fcl : Nat → Nat} {fco : Nat → Nat} {ffp : Nat} {fki : Nat} {fl : Nat → Nat} {fnu : Nat → Nat} {fp : Nat} {fr_ : Nat} {fso : Nat → Nat} {ftc : Nat} {ftf : Nat} {ftn : Nat → Nat} {hm : Nat → MV} {lo : Nat → Nat} {made : Nat} {mi : Nat} {mm : Nat} {no : Nat} {op : Nat} {pc_ : Nat} {pl : Nat} {re : Nat → Nat} {rs : Nat → Nat} {s9 : Nat} {se : Nat → Nat} {sf : Nat} {sp : Nat} {st : Nat → Nat} {sv : Nat} {svm : Nat} {top_ : Nat} {tot : Nat} {tp : Nat → Nat} {va : Nat} (hF : zq_F φ 1 7 3 0 0 ffp 1 0 0 fki fbi ftc ftf (x_s fnu 0 1) (x_s fco 0 0) (x_s fso 0 1) fcl ftn) (hB : zq_tp φ tp) (hT : zq_T φ tot at_ cur pl va fa fp sf sp no op K P V) (hKS : x_KS φ top_ fr_ pc_ mm mi st lo re rs fl se co) (hPS : x_PS φ A B made sv svm s9 comb hm) (hN : zq_nm φ) (hc0 : tp 0 = 35) (hc1 : tp 1 = 49) (hc2 : tp 2 = 61) (hc3 : tp 3 = 97) (hc4 : tp 4 = 40) (hc5 : tp 5 = 41) (hc6 : tp 6 = 59) : x_f x_P (d + 4) 139 [(6, 471, 0), (0, 1, 0), (11, 0, 0), (11, 0, 0), (11, 0, 0), (11, 0, 0), (11, 0, 0), (11, 0, 0), (11, 0, 0), (11, 0, 0)] φ n sl (x_vR n sl (fun φ2 => zq_F φ2 1 7 6 0 0 ffp 1 0 1 fki fbi ftc ftf (x_s fnu 0 1) (x_s (x_s fco 0 0) 0 1) (x_s (x_s fso 0 1) 0 1) fcl ftn ∧ ∀ j, j ≠ 471 → j ≠ 474 → j ≠ 475 → φ2 j = φ j)) := by
  refine x_f_of rfl ?_
  refine x_n_lt (fun hlt0 => ?_)
  refine q_load (v := (6, 471, 0)) (p2 := 1) rfl rfl rfl rfl ?_
  refine q_getv (v := (0, 3, 0)) (p2 := 2) rfl hF.1 (by decide) rfl rfl ?_
  refine q_store (loc2 := [(6, 471, 0), (0, 1, 0), (0, 3, 0), (11, 0, 0), (11, 0, 0), (11, 0, 0), (11, 0, 0), (11, 0, 0), (11, 0, 0), (11, 0, 0)]) (p2 := 3) rfl rfl rfl rfl rfl ?_
  refine q_load (v := (6, 471, 0)) (p2 := 4) rfl rfl rfl rfl ?_
  refine q_getv (v := (6, 7, 0)) (p2 := 5) rfl hF.1 (by decide) rfl rfl ?_
  refine q_getv (v := (6, 237, 0)) (p2 := 6) rfl hPS.1.choose_spec.1 (by decide) hPS.1.choose_spec.2.1 rfl ?_
  refine q_const (p2 := 7) rfl rfl ?_
  refine q_load (v := (6, 471, 0)) (p2 := 8) rfl rfl rfl rfl ?_
  refine q_callrE (xs := [(6, 471, 0)]) (p2 := 9) rfl rfl rfl rfl (x_rcv_s 471 hF.1) rfl (zc_fr_word_16 hF hB hT hKS hPS hN hc0 hc1 hc2 hc3 hc4 hc5 hc6) (Nat.le_refl _) (Nat.le_refl _) rfl (fun φ1 hR1 => ?_)
  obtain ⟨hs1_0, fr1⟩ := hR1
  have hm2 := (x_KS_at2 hKS (fun j h1 h2 h3 h4 => (fr1 j (by omega))))
  have hm3 := (zq_nm_at hN (fr1 239 (by decide)) (fr1 242 (by decide)) (fr1 244 (by decide)))
  refine q_callr (xs := [(2, 1, 0), (0, 2, 0), (6, 237, 0)]) (p2 := 10) rfl rfl rfl rfl (x_rcv_s 237 hm2.2.2.2.2.2.2.2.2.2.1.choose_spec.1) rfl (zc_s_find2_1 hm2.2.2.2.2.2.2.2.2.2 hm3) (Nat.le_refl _) (Nat.le_refl _) rfl ?_
  refine q_store (loc2 := [(6, 471, 0), (0, 1, 0), (0, 3, 0), (0, 0, 0), (11, 0, 0), (11, 0, 0), (11, 0, 0), (11, 0, 0), (11, 0, 0), (11, 0, 0)]) (p2 := 11) rfl rfl rfl rfl rfl ?_
  refine q_load (v := (0, 0, 0)) (p2 := 12) rfl rfl rfl rfl ?_
  refine q_if0_s (p2 := 13) rfl (by decide) (by omega) rfl (fun _ => ?_) (fun hb => absurd (show ¬ (0 < 0) by omega) hb)
  refine q_const (p2 := 16) rfl rfl ?_
  refine q_load (v := (0, 0, 0)) (p2 := 17) rfl rfl rfl rfl ?_
  refine q_iop (w := 1 <<< (0 % 32)) (z := 1) (p2 := 18) rfl (xo_shl 1 0) (by decide) rfl ?_
  refine q_store (loc2 := [(6, 471, 0), (0, 1, 0), (0, 3, 0), (0, 0, 0), (0, 1, 0), (11, 0, 0), (11, 0, 0), (11, 0, 0), (11, 0, 0), (11, 0, 0)]) (p2 := 19) rfl rfl rfl rfl rfl ?_
  refine q_load (v := (0, 0, 0)) (p2 := 20) rfl rfl rfl rfl ?_
  refine q_if0_s (p2 := 21) rfl (by decide) (by omega) rfl (fun hb => absurd hb (show ¬ (0 < 0) by omega)) (fun _ => ?_)
  refine q_load (v := (6, 471, 0)) (p2 := 22) rfl rfl rfl rfl ?_
  refine q_getv (v := (0, 0, 0)) (p2 := 23) rfl hs1_0.1 (by decide) rfl rfl ?_
  refine q_load (v := (0, 1, 0)) (p2 := 24) rfl rfl rfl rfl ?_
  refine q_iop (w := 0 &&& 1) (z := 0) (p2 := 25) rfl (xo_and 0 1) (by decide) rfl ?_
  refine q_if0_s (p2 := 26) rfl (by decide) (by omega) rfl (fun hb => absurd hb (show ¬ (¬ (0 = 0)) by omega)) (fun _ => ?_)
  refine q_const (p2 := 27) rfl rfl ?_
  refine q_goto rfl ?_
  refine q_store (loc2 := [(6, 471, 0), (0, 1, 0), (0, 3, 0), (0, 0, 0), (0, 1, 0), (0, 1, 0), (11, 0, 0), (11, 0, 0), (11, 0, 0), (11, 0, 0)]) (p2 := 30) rfl rfl rfl rfl rfl ?_
  refine q_load (v := (0, 1, 0)) (p2 := 31) rfl rfl rfl rfl ?_
  refine q_if0_s (p2 := 32) rfl (by decide) (by omega) rfl (fun hb => absurd hb (show ¬ (1 = 0) by omega)) (fun _ => ?_)
  refine q_load (v := (0, 0, 0)) (p2 := 33) rfl rfl rfl rfl ?_
  refine q_if0_s (p2 := 34) rfl (by decide) (by omega) rfl (fun hb => absurd hb (show ¬ (0 < 0) by omega)) (fun _ => ?_)
  refine q_load (v := (0, 1, 0)) (p2 := 35) rfl rfl rfl rfl ?_
  refine q_load (v := (6, 471, 0)) (p2 := 36) rfl rfl rfl rfl ?_
  refine q_getv (v := (6, 7, 0)) (p2 := 37) rfl hs1_0.1 (by decide) rfl rfl ?_
  refine x_n_lt (fun hlt5 => ?_)
  have hm4 := (x_PS_at hPS (fun j hj hne => by have hj2 := x_some_lt hlt0 hne; exact (fr1 j (by omega))))
  refine q_getv (v := (6, 237, 0)) (p2 := 38) rfl hm4.1.choose_spec.1 (by decide) hm4.1.choose_spec.2.1 rfl ?_
  refine q_getv (v := (6, 257, 0)) (p2 := 39) rfl hm2.2.2.2.2.2.2.2.2.2.1.choose_spec.1 (by decide) hm2.2.2.2.2.2.2.2.2.2.1.choose_spec.2.2.2.2.2.2.1 rfl ?_
  refine q_load (v := (0, 0, 0)) (p2 := 40) rfl rfl rfl rfl ?_
  refine q_aldv (v := (6, 258, 0)) (p2 := 41) rfl (x_sc_257 hm2.2.2.2.2.2.2.2.2.2) (by omega) (by omega) rfl rfl ?_
  refine q_const (p2 := 42) rfl rfl ?_
  refine q_aldv (v := (0, 0, 0)) (p2 := 43) rfl (x_sc_258 hm2.2.2.2.2.2.2.2.2.2) (by omega) (by omega) rfl rfl ?_
  refine q_iop (w := 1 ||| 0) (z := 1) (p2 := 44) rfl (xo_or 1 0) (by decide) rfl ?_
  refine q_goto rfl ?_
  refine q_store (loc2 := [(6, 471, 0), (0, 1, 0), (0, 3, 0), (0, 0, 0), (0, 1, 0), (0, 1, 0), (0, 1, 0), (11, 0, 0), (11, 0, 0), (11, 0, 0)]) (p2 := 47) rfl rfl rfl rfl rfl ?_
  refine q_load (v := (6, 471, 0)) (p2 := 48) rfl rfl rfl rfl ?_
  refine q_dup (p2 := 49) rfl rfl rfl ?_
  refine q_getv (v := (0, 0, 0)) (p2 := 50) rfl hs1_0.1 (by decide) rfl rfl ?_
  refine q_load (v := (0, 1, 0)) (p2 := 51) rfl rfl rfl rfl ?_
  refine q_iop (w := 0 ||| 1) (z := 1) (p2 := 52) rfl (xo_or 0 1) (by decide) rfl ?_
  refine q_putfE (v := (0, 1, 0)) (p2 := 53) rfl hs1_0.1 (by decide) rfl rfl (fun φ6 f6 hh6 hg6 ho6 fr6 => ?_)
  have hs6 := zq_F_put_471_13 hs1_0 hh6 hg6 ho6 fr6
  refine q_load (v := (6, 471, 0)) (p2 := 54) rfl rfl rfl rfl ?_
  refine q_getv (v := (0, 0, 0)) (p2 := 55) rfl hs6.1 (by decide) rfl rfl ?_
  refine q_if0_s (p2 := 56) rfl (by decide) (by omega) rfl (fun _ => ?_) (fun hb => absurd (show 0 = 0 by omega) hb)
  refine q_load (v := (6, 471, 0)) (p2 := 64) rfl rfl rfl rfl ?_
  refine q_getv (v := (0, 0, 0)) (p2 := 65) rfl hs6.1 (by decide) rfl rfl ?_
  refine q_const (p2 := 66) rfl rfl ?_
  refine q_icmp_s (p2 := 67) rfl (by decide) (by omega) (by omega) rfl (fun hb => absurd hb (show ¬ (¬ (0 < 440)) by omega)) (fun _ => ?_)
  refine q_load (v := (6, 471, 0)) (p2 := 68) rfl rfl rfl rfl ?_
  refine q_getv (v := (0, 0, 0)) (p2 := 69) rfl hs6.1 (by decide) rfl rfl ?_
  refine q_if0_s (p2 := 70) rfl (by decide) (by omega) rfl (fun hb => absurd hb (show ¬ (¬ (0 = 0)) by omega)) (fun _ => ?_)
  refine q_load (v := (6, 471, 0)) (p2 := 71) rfl rfl rfl rfl ?_
  refine q_getv (v := (6, 475, 0)) (p2 := 72) rfl hs6.1 (by decide) rfl rfl ?_
  refine q_load (v := (6, 471, 0)) (p2 := 73) rfl rfl rfl rfl ?_
  refine q_getv (v := (0, 0, 0)) (p2 := 74) rfl hs6.1 (by decide) rfl rfl ?_
  refine q_load (v := (6, 471, 0)) (p2 := 75) rfl rfl rfl rfl ?_
  refine q_getv (v := (6, 475, 0)) (p2 := 76) rfl hs6.1 (by decide) rfl rfl ?_
  refine q_load (v := (6, 471, 0)) (p2 := 77) rfl rfl rfl rfl ?_
  refine q_getv (v := (0, 0, 0)) (p2 := 78) rfl hs6.1 (by decide) rfl rfl ?_
  refine q_aldT (tag := 0) (v := 1) (p2 := 79) rfl hs6.2.2.2.1 (by omega) (by omega) (x_s_eq) rfl ?_
  refine q_if0_s (p2 := 80) rfl (by decide) (by omega) rfl (fun hb => absurd hb (show ¬ (1 = 0) by omega)) (fun _ => ?_)
  refine q_load (v := (0, 1, 0)) (p2 := 81) rfl rfl rfl rfl ?_
  refine q_if0_s (p2 := 82) rfl (by decide) (by omega) rfl (fun hb => absurd hb (show ¬ (1 = 0) by omega)) (fun _ => ?_)
  refine q_const (p2 := 83) rfl rfl ?_
  refine q_goto rfl ?_
  refine q_astE (v := (0, 1, 0)) (w := (0, 1, 0)) (p2 := 86) rfl hs6.2.2.2.1 (by omega) (by omega) (x_ok_0 rfl) (x_nv_3 (by omega)) rfl (fun φ7 f7 hh7 hg7 ho7 fr7 => ?_)
  have hs7 := zq_F_st_475 hs6 hh7 hg7 ho7 fr7
  refine q_load (v := (6, 471, 0)) (p2 := 87) rfl rfl rfl rfl ?_
  refine q_getv (v := (6, 474, 0)) (p2 := 88) rfl hs7.1 (by decide) rfl rfl ?_
  refine q_load (v := (6, 471, 0)) (p2 := 89) rfl rfl rfl rfl ?_
  refine q_getv (v := (0, 0, 0)) (p2 := 90) rfl hs7.1 (by decide) rfl rfl ?_
  refine q_dup2 (p2 := 91) rfl rfl rfl rfl ?_
  refine q_aldT (tag := 0) (v := 0) (p2 := 92) rfl hs7.2.2.1 (by omega) (by omega) (x_s_eq) rfl ?_
  refine q_load (v := (0, 1, 0)) (p2 := 93) rfl rfl rfl rfl ?_
  refine q_iop (w := 0 ||| 1) (z := 1) (p2 := 94) rfl (xo_or 0 1) (by decide) rfl ?_
  refine q_astE (v := (0, 1, 0)) (w := (0, 1, 0)) (p2 := 95) rfl hs7.2.2.1 (by omega) (by omega) (x_ok_0 rfl) (x_nv_same rfl (by decide)) rfl (fun φ8 f8 hh8 hg8 ho8 fr8 => ?_)
  have hs8 := zq_F_st_474 hs7 hh8 hg8 ho8 fr8
  refine q_load (v := (6, 471, 0)) (p2 := 96) rfl rfl rfl rfl ?_
  refine q_const (p2 := 97) rfl rfl ?_
  have hm9 := (zq_tp_at hB ((fr8 1 (by decide)).trans ((fr7 1 (by decide)).trans ((fr6 1 (by decide)).trans (fr1 1 (by decide))))))
  have hm10 := (zq_T_at hT ((fr8 2 (by decide)).trans ((fr7 2 (by decide)).trans ((fr6 2 (by decide)).trans (fr1 2 (by decide))))) ((fr8 3 (by decide)).trans ((fr7 3 (by decide)).trans ((fr6 3 (by decide)).trans (fr1 3 (by decide))))) ((fr8 4 (by decide)).trans ((fr7 4 (by decide)).trans ((fr6 4 (by decide)).trans (fr1 4 (by decide))))) ((fr8 5 (by decide)).trans ((fr7 5 (by decide)).trans ((fr6 5 (by decide)).trans (fr1 5 (by decide))))) ((fr8 6 (by decide)).trans ((fr7 6 (by decide)).trans ((fr6 6 (by decide)).trans (fr1 6 (by decide))))))
  have hm11 := (x_KS_at2 hm2 (fun j h1 h2 h3 h4 => ((fr8 j (by omega)).trans ((fr7 j (by omega)).trans (fr6 j (by omega))))))
  refine x_n_lt (fun hlt13 => ?_)
  have hm12 := (x_PS_at hm4 (fun j hj hne => by have hj2 := x_some_lt hlt5 hne; exact ((fr8 j (by omega)).trans ((fr7 j (by omega)).trans (fr6 j (by omega))))))
  have hm14 := (zq_nm_at hm3 ((fr8 239 (by decide)).trans ((fr7 239 (by decide)).trans (fr6 239 (by decide)))) ((fr8 242 (by decide)).trans ((fr7 242 (by decide)).trans (fr6 242 (by decide)))) ((fr8 244 (by decide)).trans ((fr7 244 (by decide)).trans (fr6 244 (by decide)))))
  refine q_callvE (xs := [(0, 40, 0), (6, 471, 0)]) (p2 := 98) rfl rfl rfl rfl (x_rcv_s 471 hs8.1) rfl (zc_fr_sign_18 hs8 hm9 hm10 hm11 hm12 hm14 hc0 hc1 hc2 hc3 hc4 hc5 hc6) (Nat.le_refl _) (Nat.le_refl _) rfl (fun φ15 hR15 => ?_)
  obtain ⟨hs15_0, fr15⟩ := hR15
  refine q_load (v := (6, 471, 0)) (p2 := 99) rfl rfl rfl rfl ?_
  refine q_getv (v := (6, 7, 0)) (p2 := 100) rfl hs15_0.1 (by decide) rfl rfl ?_
  refine x_n_lt (fun hlt17 => ?_)
  have hm16 := (x_PS_at hm12 (fun j hj hne => by have hj2 := x_some_lt hlt13 hne; exact (fr15 j (by omega))))
  refine q_getv (v := (6, 237, 0)) (p2 := 101) rfl hm16.1.choose_spec.1 (by decide) hm16.1.choose_spec.2.1 rfl ?_
  refine q_const (p2 := 102) rfl rfl ?_
  refine q_load (v := (0, 1, 0)) (p2 := 103) rfl rfl rfl rfl ?_
  have hm18 := (x_KS_at2 hm11 (fun j h1 h2 h3 h4 => (fr15 j (by omega))))
  refine q_callr (xs := [(0, 1, 0), (0, 0, 0), (6, 237, 0)]) (p2 := 104) rfl rfl rfl rfl (x_rcv_s 237 hm18.2.2.2.2.2.2.2.2.2.1.choose_spec.1) rfl (zc_fs_explicitFrom_23 hm18.2.2.2.2.2.2.2.2.2) (Nat.le_refl _) (Nat.le_refl _) rfl ?_
  refine q_store (loc2 := [(6, 471, 0), (0, 1, 0), (0, 3, 0), (0, 0, 0), (0, 1, 0), (0, 1, 0), (0, 1, 0), (0, 0, 0), (11, 0, 0), (11, 0, 0)]) (p2 := 105) rfl rfl rfl rfl rfl ?_
  refine q_const (p2 := 106) rfl rfl ?_
  refine q_store (loc2 := [(6, 471, 0), (0, 1, 0), (0, 3, 0), (0, 0, 0), (0, 1, 0), (0, 1, 0), (0, 1, 0), (0, 0, 0), (0, 0, 0), (11, 0, 0)]) (p2 := 107) rfl rfl rfl rfl rfl ?_
  refine q_const (p2 := 108) rfl rfl ?_
  refine q_store (loc2 := [(6, 471, 0), (0, 1, 0), (0, 3, 0), (0, 0, 0), (0, 1, 0), (0, 1, 0), (0, 1, 0), (0, 0, 0), (0, 0, 0), (0, 0, 0)]) (p2 := 109) rfl rfl rfl rfl rfl ?_
  refine q_load (v := (0, 0, 0)) (p2 := 110) rfl rfl rfl rfl ?_
  refine q_load (v := (6, 471, 0)) (p2 := 111) rfl rfl rfl rfl ?_
  refine q_getv (v := (0, 7, 0)) (p2 := 112) rfl hs15_0.1 (by decide) rfl rfl ?_
  refine q_icmp_s (p2 := 113) rfl (by decide) (by omega) (by omega) rfl (fun hb => absurd hb (show ¬ (¬ (0 < 7)) by omega)) (fun _ => ?_)
  refine q_load (v := (6, 471, 0)) (p2 := 114) rfl rfl rfl rfl ?_
  refine q_getv (v := (0, 0, 0)) (p2 := 115) rfl hs15_0.1 (by decide) rfl rfl ?_
  refine q_if0_s (p2 := 116) rfl (by decide) (by omega) rfl (fun hb => absurd hb (show ¬ (¬ (0 = 0)) by omega)) (fun _ => ?_)
  refine q_load (v := (0, 0, 0)) (p2 := 117) rfl rfl rfl rfl ?_
  refine q_if0_s (p2 := 118) rfl (by decide) (by omega) rfl (fun _ => ?_) (fun hb => absurd (show ¬ (0 < 0) by omega) hb)
  refine q_load (v := (6, 471, 0)) (p2 := 124) rfl rfl rfl rfl ?_
  have hm19 := (zq_tp_at hm9 (fr15 1 (by decide)))
  have hm20 := (zq_T_at hm10 (fr15 2 (by decide)) (fr15 3 (by decide)) (fr15 4 (by decide)) (fr15 5 (by decide)) (fr15 6 (by decide)))
  have hm21 := (zq_nm_at hm14 (fr15 239 (by decide)) (fr15 242 (by decide)) (fr15 244 (by decide)))
  refine q_callr (xs := [(6, 471, 0)]) (p2 := 125) rfl rfl rfl rfl (x_rcv_s 471 hs15_0.1) rfl (zc_fr_peek_22 hs15_0 hm19 hm20 hm18 hm16 hm21 hc0 hc1 hc2 hc3 hc4 hc5 hc6) (Nat.le_refl _) (Nat.le_refl _) rfl ?_
  refine q_const (p2 := 126) rfl rfl ?_
  refine q_icmp_s (p2 := 127) rfl (by decide) (by omega) (by omega) rfl (fun _ => ?_) (fun hb => absurd (show 41 = 41 by omega) hb)
  refine q_load (v := (6, 471, 0)) (p2 := 161) rfl rfl rfl rfl ?_
  refine q_getv (v := (0, 0, 0)) (p2 := 162) rfl hs15_0.1 (by decide) rfl rfl ?_
  refine q_if0_s (p2 := 163) rfl (by decide) (by omega) rfl (fun _ => ?_) (fun hb => absurd (show 0 = 0 by omega) hb)
  refine q_load (v := (6, 471, 0)) (p2 := 177) rfl rfl rfl rfl ?_
  refine q_const (p2 := 178) rfl rfl ?_
  refine q_callvE (xs := [(0, 41, 0), (6, 471, 0)]) (p2 := 179) rfl rfl rfl rfl (x_rcv_s 471 hs15_0.1) rfl (zc_fr_sign_24 hs15_0 hm19 hm20 hm18 hm16 hm21 hc0 hc1 hc2 hc3 hc4 hc5 hc6) (Nat.le_refl _) (Nat.le_refl _) rfl (fun φ22 hR22 => ?_)
  obtain ⟨hs22_0, fr22⟩ := hR22
  exact q_ret rfl (⟨rfl, rfl, rfl, hs22_0, fun j hj0 hj1 hj2 => ((fr22 j (by omega)).trans ((fr15 j (by omega)).trans ((fr8 j (by omega)).trans ((fr7 j (by omega)).trans ((fr6 j (by omega)).trans (fr1 j (by omega)))))))⟩)
theorem zc_fr_peek_29 {d n sl : Nat} {φ : FH} {A : Nat} {B : Nat} {K : Nat → Nat} {P : Nat → Nat} {V : Nat → Nat} {at_ : Nat} {co : Nat → Nat} {comb : Nat → Nat} {cur : Nat} {fa : Nat} {fbi : Nat} {fcl : Nat → Nat} {fco : Nat → Nat} {ffp : Nat} {fki : Nat} {fl : Nat → Nat} {fnu : Nat → Nat} {fp : Nat} {fr_ : Nat} {fso : Nat → Nat} {ftc : Nat} {ftf : Nat} {ftn : Nat → Nat} {hm : Nat → MV} {lo : Nat → Nat} {made : Nat} {mi : Nat} {mm : Nat} {no : Nat} {op : Nat} {pc_ : Nat} {pl : Nat} {re : Nat → Nat} {rs : Nat → Nat} {s9 : Nat} {se : Nat → Nat} {sf : Nat} {sp : Nat} {st : Nat → Nat} {sv : Nat} {svm : Nat} {top_ : Nat} {tot : Nat} {tp : Nat → Nat} {va : Nat} (hF : zq_F φ 1 7 7 0 0 ffp 1 0 1 fki fbi ftc ftf (x_s fnu 0 1) (x_s (x_s fco 0 0) 0 1) (x_s (x_s fso 0 1) 0 1) fcl ftn) (hB : zq_tp φ tp) (hT : zq_T φ tot at_ cur pl va fa fp sf sp no op K P V) (hKS : x_KS φ top_ fr_ pc_ mm mi st lo re rs fl se co) (hPS : x_PS φ A B made sv svm s9 comb hm) (hN : zq_nm φ) (hc0 : tp 0 = 35) (hc1 : tp 1 = 49) (hc2 : tp 2 = 61) (hc3 : tp 3 = 97) (hc4 : tp 4 = 40) (hc5 : tp 5 = 41) (hc6 : tp 6 = 59) : x_f x_P (d + 1) 138 [(6, 471, 0)] φ n sl (x_r φ n sl (0, 4294967295, 0)) := by
  refine x_f_of rfl ?_
  refine x_n_lt (fun hlt0 => ?_)
  refine q_load (v := (6, 471, 0)) (p2 := 1) rfl rfl rfl rfl ?_
  refine q_getv (v := (0, 7, 0)) (p2 := 2) rfl hF.1 (by decide) rfl rfl ?_
  refine q_if0_s (p2 := 3) rfl (by decide) (by omega) rfl (fun hb => absurd hb (show ¬ (7 < 0) by omega)) (fun _ => ?_)
  refine q_load (v := (6, 471, 0)) (p2 := 4) rfl rfl rfl rfl ?_
  refine q_getv (v := (0, 7, 0)) (p2 := 5) rfl hF.1 (by decide) rfl rfl ?_
  refine q_load (v := (6, 471, 0)) (p2 := 6) rfl rfl rfl rfl ?_
  refine q_getv (v := (0, 7, 0)) (p2 := 7) rfl hF.1 (by decide) rfl rfl ?_
  refine q_icmp_s (p2 := 8) rfl (by decide) (by omega) (by omega) rfl (fun _ => ?_) (fun hb => absurd (show ¬ (7 < 7) by omega) hb)
  refine q_const (p2 := 23) rfl rfl ?_
  exact q_retv (v := (0, 4294967295, 0)) rfl rfl (⟨rfl, rfl, rfl, rfl, rfl⟩)
theorem zc_a_87_4294967295 {d n sl : Nat} {φ : FH}    : x_f x_P (d + 1) 87 [(0, 4294967295, 0)] φ n sl (x_r φ n sl (0, 0, 0)) := by
  refine x_f_of rfl ?_
  refine q_load (v := (0, 4294967295, 0)) (p2 := 1) rfl rfl rfl rfl ?_
  refine q_const (p2 := 2) rfl rfl ?_
  refine q_icmp (p2 := 3) rfl (by decide) rfl (fun hb => absurd hb (show ¬ (2147483647 = 2147483680) by decide)) (fun _ => ?_)
  refine q_load (v := (0, 4294967295, 0)) (p2 := 4) rfl rfl rfl rfl ?_
  refine q_const (p2 := 5) rfl rfl ?_
  refine q_icmp (p2 := 6) rfl (by decide) rfl (fun _ => ?_) (fun hb => absurd (show ¬ (2147483647 = 2147483658) by decide) hb)
  refine q_const (p2 := 9) rfl rfl ?_
  exact q_retv (v := (0, 0, 0)) rfl rfl (⟨rfl, rfl, rfl, rfl, rfl⟩)
theorem zc_fr_blanks_28 {d n sl : Nat} {φ : FH} {A : Nat} {B : Nat} {K : Nat → Nat} {P : Nat → Nat} {V : Nat → Nat} {at_ : Nat} {co : Nat → Nat} {comb : Nat → Nat} {cur : Nat} {fa : Nat} {fbi : Nat} {fcl : Nat → Nat} {fco : Nat → Nat} {ffp : Nat} {fki : Nat} {fl : Nat → Nat} {fnu : Nat → Nat} {fp : Nat} {fr_ : Nat} {fso : Nat → Nat} {ftc : Nat} {ftf : Nat} {ftn : Nat → Nat} {hm : Nat → MV} {lo : Nat → Nat} {made : Nat} {mi : Nat} {mm : Nat} {no : Nat} {op : Nat} {pc_ : Nat} {pl : Nat} {re : Nat → Nat} {rs : Nat → Nat} {s9 : Nat} {se : Nat → Nat} {sf : Nat} {sp : Nat} {st : Nat → Nat} {sv : Nat} {svm : Nat} {top_ : Nat} {tot : Nat} {tp : Nat → Nat} {va : Nat} (hF : zq_F φ 1 7 7 0 0 ffp 1 0 1 fki fbi ftc ftf (x_s fnu 0 1) (x_s (x_s fco 0 0) 0 1) (x_s (x_s fso 0 1) 0 1) fcl ftn) (hB : zq_tp φ tp) (hT : zq_T φ tot at_ cur pl va fa fp sf sp no op K P V) (hKS : x_KS φ top_ fr_ pc_ mm mi st lo re rs fl se co) (hPS : x_PS φ A B made sv svm s9 comb hm) (hN : zq_nm φ) (hc0 : tp 0 = 35) (hc1 : tp 1 = 49) (hc2 : tp 2 = 61) (hc3 : tp 3 = 97) (hc4 : tp 4 = 40) (hc5 : tp 5 = 41) (hc6 : tp 6 = 59) : x_f x_P (d + 2) 133 [(6, 471, 0), (11, 0, 0)] φ n sl (x_v φ n sl) := by
  refine x_f_of rfl ?_
  refine x_n_lt (fun hlt0 => ?_)
  refine q_const (p2 := 1) rfl rfl ?_
  refine q_store (loc2 := [(6, 471, 0), (0, 0, 0)]) (p2 := 2) rfl rfl rfl rfl rfl ?_
  refine q_load (v := (0, 0, 0)) (p2 := 3) rfl rfl rfl rfl ?_
  refine q_load (v := (6, 471, 0)) (p2 := 4) rfl rfl rfl rfl ?_
  refine q_getv (v := (0, 7, 0)) (p2 := 5) rfl hF.1 (by decide) rfl rfl ?_
  refine q_icmp_s (p2 := 6) rfl (by decide) (by omega) (by omega) rfl (fun hb => absurd hb (show ¬ (¬ (0 < 7)) by omega)) (fun _ => ?_)
  refine q_load (v := (6, 471, 0)) (p2 := 7) rfl rfl rfl rfl ?_
  refine q_callr (xs := [(6, 471, 0)]) (p2 := 8) rfl rfl rfl rfl (x_rcv_s 471 hF.1) rfl (zc_fr_peek_29 hF hB hT hKS hPS hN hc0 hc1 hc2 hc3 hc4 hc5 hc6) (Nat.le_refl _) (Nat.le_refl _) rfl ?_
  refine q_callr (xs := [(0, 4294967295, 0)]) (p2 := 9) rfl rfl rfl rfl (fun _ _ => rfl) rfl (zc_a_87_4294967295 ) (Nat.le_refl _) (Nat.le_refl _) rfl ?_
  refine q_if0_s (p2 := 10) rfl (by decide) (by omega) rfl (fun _ => ?_) (fun hb => absurd (show 0 = 0 by omega) hb)
  exact q_ret rfl (⟨rfl, rfl, rfl, rfl⟩)
theorem zc_fr_sign_27 {d n sl : Nat} {φ : FH} {A : Nat} {B : Nat} {K : Nat → Nat} {P : Nat → Nat} {V : Nat → Nat} {at_ : Nat} {co : Nat → Nat} {comb : Nat → Nat} {cur : Nat} {fa : Nat} {fbi : Nat} {fcl : Nat → Nat} {fco : Nat → Nat} {ffp : Nat} {fki : Nat} {fl : Nat → Nat} {fnu : Nat → Nat} {fp : Nat} {fr_ : Nat} {fso : Nat → Nat} {ftc : Nat} {ftf : Nat} {ftn : Nat → Nat} {hm : Nat → MV} {lo : Nat → Nat} {made : Nat} {mi : Nat} {mm : Nat} {no : Nat} {op : Nat} {pc_ : Nat} {pl : Nat} {re : Nat → Nat} {rs : Nat → Nat} {s9 : Nat} {se : Nat → Nat} {sf : Nat} {sp : Nat} {st : Nat → Nat} {sv : Nat} {svm : Nat} {top_ : Nat} {tot : Nat} {tp : Nat → Nat} {va : Nat} (hF : zq_F φ 1 7 6 0 0 ffp 1 0 1 fki fbi ftc ftf (x_s fnu 0 1) (x_s (x_s fco 0 0) 0 1) (x_s (x_s fso 0 1) 0 1) fcl ftn) (hB : zq_tp φ tp) (hT : zq_T φ tot at_ cur pl va fa fp sf sp no op K P V) (hKS : x_KS φ top_ fr_ pc_ mm mi st lo re rs fl se co) (hPS : x_PS φ A B made sv svm s9 comb hm) (hN : zq_nm φ) (hc0 : tp 0 = 35) (hc1 : tp 1 = 49) (hc2 : tp 2 = 61) (hc3 : tp 3 = 97) (hc4 : tp 4 = 40) (hc5 : tp 5 = 41) (hc6 : tp 6 = 59) : x_f x_P (d + 3) 137 [(6, 471, 0), (0, 59, 0)] φ n sl (x_vR n sl (fun φ2 => zq_F φ2 1 7 7 0 0 ffp 1 0 1 fki fbi ftc ftf (x_s fnu 0 1) (x_s (x_s fco 0 0) 0 1) (x_s (x_s fso 0 1) 0 1) fcl ftn ∧ ∀ j, j ≠ 471 → φ2 j = φ j)) := by
  refine x_f_of rfl ?_
  refine x_n_lt (fun hlt0 => ?_)
  refine q_load (v := (6, 471, 0)) (p2 := 1) rfl rfl rfl rfl ?_
  refine q_callv (xs := [(6, 471, 0)]) (p2 := 2) rfl rfl rfl rfl (x_rcv_s 471 hF.1) rfl (zc_fr_blanks_25 hF hB hT hKS hPS hN hc0 hc1 hc2 hc3 hc4 hc5 hc6) (Nat.le_refl _) (Nat.le_refl _) rfl ?_
  refine q_load (v := (6, 471, 0)) (p2 := 3) rfl rfl rfl rfl ?_
  refine q_callr (xs := [(6, 471, 0)]) (p2 := 4) rfl rfl rfl rfl (x_rcv_s 471 hF.1) rfl (zc_fr_peek_26 hF hB hT hKS hPS hN hc0 hc1 hc2 hc3 hc4 hc5 hc6) (Nat.le_refl _) (Nat.le_refl _) rfl ?_
  refine q_load (v := (0, 59, 0)) (p2 := 5) rfl rfl rfl rfl ?_
  refine q_icmp_s (p2 := 6) rfl (by decide) (by omega) (by omega) rfl (fun _ => ?_) (fun hb => absurd (show 59 = 59 by omega) hb)
  refine q_load (v := (6, 471, 0)) (p2 := 13) rfl rfl rfl rfl ?_
  refine q_getv (v := (0, 0, 0)) (p2 := 14) rfl hF.1 (by decide) rfl rfl ?_
  refine q_if0_s (p2 := 15) rfl (by decide) (by omega) rfl (fun hb => absurd hb (show ¬ (¬ (0 = 0)) by omega)) (fun _ => ?_)
  refine q_load (v := (6, 471, 0)) (p2 := 16) rfl rfl rfl rfl ?_
  refine q_dup (p2 := 17) rfl rfl rfl ?_
  refine q_getv (v := (0, 6, 0)) (p2 := 18) rfl hF.1 (by decide) rfl rfl ?_
  refine q_const (p2 := 19) rfl rfl ?_
  refine q_iop (w := 6 + 1) (z := 7) (p2 := 20) rfl (xo_add 6 1) (by decide) rfl ?_
  refine q_putfE (v := (0, 7, 0)) (p2 := 21) rfl hF.1 (by decide) rfl rfl (fun φ1 f1 hh1 hg1 ho1 fr1 => ?_)
  have hs1 := zq_F_put_471_4 hF hh1 hg1 ho1 fr1
  refine q_load (v := (6, 471, 0)) (p2 := 22) rfl rfl rfl rfl ?_
  have hm2 := (zq_tp_at hB (fr1 1 (by decide)))
  have hm3 := (zq_T_at hT (fr1 2 (by decide)) (fr1 3 (by decide)) (fr1 4 (by decide)) (fr1 5 (by decide)) (fr1 6 (by decide)))
  have hm4 := (x_KS_at2 hKS (fun j h1 h2 h3 h4 => (fr1 j (by omega))))
  refine x_n_lt (fun hlt6 => ?_)
  have hm5 := (x_PS_at hPS (fun j hj hne => by have hj2 := x_some_lt hlt0 hne; exact (fr1 j (by omega))))
  have hm7 := (zq_nm_at hN (fr1 239 (by decide)) (fr1 242 (by decide)) (fr1 244 (by decide)))
  refine q_callv (xs := [(6, 471, 0)]) (p2 := 23) rfl rfl rfl rfl (x_rcv_s 471 hs1.1) rfl (zc_fr_blanks_28 hs1 hm2 hm3 hm4 hm5 hm7 hc0 hc1 hc2 hc3 hc4 hc5 hc6) (Nat.le_refl _) (Nat.le_refl _) rfl ?_
  exact q_ret rfl (⟨rfl, rfl, rfl, hs1, fun j hj0 => (fr1 j (by omega))⟩)
theorem zc_fr_goesOn_30 {d n sl : Nat} {φ : FH} {A : Nat} {B : Nat} {K : Nat → Nat} {P : Nat → Nat} {V : Nat → Nat} {at_ : Nat} {co : Nat → Nat} {comb : Nat → Nat} {cur : Nat} {fa : Nat} {fbi : Nat} {fcl : Nat → Nat} {fco : Nat → Nat} {ffp : Nat} {fki : Nat} {fl : Nat → Nat} {fnu : Nat → Nat} {fp : Nat} {fr_ : Nat} {fso : Nat → Nat} {ftc : Nat} {ftf : Nat} {ftn : Nat → Nat} {hm : Nat → MV} {lo : Nat → Nat} {made : Nat} {mi : Nat} {mm : Nat} {no : Nat} {op : Nat} {pc_ : Nat} {pl : Nat} {re : Nat → Nat} {rs : Nat → Nat} {s9 : Nat} {se : Nat → Nat} {sf : Nat} {sp : Nat} {st : Nat → Nat} {sv : Nat} {svm : Nat} {top_ : Nat} {tot : Nat} {tp : Nat → Nat} {va : Nat} (hF : zq_F φ 1 7 7 0 0 ffp 1 1 1 fki fbi ftc ftf (x_s fnu 0 1) (x_s (x_s fco 0 0) 0 1) (x_s (x_s fso 0 1) 0 1) fcl ftn) (hB : zq_tp φ tp) (hT : zq_T φ tot at_ cur pl va fa fp sf sp no op K P V) (hKS : x_KS φ top_ fr_ pc_ mm mi st lo re rs fl se co) (hPS : x_PS φ A B made sv svm s9 comb hm) (hN : zq_nm φ) (hc0 : tp 0 = 35) (hc1 : tp 1 = 49) (hc2 : tp 2 = 61) (hc3 : tp 3 = 97) (hc4 : tp 4 = 40) (hc5 : tp 5 = 41) (hc6 : tp 6 = 59) : x_f x_P (d + 1) 83 [(6, 471, 0)] φ n sl (x_r φ n sl (0, 0, 0)) := by
  refine x_f_of rfl ?_
  refine x_n_lt (fun hlt0 => ?_)
  refine q_load (v := (6, 471, 0)) (p2 := 1) rfl rfl rfl rfl ?_
  refine q_getv (v := (0, 0, 0)) (p2 := 2) rfl hF.1 (by decide) rfl rfl ?_
  refine q_if0_s (p2 := 3) rfl (by decide) (by omega) rfl (fun hb => absurd hb (show ¬ (¬ (0 = 0)) by omega)) (fun _ => ?_)
  refine q_load (v := (6, 471, 0)) (p2 := 4) rfl rfl rfl rfl ?_
  refine q_getv (v := (0, 7, 0)) (p2 := 5) rfl hF.1 (by decide) rfl rfl ?_
  refine q_load (v := (6, 471, 0)) (p2 := 6) rfl rfl rfl rfl ?_
  refine q_getv (v := (0, 7, 0)) (p2 := 7) rfl hF.1 (by decide) rfl rfl ?_
  refine q_icmp_s (p2 := 8) rfl (by decide) (by omega) (by omega) rfl (fun _ => ?_) (fun hb => absurd (show ¬ (7 < 7) by omega) hb)
  refine q_const (p2 := 11) rfl rfl ?_
  exact q_retv (v := (0, 0, 0)) rfl rfl (⟨rfl, rfl, rfl, rfl, rfl⟩)
theorem zc_fr_peek_32 {d n sl : Nat} {φ : FH} {A : Nat} {B : Nat} {K : Nat → Nat} {P : Nat → Nat} {V : Nat → Nat} {at_ : Nat} {co : Nat → Nat} {comb : Nat → Nat} {cur : Nat} {fa : Nat} {fbi : Nat} {fcl : Nat → Nat} {fco : Nat → Nat} {ffp : Nat} {fki : Nat} {fl : Nat → Nat} {fnu : Nat → Nat} {fp : Nat} {fr_ : Nat} {fso : Nat → Nat} {ftc : Nat} {ftf : Nat} {ftn : Nat → Nat} {hm : Nat → MV} {lo : Nat → Nat} {made : Nat} {mi : Nat} {mm : Nat} {no : Nat} {op : Nat} {pc_ : Nat} {pl : Nat} {re : Nat → Nat} {rs : Nat → Nat} {s9 : Nat} {se : Nat → Nat} {sf : Nat} {sp : Nat} {st : Nat → Nat} {sv : Nat} {svm : Nat} {top_ : Nat} {tot : Nat} {tp : Nat → Nat} {va : Nat} (hF : zq_F φ 1 7 0 1 0 ffp 1 0 1 fki fbi ftc ftf (x_s fnu 0 1) (x_s (x_s fco 0 0) 0 1) (x_s (x_s fso 0 1) 0 1) fcl ftn) (hB : zq_tp φ tp) (hT : zq_T φ tot at_ cur pl va fa fp sf sp no op K P V) (hKS : x_KS φ top_ fr_ pc_ mm mi st lo re rs fl se co) (hPS : x_PS φ A B made sv svm s9 (x_s comb made 1) hm) (hN : zq_nm φ) (hc0 : tp 0 = 35) (hc1 : tp 1 = 49) (hc2 : tp 2 = 61) (hc3 : tp 3 = 97) (hc4 : tp 4 = 40) (hc5 : tp 5 = 41) (hc6 : tp 6 = 59) : x_f x_P (d + 1) 138 [(6, 471, 0)] φ n sl (x_r φ n sl (0, 35, 0)) := by
  refine x_f_of rfl ?_
  refine x_n_lt (fun hlt0 => ?_)
  refine q_load (v := (6, 471, 0)) (p2 := 1) rfl rfl rfl rfl ?_
  refine q_getv (v := (0, 0, 0)) (p2 := 2) rfl hF.1 (by decide) rfl rfl ?_
  refine q_if0_s (p2 := 3) rfl (by decide) (by omega) rfl (fun hb => absurd hb (show ¬ (0 < 0) by omega)) (fun _ => ?_)
  refine q_load (v := (6, 471, 0)) (p2 := 4) rfl rfl rfl rfl ?_
  refine q_getv (v := (0, 0, 0)) (p2 := 5) rfl hF.1 (by decide) rfl rfl ?_
  refine q_load (v := (6, 471, 0)) (p2 := 6) rfl rfl rfl rfl ?_
  refine q_getv (v := (0, 7, 0)) (p2 := 7) rfl hF.1 (by decide) rfl rfl ?_
  refine q_icmp_s (p2 := 8) rfl (by decide) (by omega) (by omega) rfl (fun hb => absurd hb (show ¬ (¬ (0 < 7)) by omega)) (fun _ => ?_)
  refine q_load (v := (6, 471, 0)) (p2 := 9) rfl rfl rfl rfl ?_
  refine q_getv (v := (0, 0, 0)) (p2 := 10) rfl hF.1 (by decide) rfl rfl ?_
  refine q_load (v := (6, 471, 0)) (p2 := 11) rfl rfl rfl rfl ?_
  refine q_getv (v := (6, 1, 0)) (p2 := 12) rfl hF.1 (by decide) rfl rfl ?_
  refine q_alen (p2 := 13) rfl hB rfl (by omega) rfl ?_
  refine q_icmp_s (p2 := 14) rfl (by decide) (by omega) (by omega) rfl (fun hb => absurd hb (show ¬ (¬ (0 < 3000)) by omega)) (fun _ => ?_)
  refine q_load (v := (6, 471, 0)) (p2 := 15) rfl rfl rfl rfl ?_
  refine q_getv (v := (6, 1, 0)) (p2 := 16) rfl hF.1 (by decide) rfl rfl ?_
  refine q_load (v := (6, 471, 0)) (p2 := 17) rfl rfl rfl rfl ?_
  refine q_getv (v := (0, 0, 0)) (p2 := 18) rfl hF.1 (by decide) rfl rfl ?_
  refine q_aldT (tag := 0) (v := 35) (p2 := 19) rfl hB (by omega) (by omega) hc0 rfl ?_
  refine q_const (p2 := 20) rfl rfl ?_
  refine q_iop (w := 35 &&& 255) (z := 35) (p2 := 21) rfl (xo_and 35 255) (by decide) rfl ?_
  refine q_goto rfl ?_
  exact q_retv (v := (0, 35, 0)) rfl rfl (⟨rfl, rfl, rfl, rfl, rfl⟩)
theorem zc_fr_blanks_31 {d n sl : Nat} {φ : FH} {A : Nat} {B : Nat} {K : Nat → Nat} {P : Nat → Nat} {V : Nat → Nat} {at_ : Nat} {co : Nat → Nat} {comb : Nat → Nat} {cur : Nat} {fa : Nat} {fbi : Nat} {fcl : Nat → Nat} {fco : Nat → Nat} {ffp : Nat} {fki : Nat} {fl : Nat → Nat} {fnu : Nat → Nat} {fp : Nat} {fr_ : Nat} {fso : Nat → Nat} {ftc : Nat} {ftf : Nat} {ftn : Nat → Nat} {hm : Nat → MV} {lo : Nat → Nat} {made : Nat} {mi : Nat} {mm : Nat} {no : Nat} {op : Nat} {pc_ : Nat} {pl : Nat} {re : Nat → Nat} {rs : Nat → Nat} {s9 : Nat} {se : Nat → Nat} {sf : Nat} {sp : Nat} {st : Nat → Nat} {sv : Nat} {svm : Nat} {top_ : Nat} {tot : Nat} {tp : Nat → Nat} {va : Nat} (hF : zq_F φ 1 7 0 1 0 ffp 1 0 1 fki fbi ftc ftf (x_s fnu 0 1) (x_s (x_s fco 0 0) 0 1) (x_s (x_s fso 0 1) 0 1) fcl ftn) (hB : zq_tp φ tp) (hT : zq_T φ tot at_ cur pl va fa fp sf sp no op K P V) (hKS : x_KS φ top_ fr_ pc_ mm mi st lo re rs fl se co) (hPS : x_PS φ A B made sv svm s9 (x_s comb made 1) hm) (hN : zq_nm φ) (hc0 : tp 0 = 35) (hc1 : tp 1 = 49) (hc2 : tp 2 = 61) (hc3 : tp 3 = 97) (hc4 : tp 4 = 40) (hc5 : tp 5 = 41) (hc6 : tp 6 = 59) : x_f x_P (d + 2) 133 [(6, 471, 0), (11, 0, 0)] φ n sl (x_v φ n sl) := by
  refine x_f_of rfl ?_
  refine x_n_lt (fun hlt0 => ?_)
  refine q_const (p2 := 1) rfl rfl ?_
  refine q_store (loc2 := [(6, 471, 0), (0, 0, 0)]) (p2 := 2) rfl rfl rfl rfl rfl ?_
  refine q_load (v := (0, 0, 0)) (p2 := 3) rfl rfl rfl rfl ?_
  refine q_load (v := (6, 471, 0)) (p2 := 4) rfl rfl rfl rfl ?_
  refine q_getv (v := (0, 7, 0)) (p2 := 5) rfl hF.1 (by decide) rfl rfl ?_
  refine q_icmp_s (p2 := 6) rfl (by decide) (by omega) (by omega) rfl (fun hb => absurd hb (show ¬ (¬ (0 < 7)) by omega)) (fun _ => ?_)
  refine q_load (v := (6, 471, 0)) (p2 := 7) rfl rfl rfl rfl ?_
  refine q_callr (xs := [(6, 471, 0)]) (p2 := 8) rfl rfl rfl rfl (x_rcv_s 471 hF.1) rfl (zc_fr_peek_32 hF hB hT hKS hPS hN hc0 hc1 hc2 hc3 hc4 hc5 hc6) (Nat.le_refl _) (Nat.le_refl _) rfl ?_
  refine q_callr (xs := [(0, 35, 0)]) (p2 := 9) rfl rfl rfl rfl (fun _ _ => rfl) rfl (zc_a_87_35 ) (Nat.le_refl _) (Nat.le_refl _) rfl ?_
  refine q_if0_s (p2 := 10) rfl (by decide) (by omega) rfl (fun _ => ?_) (fun hb => absurd (show 0 = 0 by omega) hb)
  exact q_ret rfl (⟨rfl, rfl, rfl, rfl⟩)
theorem zc_fr_goesOn_33 {d n sl : Nat} {φ : FH} {A : Nat} {B : Nat} {K : Nat → Nat} {P : Nat → Nat} {V : Nat → Nat} {at_ : Nat} {co : Nat → Nat} {comb : Nat → Nat} {cur : Nat} {fa : Nat} {fbi : Nat} {fcl : Nat → Nat} {fco : Nat → Nat} {ffp : Nat} {fki : Nat} {fl : Nat → Nat} {fnu : Nat → Nat} {fp : Nat} {fr_ : Nat} {fso : Nat → Nat} {ftc : Nat} {ftf : Nat} {ftn : Nat → Nat} {hm : Nat → MV} {lo : Nat → Nat} {made : Nat} {mi : Nat} {mm : Nat} {no : Nat} {op : Nat} {pc_ : Nat} {pl : Nat} {re : Nat → Nat} {rs : Nat → Nat} {s9 : Nat} {se : Nat → Nat} {sf : Nat} {sp : Nat} {st : Nat → Nat} {sv : Nat} {svm : Nat} {top_ : Nat} {tot : Nat} {tp : Nat → Nat} {va : Nat} (hF : zq_F φ 1 7 0 1 0 ffp 1 0 1 fki fbi ftc ftf (x_s fnu 0 1) (x_s (x_s fco 0 0) 0 1) (x_s (x_s fso 0 1) 0 1) fcl ftn) (hB : zq_tp φ tp) (hT : zq_T φ tot at_ cur pl va fa fp sf sp no op K P V) (hKS : x_KS φ top_ fr_ pc_ mm mi st lo re rs fl se co) (hPS : x_PS φ A B made sv svm s9 (x_s comb made 1) hm) (hN : zq_nm φ) (hc0 : tp 0 = 35) (hc1 : tp 1 = 49) (hc2 : tp 2 = 61) (hc3 : tp 3 = 97) (hc4 : tp 4 = 40) (hc5 : tp 5 = 41) (hc6 : tp 6 = 59) : x_f x_P (d + 1) 83 [(6, 471, 0)] φ n sl (x_r φ n sl (0, 1, 0)) := by
  refine x_f_of rfl ?_
  refine x_n_lt (fun hlt0 => ?_)
  refine q_load (v := (6, 471, 0)) (p2 := 1) rfl rfl rfl rfl ?_
  refine q_getv (v := (0, 0, 0)) (p2 := 2) rfl hF.1 (by decide) rfl rfl ?_
  refine q_if0_s (p2 := 3) rfl (by decide) (by omega) rfl (fun hb => absurd hb (show ¬ (¬ (0 = 0)) by omega)) (fun _ => ?_)
  refine q_load (v := (6, 471, 0)) (p2 := 4) rfl rfl rfl rfl ?_
  refine q_getv (v := (0, 0, 0)) (p2 := 5) rfl hF.1 (by decide) rfl rfl ?_
  refine q_load (v := (6, 471, 0)) (p2 := 6) rfl rfl rfl rfl ?_
  refine q_getv (v := (0, 7, 0)) (p2 := 7) rfl hF.1 (by decide) rfl rfl ?_
  refine q_icmp_s (p2 := 8) rfl (by decide) (by omega) (by omega) rfl (fun hb => absurd hb (show ¬ (¬ (0 < 7)) by omega)) (fun _ => ?_)
  refine q_const (p2 := 9) rfl rfl ?_
  refine q_goto rfl ?_
  exact q_retv (v := (0, 1, 0)) rfl rfl (⟨rfl, rfl, rfl, rfl, rfl⟩)
theorem zc_fr_expect_35 {d n sl : Nat} {φ : FH} {A : Nat} {B : Nat} {K : Nat → Nat} {P : Nat → Nat} {V : Nat → Nat} {at_ : Nat} {co : Nat → Nat} {comb : Nat → Nat} {cur : Nat} {fa : Nat} {fbi : Nat} {fcl : Nat → Nat} {fco : Nat → Nat} {ffp : Nat} {fki : Nat} {fl : Nat → Nat} {fnu : Nat → Nat} {fp : Nat} {fr_ : Nat} {fso : Nat → Nat} {ftc : Nat} {ftf : Nat} {ftn : Nat → Nat} {hm : Nat → MV} {lo : Nat → Nat} {made : Nat} {mi : Nat} {mm : Nat} {no : Nat} {op : Nat} {pc_ : Nat} {pl : Nat} {re : Nat → Nat} {rs : Nat → Nat} {s9 : Nat} {se : Nat → Nat} {sf : Nat} {sp : Nat} {st : Nat → Nat} {sv : Nat} {svm : Nat} {top_ : Nat} {tot : Nat} {tp : Nat → Nat} {va : Nat} (hF : zq_F φ 1 7 0 1 0 ffp 1 0 1 fki fbi ftc ftf (x_s fnu 0 1) (x_s (x_s fco 0 0) 0 1) (x_s (x_s fso 0 1) 0 1) fcl ftn) (hB : zq_tp φ tp) (hT : zq_T φ tot at_ cur pl va fa fp sf sp no op K P V) (hKS : x_KS φ top_ fr_ pc_ mm mi st lo re rs fl se co) (hPS : x_PS φ A B made sv svm s9 (x_s comb made 1) hm) (hN : zq_nm φ) (hc0 : tp 0 = 35) (hc1 : tp 1 = 49) (hc2 : tp 2 = 61) (hc3 : tp 3 = 97) (hc4 : tp 4 = 40) (hc5 : tp 5 = 41) (hc6 : tp 6 = 59) : x_f x_P (d + 2) 213 [(6, 471, 0), (0, 35, 0)] φ n sl (x_vR n sl (fun φ2 => zq_F φ2 1 7 1 1 0 ffp 1 0 1 fki fbi ftc ftf (x_s fnu 0 1) (x_s (x_s fco 0 0) 0 1) (x_s (x_s fso 0 1) 0 1) fcl ftn ∧ ∀ j, j ≠ 471 → φ2 j = φ j)) := by
  refine x_f_of rfl ?_
  refine x_n_lt (fun hlt0 => ?_)
  refine q_load (v := (6, 471, 0)) (p2 := 1) rfl rfl rfl rfl ?_
  refine q_callr (xs := [(6, 471, 0)]) (p2 := 2) rfl rfl rfl rfl (x_rcv_s 471 hF.1) rfl (zc_fr_peek_32 hF hB hT hKS hPS hN hc0 hc1 hc2 hc3 hc4 hc5 hc6) (Nat.le_refl _) (Nat.le_refl _) rfl ?_
  refine q_load (v := (0, 35, 0)) (p2 := 3) rfl rfl rfl rfl ?_
  refine q_icmp_s (p2 := 4) rfl (by decide) (by omega) (by omega) rfl (fun _ => ?_) (fun hb => absurd (show 35 = 35 by omega) hb)
  refine q_load (v := (6, 471, 0)) (p2 := 11) rfl rfl rfl rfl ?_
  refine q_getv (v := (0, 0, 0)) (p2 := 12) rfl hF.1 (by decide) rfl rfl ?_
  refine q_if0_s (p2 := 13) rfl (by decide) (by omega) rfl (fun hb => absurd hb (show ¬ (¬ (0 = 0)) by omega)) (fun _ => ?_)
  refine q_load (v := (6, 471, 0)) (p2 := 14) rfl rfl rfl rfl ?_
  refine q_dup (p2 := 15) rfl rfl rfl ?_
  refine q_getv (v := (0, 0, 0)) (p2 := 16) rfl hF.1 (by decide) rfl rfl ?_
  refine q_const (p2 := 17) rfl rfl ?_
  refine q_iop (w := 0 + 1) (z := 1) (p2 := 18) rfl (xo_add 0 1) (by decide) rfl ?_
  refine q_putfE (v := (0, 1, 0)) (p2 := 19) rfl hF.1 (by decide) rfl rfl (fun φ1 f1 hh1 hg1 ho1 fr1 => ?_)
  have hs1 := zq_F_put_471_4 hF hh1 hg1 ho1 fr1
  exact q_ret rfl (⟨rfl, rfl, rfl, hs1, fun j hj0 => (fr1 j (by omega))⟩)
theorem zc_fr_peek_36 {d n sl : Nat} {φ : FH} {A : Nat} {B : Nat} {K : Nat → Nat} {P : Nat → Nat} {V : Nat → Nat} {at_ : Nat} {co : Nat → Nat} {comb : Nat → Nat} {cur : Nat} {fa : Nat} {fbi : Nat} {fcl : Nat → Nat} {fco : Nat → Nat} {ffp : Nat} {fki : Nat} {fl : Nat → Nat} {fnu : Nat → Nat} {fp : Nat} {fr_ : Nat} {fso : Nat → Nat} {ftc : Nat} {ftf : Nat} {ftn : Nat → Nat} {hm : Nat → MV} {lo : Nat → Nat} {made : Nat} {mi : Nat} {mm : Nat} {no : Nat} {op : Nat} {pc_ : Nat} {pl : Nat} {re : Nat → Nat} {rs : Nat → Nat} {s9 : Nat} {se : Nat → Nat} {sf : Nat} {sp : Nat} {st : Nat → Nat} {sv : Nat} {svm : Nat} {top_ : Nat} {tot : Nat} {tp : Nat → Nat} {va : Nat} (hF : zq_F φ 1 7 1 1 0 ffp 1 0 1 fki fbi ftc ftf (x_s fnu 0 1) (x_s (x_s fco 0 0) 0 1) (x_s (x_s fso 0 1) 0 1) fcl ftn) (hB : zq_tp φ tp) (hT : zq_T φ tot at_ cur pl va fa fp sf sp no op K P V) (hKS : x_KS φ top_ fr_ pc_ mm mi st lo re rs fl se co) (hPS : x_PS φ A B made sv svm s9 (x_s comb made 1) hm) (hN : zq_nm φ) (hc0 : tp 0 = 35) (hc1 : tp 1 = 49) (hc2 : tp 2 = 61) (hc3 : tp 3 = 97) (hc4 : tp 4 = 40) (hc5 : tp 5 = 41) (hc6 : tp 6 = 59) : x_f x_P (d + 1) 138 [(6, 471, 0)] φ n sl (x_r φ n sl (0, 49, 0)) := by
  refine x_f_of rfl ?_
  refine x_n_lt (fun hlt0 => ?_)
  refine q_load (v := (6, 471, 0)) (p2 := 1) rfl rfl rfl rfl ?_
  refine q_getv (v := (0, 1, 0)) (p2 := 2) rfl hF.1 (by decide) rfl rfl ?_
  refine q_if0_s (p2 := 3) rfl (by decide) (by omega) rfl (fun hb => absurd hb (show ¬ (1 < 0) by omega)) (fun _ => ?_)
  refine q_load (v := (6, 471, 0)) (p2 := 4) rfl rfl rfl rfl ?_
  refine q_getv (v := (0, 1, 0)) (p2 := 5) rfl hF.1 (by decide) rfl rfl ?_
  refine q_load (v := (6, 471, 0)) (p2 := 6) rfl rfl rfl rfl ?_
  refine q_getv (v := (0, 7, 0)) (p2 := 7) rfl hF.1 (by decide) rfl rfl ?_
  refine q_icmp_s (p2 := 8) rfl (by decide) (by omega) (by omega) rfl (fun hb => absurd hb (show ¬ (¬ (1 < 7)) by omega)) (fun _ => ?_)
  refine q_load (v := (6, 471, 0)) (p2 := 9) rfl rfl rfl rfl ?_
  refine q_getv (v := (0, 1, 0)) (p2 := 10) rfl hF.1 (by decide) rfl rfl ?_
  refine q_load (v := (6, 471, 0)) (p2 := 11) rfl rfl rfl rfl ?_
  refine q_getv (v := (6, 1, 0)) (p2 := 12) rfl hF.1 (by decide) rfl rfl ?_
  refine q_alen (p2 := 13) rfl hB rfl (by omega) rfl ?_
  refine q_icmp_s (p2 := 14) rfl (by decide) (by omega) (by omega) rfl (fun hb => absurd hb (show ¬ (¬ (1 < 3000)) by omega)) (fun _ => ?_)
  refine q_load (v := (6, 471, 0)) (p2 := 15) rfl rfl rfl rfl ?_
  refine q_getv (v := (6, 1, 0)) (p2 := 16) rfl hF.1 (by decide) rfl rfl ?_
  refine q_load (v := (6, 471, 0)) (p2 := 17) rfl rfl rfl rfl ?_
  refine q_getv (v := (0, 1, 0)) (p2 := 18) rfl hF.1 (by decide) rfl rfl ?_
  refine q_aldT (tag := 0) (v := 49) (p2 := 19) rfl hB (by omega) (by omega) hc1 rfl ?_
  refine q_const (p2 := 20) rfl rfl ?_
  refine q_iop (w := 49 &&& 255) (z := 49) (p2 := 21) rfl (xo_and 49 255) (by decide) rfl ?_
  refine q_goto rfl ?_
  exact q_retv (v := (0, 49, 0)) rfl rfl (⟨rfl, rfl, rfl, rfl, rfl⟩)
theorem zc_fr_peek_37 {d n sl : Nat} {φ : FH} {A : Nat} {B : Nat} {K : Nat → Nat} {P : Nat → Nat} {V : Nat → Nat} {at_ : Nat} {co : Nat → Nat} {comb : Nat → Nat} {cur : Nat} {fa : Nat} {fbi : Nat} {fcl : Nat → Nat} {fco : Nat → Nat} {ffp : Nat} {fki : Nat} {fl : Nat → Nat} {fnu : Nat → Nat} {fp : Nat} {fr_ : Nat} {fso : Nat → Nat} {ftc : Nat} {ftf : Nat} {ftn : Nat → Nat} {hm : Nat → MV} {lo : Nat → Nat} {made : Nat} {mi : Nat} {mm : Nat} {no : Nat} {op : Nat} {pc_ : Nat} {pl : Nat} {re : Nat → Nat} {rs : Nat → Nat} {s9 : Nat} {se : Nat → Nat} {sf : Nat} {sp : Nat} {st : Nat → Nat} {sv : Nat} {svm : Nat} {top_ : Nat} {tot : Nat} {tp : Nat → Nat} {va : Nat} (hF : zq_F φ 1 7 2 1 0 ffp 1 0 1 fki fbi ftc ftf (x_s fnu 0 1) (x_s (x_s fco 0 0) 0 1) (x_s (x_s fso 0 1) 0 1) fcl ftn) (hB : zq_tp φ tp) (hT : zq_T φ tot at_ cur pl va fa fp sf sp no op K P V) (hKS : x_KS φ top_ fr_ pc_ mm mi st lo re rs fl se co) (hPS : x_PS φ A B made sv svm s9 (x_s comb made 1) hm) (hN : zq_nm φ) (hc0 : tp 0 = 35) (hc1 : tp 1 = 49) (hc2 : tp 2 = 61) (hc3 : tp 3 = 97) (hc4 : tp 4 = 40) (hc5 : tp 5 = 41) (hc6 : tp 6 = 59) : x_f x_P (d + 1) 138 [(6, 471, 0)] φ n sl (x_r φ n sl (0, 61, 0)) := by
  refine x_f_of rfl ?_
  refine x_n_lt (fun hlt0 => ?_)
  refine q_load (v := (6, 471, 0)) (p2 := 1) rfl rfl rfl rfl ?_
  refine q_getv (v := (0, 2, 0)) (p2 := 2) rfl hF.1 (by decide) rfl rfl ?_
  refine q_if0_s (p2 := 3) rfl (by decide) (by omega) rfl (fun hb => absurd hb (show ¬ (2 < 0) by omega)) (fun _ => ?_)
  refine q_load (v := (6, 471, 0)) (p2 := 4) rfl rfl rfl rfl ?_
  refine q_getv (v := (0, 2, 0)) (p2 := 5) rfl hF.1 (by decide) rfl rfl ?_
  refine q_load (v := (6, 471, 0)) (p2 := 6) rfl rfl rfl rfl ?_
  refine q_getv (v := (0, 7, 0)) (p2 := 7) rfl hF.1 (by decide) rfl rfl ?_
  refine q_icmp_s (p2 := 8) rfl (by decide) (by omega) (by omega) rfl (fun hb => absurd hb (show ¬ (¬ (2 < 7)) by omega)) (fun _ => ?_)
  refine q_load (v := (6, 471, 0)) (p2 := 9) rfl rfl rfl rfl ?_
  refine q_getv (v := (0, 2, 0)) (p2 := 10) rfl hF.1 (by decide) rfl rfl ?_
  refine q_load (v := (6, 471, 0)) (p2 := 11) rfl rfl rfl rfl ?_
  refine q_getv (v := (6, 1, 0)) (p2 := 12) rfl hF.1 (by decide) rfl rfl ?_
  refine q_alen (p2 := 13) rfl hB rfl (by omega) rfl ?_
  refine q_icmp_s (p2 := 14) rfl (by decide) (by omega) (by omega) rfl (fun hb => absurd hb (show ¬ (¬ (2 < 3000)) by omega)) (fun _ => ?_)
  refine q_load (v := (6, 471, 0)) (p2 := 15) rfl rfl rfl rfl ?_
  refine q_getv (v := (6, 1, 0)) (p2 := 16) rfl hF.1 (by decide) rfl rfl ?_
  refine q_load (v := (6, 471, 0)) (p2 := 17) rfl rfl rfl rfl ?_
  refine q_getv (v := (0, 2, 0)) (p2 := 18) rfl hF.1 (by decide) rfl rfl ?_
  refine q_aldT (tag := 0) (v := 61) (p2 := 19) rfl hB (by omega) (by omega) hc2 rfl ?_
  refine q_const (p2 := 20) rfl rfl ?_
  refine q_iop (w := 61 &&& 255) (z := 61) (p2 := 21) rfl (xo_and 61 255) (by decide) rfl ?_
  refine q_goto rfl ?_
  exact q_retv (v := (0, 61, 0)) rfl rfl (⟨rfl, rfl, rfl, rfl, rfl⟩)
theorem zc_fr_reference_34 {d n sl : Nat} {φ : FH} {A : Nat} {B : Nat} {K : Nat → Nat} {P : Nat → Nat} {V : Nat → Nat} {at_ : Nat} {co : Nat → Nat} {comb : Nat → Nat} {cur : Nat} {fa : Nat} {fbi : Nat} {fcl : Nat → Nat} {fco : Nat → Nat} {ffp : Nat} {fki : Nat} {fl : Nat → Nat} {fnu : Nat → Nat} {fp : Nat} {fr_ : Nat} {fso : Nat → Nat} {ftc : Nat} {ftf : Nat} {ftn : Nat → Nat} {hm : Nat → MV} {lo : Nat → Nat} {made : Nat} {mi : Nat} {mm : Nat} {no : Nat} {op : Nat} {pc_ : Nat} {pl : Nat} {re : Nat → Nat} {rs : Nat → Nat} {s9 : Nat} {se : Nat → Nat} {sf : Nat} {sp : Nat} {st : Nat → Nat} {sv : Nat} {svm : Nat} {top_ : Nat} {tot : Nat} {tp : Nat → Nat} {va : Nat} (hF : zq_F φ 1 7 0 1 0 ffp 1 0 1 fki fbi ftc ftf (x_s fnu 0 1) (x_s (x_s fco 0 0) 0 1) (x_s (x_s fso 0 1) 0 1) fcl ftn) (hB : zq_tp φ tp) (hT : zq_T φ tot at_ cur pl va fa fp sf sp no op K P V) (hKS : x_KS φ top_ fr_ pc_ mm mi st lo re rs fl se co) (hPS : x_PS φ A B made sv svm s9 (x_s comb made 1) hm) (hN : zq_nm φ) (hc0 : tp 0 = 35) (hc1 : tp 1 = 49) (hc2 : tp 2 = 61) (hc3 : tp 3 = 97) (hc4 : tp 4 = 40) (hc5 : tp 5 = 41) (hc6 : tp 6 = 59) : x_f x_P (d + 3) 134 [(6, 471, 0), (11, 0, 0), (11, 0, 0), (11, 0, 0)] φ n sl (x_rR (0, 1, 0) n sl (fun φ2 => zq_F φ2 1 7 2 1 0 ffp 1 0 1 fki fbi ftc ftf (x_s fnu 0 1) (x_s (x_s fco 0 0) 0 1) (x_s (x_s fso 0 1) 0 1) fcl ftn ∧ ∀ j, j ≠ 471 → φ2 j = φ j)) := by
  refine x_f_of rfl ?_
  refine x_n_lt (fun hlt0 => ?_)
  refine q_load (v := (6, 471, 0)) (p2 := 1) rfl rfl rfl rfl ?_
  refine q_const (p2 := 2) rfl rfl ?_
  refine q_callvE (xs := [(0, 35, 0), (6, 471, 0)]) (p2 := 3) rfl rfl rfl rfl (x_rcv_s 471 hF.1) rfl (zc_fr_expect_35 hF hB hT hKS hPS hN hc0 hc1 hc2 hc3 hc4 hc5 hc6) (Nat.le_refl _) (Nat.le_refl _) rfl (fun φ1 hR1 => ?_)
  obtain ⟨hs1_0, fr1⟩ := hR1
  refine q_load (v := (6, 471, 0)) (p2 := 4) rfl rfl rfl rfl ?_
  refine q_getv (v := (0, 1, 0)) (p2 := 5) rfl hs1_0.1 (by decide) rfl rfl ?_
  refine q_store (loc2 := [(6, 471, 0), (0, 1, 0), (11, 0, 0), (11, 0, 0)]) (p2 := 6) rfl rfl rfl rfl rfl ?_
  refine q_const (p2 := 7) rfl rfl ?_
  refine q_store (loc2 := [(6, 471, 0), (0, 1, 0), (0, 0, 0), (11, 0, 0)]) (p2 := 8) rfl rfl rfl rfl rfl ?_
  refine q_const (p2 := 9) rfl rfl ?_
  refine q_store (loc2 := [(6, 471, 0), (0, 1, 0), (0, 0, 0), (0, 0, 0)]) (p2 := 10) rfl rfl rfl rfl rfl ?_
  refine q_load (v := (0, 0, 0)) (p2 := 11) rfl rfl rfl rfl ?_
  refine q_load (v := (6, 471, 0)) (p2 := 12) rfl rfl rfl rfl ?_
  refine q_getv (v := (0, 7, 0)) (p2 := 13) rfl hs1_0.1 (by decide) rfl rfl ?_
  refine q_icmp_s (p2 := 14) rfl (by decide) (by omega) (by omega) rfl (fun hb => absurd hb (show ¬ (¬ (0 < 7)) by omega)) (fun _ => ?_)
  refine q_load (v := (6, 471, 0)) (p2 := 15) rfl rfl rfl rfl ?_
  refine q_getv (v := (0, 0, 0)) (p2 := 16) rfl hs1_0.1 (by decide) rfl rfl ?_
  refine q_if0_s (p2 := 17) rfl (by decide) (by omega) rfl (fun hb => absurd hb (show ¬ (¬ (0 = 0)) by omega)) (fun _ => ?_)
  refine q_load (v := (6, 471, 0)) (p2 := 18) rfl rfl rfl rfl ?_
  have hm2 := (zq_tp_at hB (fr1 1 (by decide)))
  have hm3 := (zq_T_at hT (fr1 2 (by decide)) (fr1 3 (by decide)) (fr1 4 (by decide)) (fr1 5 (by decide)) (fr1 6 (by decide)))
  have hm4 := (x_KS_at2 hKS (fun j h1 h2 h3 h4 => (fr1 j (by omega))))
  refine x_n_lt (fun hlt6 => ?_)
  have hm5 := (x_PS_at hPS (fun j hj hne => by have hj2 := x_some_lt hlt0 hne; exact (fr1 j (by omega))))
  have hm7 := (zq_nm_at hN (fr1 239 (by decide)) (fr1 242 (by decide)) (fr1 244 (by decide)))
  refine q_callr (xs := [(6, 471, 0)]) (p2 := 19) rfl rfl rfl rfl (x_rcv_s 471 hs1_0.1) rfl (zc_fr_peek_36 hs1_0 hm2 hm3 hm4 hm5 hm7 hc0 hc1 hc2 hc3 hc4 hc5 hc6) (Nat.le_refl _) (Nat.le_refl _) rfl ?_
  refine q_callr (xs := [(0, 49, 0)]) (p2 := 20) rfl rfl rfl rfl (fun _ _ => rfl) rfl (zc_dg_isDigit (by omega)) (Nat.le_refl _) (Nat.le_refl _) rfl ?_
  refine q_if0_s (p2 := 21) rfl (by decide) (by omega) rfl (fun hb => absurd hb (show ¬ (1 = 0) by omega)) (fun _ => ?_)
  refine q_load (v := (6, 471, 0)) (p2 := 22) rfl rfl rfl rfl ?_
  refine q_getv (v := (0, 1, 0)) (p2 := 23) rfl hs1_0.1 (by decide) rfl rfl ?_
  refine q_load (v := (0, 1, 0)) (p2 := 24) rfl rfl rfl rfl ?_
  refine q_iop (w := 1 + (4294967296 - 1 % 4294967296)) (z := 0) (p2 := 25) rfl (xo_sub 1 1) (by decide) rfl ?_
  refine q_const (p2 := 26) rfl rfl ?_
  refine q_icmp_s (p2 := 27) rfl (by decide) (by omega) (by omega) rfl (fun hb => absurd hb (show ¬ (¬ (0 < 4)) by omega)) (fun _ => ?_)
  refine q_load (v := (0, 0, 0)) (p2 := 28) rfl rfl rfl rfl ?_
  refine q_const (p2 := 29) rfl rfl ?_
  refine q_iop (w := 0 * 10) (z := 0) (p2 := 30) rfl (xo_mul 0 10) (by decide) rfl ?_
  refine q_load (v := (6, 471, 0)) (p2 := 31) rfl rfl rfl rfl ?_
  refine q_callr (xs := [(6, 471, 0)]) (p2 := 32) rfl rfl rfl rfl (x_rcv_s 471 hs1_0.1) rfl (zc_fr_peek_36 hs1_0 hm2 hm3 hm4 hm5 hm7 hc0 hc1 hc2 hc3 hc4 hc5 hc6) (Nat.le_refl _) (Nat.le_refl _) rfl ?_
  refine q_iop (w := 0 + 49) (z := 49) (p2 := 33) rfl (xo_add 0 49) (by decide) rfl ?_
  refine q_const (p2 := 34) rfl rfl ?_
  refine q_iop (w := 49 + (4294967296 - 48 % 4294967296)) (z := 1) (p2 := 35) rfl (xo_sub 49 48) (by decide) rfl ?_
  refine q_goto rfl ?_
  refine q_store (loc2 := [(6, 471, 0), (0, 1, 0), (0, 1, 0), (0, 0, 0)]) (p2 := 38) rfl rfl rfl rfl rfl ?_
  refine q_load (v := (6, 471, 0)) (p2 := 39) rfl rfl rfl rfl ?_
  refine q_dup (p2 := 40) rfl rfl rfl ?_
  refine q_getv (v := (0, 1, 0)) (p2 := 41) rfl hs1_0.1 (by decide) rfl rfl ?_
  refine q_const (p2 := 42) rfl rfl ?_
  refine q_iop (w := 1 + 1) (z := 2) (p2 := 43) rfl (xo_add 1 1) (by decide) rfl ?_
  refine q_putfE (v := (0, 2, 0)) (p2 := 44) rfl hs1_0.1 (by decide) rfl rfl (fun φ8 f8 hh8 hg8 ho8 fr8 => ?_)
  have hs8 := zq_F_put_471_4 hs1_0 hh8 hg8 ho8 fr8
  refine q_iinc (z := 1) (loc2 := [(6, 471, 0), (0, 1, 0), (0, 1, 0), (0, 1, 0)]) (p2 := 45) rfl rfl (by decide) rfl rfl ?_
  refine q_goto rfl ?_
  refine q_load (v := (0, 1, 0)) (p2 := 11) rfl rfl rfl rfl ?_
  refine q_load (v := (6, 471, 0)) (p2 := 12) rfl rfl rfl rfl ?_
  refine q_getv (v := (0, 7, 0)) (p2 := 13) rfl hs8.1 (by decide) rfl rfl ?_
  refine q_icmp_s (p2 := 14) rfl (by decide) (by omega) (by omega) rfl (fun hb => absurd hb (show ¬ (¬ (1 < 7)) by omega)) (fun _ => ?_)
  refine q_load (v := (6, 471, 0)) (p2 := 15) rfl rfl rfl rfl ?_
  refine q_getv (v := (0, 0, 0)) (p2 := 16) rfl hs8.1 (by decide) rfl rfl ?_
  refine q_if0_s (p2 := 17) rfl (by decide) (by omega) rfl (fun hb => absurd hb (show ¬ (¬ (0 = 0)) by omega)) (fun _ => ?_)
  refine q_load (v := (6, 471, 0)) (p2 := 18) rfl rfl rfl rfl ?_
  have hm9 := (zq_tp_at hm2 (fr8 1 (by decide)))
  have hm10 := (zq_T_at hm3 (fr8 2 (by decide)) (fr8 3 (by decide)) (fr8 4 (by decide)) (fr8 5 (by decide)) (fr8 6 (by decide)))
  have hm11 := (x_KS_at2 hm4 (fun j h1 h2 h3 h4 => (fr8 j (by omega))))
  refine x_n_lt (fun hlt13 => ?_)
  have hm12 := (x_PS_at hm5 (fun j hj hne => by have hj2 := x_some_lt hlt6 hne; exact (fr8 j (by omega))))
  have hm14 := (zq_nm_at hm7 (fr8 239 (by decide)) (fr8 242 (by decide)) (fr8 244 (by decide)))
  refine q_callr (xs := [(6, 471, 0)]) (p2 := 19) rfl rfl rfl rfl (x_rcv_s 471 hs8.1) rfl (zc_fr_peek_37 hs8 hm9 hm10 hm11 hm12 hm14 hc0 hc1 hc2 hc3 hc4 hc5 hc6) (Nat.le_refl _) (Nat.le_refl _) rfl ?_
  refine q_callr (xs := [(0, 61, 0)]) (p2 := 20) rfl rfl rfl rfl (fun _ _ => rfl) rfl (zc_a_143_61 ) (Nat.le_refl _) (Nat.le_refl _) rfl ?_
  refine q_if0_s (p2 := 21) rfl (by decide) (by omega) rfl (fun _ => ?_) (fun hb => absurd (show 0 = 0 by omega) hb)
  refine q_load (v := (6, 471, 0)) (p2 := 47) rfl rfl rfl rfl ?_
  refine q_getv (v := (0, 2, 0)) (p2 := 48) rfl hs8.1 (by decide) rfl rfl ?_
  refine q_load (v := (0, 1, 0)) (p2 := 49) rfl rfl rfl rfl ?_
  refine q_icmp_s (p2 := 50) rfl (by decide) (by omega) (by omega) rfl (fun _ => ?_) (fun hb => absurd (show ¬ (2 = 1) by omega) hb)
  refine q_load (v := (6, 471, 0)) (p2 := 57) rfl rfl rfl rfl ?_
  refine q_getv (v := (0, 2, 0)) (p2 := 58) rfl hs8.1 (by decide) rfl rfl ?_
  refine q_load (v := (0, 1, 0)) (p2 := 59) rfl rfl rfl rfl ?_
  refine q_iop (w := 2 + (4294967296 - 1 % 4294967296)) (z := 1) (p2 := 60) rfl (xo_sub 2 1) (by decide) rfl ?_
  refine q_const (p2 := 61) rfl rfl ?_
  refine q_icmp_s (p2 := 62) rfl (by decide) (by omega) (by omega) rfl (fun _ => ?_) (fun hb => absurd (show ¬ (4 < 1) by omega) hb)
  refine q_load (v := (0, 1, 0)) (p2 := 67) rfl rfl rfl rfl ?_
  exact q_retv (v := (0, 1, 0)) rfl rfl (⟨rfl, rfl, rfl, rfl, hs8, fun j hj0 => ((fr8 j (by omega)).trans (fr1 j (by omega)))⟩)
theorem zc_fr_entryOf_38 {d n sl : Nat} {φ : FH} {A : Nat} {B : Nat} {K : Nat → Nat} {P : Nat → Nat} {V : Nat → Nat} {at_ : Nat} {co : Nat → Nat} {comb : Nat → Nat} {cur : Nat} {fa : Nat} {fbi : Nat} {fcl : Nat → Nat} {fco : Nat → Nat} {ffp : Nat} {fki : Nat} {fl : Nat → Nat} {fnu : Nat → Nat} {fp : Nat} {fr_ : Nat} {fso : Nat → Nat} {ftc : Nat} {ftf : Nat} {ftn : Nat → Nat} {hm : Nat → MV} {lo : Nat → Nat} {made : Nat} {mi : Nat} {mm : Nat} {no : Nat} {op : Nat} {pc_ : Nat} {pl : Nat} {re : Nat → Nat} {rs : Nat → Nat} {s9 : Nat} {se : Nat → Nat} {sf : Nat} {sp : Nat} {st : Nat → Nat} {sv : Nat} {svm : Nat} {top_ : Nat} {tot : Nat} {tp : Nat → Nat} {va : Nat} (hF : zq_F φ 1 7 2 1 0 ffp 1 0 1 fki fbi ftc ftf (x_s fnu 0 1) (x_s (x_s fco 0 0) 0 1) (x_s (x_s fso 0 1) 0 1) fcl ftn) (hB : zq_tp φ tp) (hT : zq_T φ tot at_ cur pl va fa fp sf sp no op K P V) (hKS : x_KS φ top_ fr_ pc_ mm mi st lo re rs fl se co) (hPS : x_PS φ A B made sv svm s9 (x_s comb made 1) hm) (hN : zq_nm φ) (hc0 : tp 0 = 35) (hc1 : tp 1 = 49) (hc2 : tp 2 = 61) (hc3 : tp 3 = 97) (hc4 : tp 4 = 40) (hc5 : tp 5 = 41) (hc6 : tp 6 = 59) : x_f x_P (d + 1) 215 [(6, 471, 0), (0, 1, 0), (11, 0, 0)] φ n sl (x_r φ n sl (0, 0, 0)) := by
  refine x_f_of rfl ?_
  refine x_n_lt (fun hlt0 => ?_)
  refine q_const (p2 := 1) rfl rfl ?_
  refine q_store (loc2 := [(6, 471, 0), (0, 1, 0), (0, 0, 0)]) (p2 := 2) rfl rfl rfl rfl rfl ?_
  refine q_load (v := (0, 0, 0)) (p2 := 3) rfl rfl rfl rfl ?_
  refine q_load (v := (6, 471, 0)) (p2 := 4) rfl rfl rfl rfl ?_
  refine q_getv (v := (0, 1, 0)) (p2 := 5) rfl hF.1 (by decide) rfl rfl ?_
  refine q_icmp_s (p2 := 6) rfl (by decide) (by omega) (by omega) rfl (fun hb => absurd hb (show ¬ (¬ (0 < 1)) by omega)) (fun _ => ?_)
  refine q_load (v := (0, 0, 0)) (p2 := 7) rfl rfl rfl rfl ?_
  refine q_const (p2 := 8) rfl rfl ?_
  refine q_icmp_s (p2 := 9) rfl (by decide) (by omega) (by omega) rfl (fun hb => absurd hb (show ¬ (¬ (0 < 440)) by omega)) (fun _ => ?_)
  refine q_load (v := (6, 471, 0)) (p2 := 10) rfl rfl rfl rfl ?_
  refine q_getv (v := (6, 473, 0)) (p2 := 11) rfl hF.1 (by decide) rfl rfl ?_
  refine q_load (v := (0, 0, 0)) (p2 := 12) rfl rfl rfl rfl ?_
  refine q_aldT (tag := 0) (v := 1) (p2 := 13) rfl hF.2.1 (by omega) (by omega) (x_s_eq) rfl ?_
  refine q_load (v := (0, 1, 0)) (p2 := 14) rfl rfl rfl rfl ?_
  refine q_icmp_s (p2 := 15) rfl (by decide) (by omega) (by omega) rfl (fun hb => absurd hb (show ¬ (¬ (1 = 1)) by omega)) (fun _ => ?_)
  refine q_load (v := (0, 0, 0)) (p2 := 16) rfl rfl rfl rfl ?_
  exact q_retv (v := (0, 0, 0)) rfl rfl (⟨rfl, rfl, rfl, rfl, rfl⟩)
theorem zc_fr_fail_39 {d n sl : Nat} {φ : FH} {A : Nat} {B : Nat} {K : Nat → Nat} {P : Nat → Nat} {V : Nat → Nat} {at_ : Nat} {co : Nat → Nat} {comb : Nat → Nat} {cur : Nat} {fa : Nat} {fbi : Nat} {fcl : Nat → Nat} {fco : Nat → Nat} {ffp : Nat} {fki : Nat} {fl : Nat → Nat} {fnu : Nat → Nat} {fp : Nat} {fr_ : Nat} {fso : Nat → Nat} {ftc : Nat} {ftf : Nat} {ftn : Nat → Nat} {hm : Nat → MV} {lo : Nat → Nat} {made : Nat} {mi : Nat} {mm : Nat} {no : Nat} {op : Nat} {pc_ : Nat} {pl : Nat} {re : Nat → Nat} {rs : Nat → Nat} {s9 : Nat} {se : Nat → Nat} {sf : Nat} {sp : Nat} {st : Nat → Nat} {sv : Nat} {svm : Nat} {top_ : Nat} {tot : Nat} {tp : Nat → Nat} {va : Nat} (hF : zq_F φ 1 7 2 1 0 ffp 1 0 1 fki fbi ftc ftf (x_s fnu 0 1) (x_s (x_s fco 0 0) 0 1) (x_s (x_s fso 0 1) 0 1) fcl ftn) (hB : zq_tp φ tp) (hT : zq_T φ tot at_ cur pl va fa fp sf sp no op K P V) (hKS : x_KS φ top_ fr_ pc_ mm mi st lo re rs fl se co) (hPS : x_PS φ A B made sv svm s9 (x_s comb made 1) hm) (hN : zq_nm φ) (hc0 : tp 0 = 35) (hc1 : tp 1 = 49) (hc2 : tp 2 = 61) (hc3 : tp 3 = 97) (hc4 : tp 4 = 40) (hc5 : tp 5 = 41) (hc6 : tp 6 = 59) : x_f x_P (d + 1) 214 [(6, 471, 0), (0, 2, 0), (0, 0, 0)] φ n sl (x_vR n sl (fun φ2 => zq_F φ2 1 7 2 1 2 0 1 0 1 fki fbi ftc ftf (x_s fnu 0 1) (x_s (x_s fco 0 0) 0 1) (x_s (x_s fso 0 1) 0 1) fcl ftn ∧ ∀ j, j ≠ 471 → φ2 j = φ j)) := by
  refine x_f_of rfl ?_
  refine x_n_lt (fun hlt0 => ?_)
  refine q_load (v := (6, 471, 0)) (p2 := 1) rfl rfl rfl rfl ?_
  refine q_getv (v := (0, 0, 0)) (p2 := 2) rfl hF.1 (by decide) rfl rfl ?_
  refine q_if0_s (p2 := 3) rfl (by decide) (by omega) rfl (fun hb => absurd hb (show ¬ (¬ (0 = 0)) by omega)) (fun _ => ?_)
  refine q_load (v := (6, 471, 0)) (p2 := 4) rfl rfl rfl rfl ?_
  refine q_load (v := (0, 2, 0)) (p2 := 5) rfl rfl rfl rfl ?_
  refine q_putfE (v := (0, 2, 0)) (p2 := 6) rfl hF.1 (by decide) rfl rfl (fun φ1 f1 hh1 hg1 ho1 fr1 => ?_)
  have hs1 := zq_F_put_471_6 hF hh1 hg1 ho1 fr1
  refine q_load (v := (6, 471, 0)) (p2 := 7) rfl rfl rfl rfl ?_
  refine q_load (v := (0, 0, 0)) (p2 := 8) rfl rfl rfl rfl ?_
  refine q_putfE (v := (0, 0, 0)) (p2 := 9) rfl hs1.1 (by decide) rfl rfl (fun φ2 f2 hh2 hg2 ho2 fr2 => ?_)
  have hs2 := zq_F_put_471_7 hs1 hh2 hg2 ho2 fr2
  exact q_ret rfl (⟨rfl, rfl, rfl, hs2, fun j hj0 => ((fr2 j (by omega)).trans (fr1 j (by omega)))⟩)
theorem zc_fr_peek_42 {d n sl : Nat} {φ : FH} {A : Nat} {B : Nat} {K : Nat → Nat} {P : Nat → Nat} {V : Nat → Nat} {at_ : Nat} {co : Nat → Nat} {comb : Nat → Nat} {cur : Nat} {fa : Nat} {fbi : Nat} {fcl : Nat → Nat} {fco : Nat → Nat} {fki : Nat} {fl : Nat → Nat} {fnu : Nat → Nat} {fp : Nat} {fr_ : Nat} {fso : Nat → Nat} {ftc : Nat} {ftf : Nat} {ftn : Nat → Nat} {hm : Nat → MV} {lo : Nat → Nat} {made : Nat} {mi : Nat} {mm : Nat} {no : Nat} {op : Nat} {pc_ : Nat} {pl : Nat} {re : Nat → Nat} {rs : Nat → Nat} {se : Nat → Nat} {sf : Nat} {sp : Nat} {st : Nat → Nat} {sv : Nat} {svm : Nat} {top_ : Nat} {tot : Nat} {tp : Nat → Nat} {va : Nat} (hF : zq_F φ 1 7 2 1 2 0 1 0 0 fki fbi ftc ftf (x_s fnu 0 1) (x_s (x_s fco 0 0) 0 1) (x_s (x_s fso 0 1) 0 1) fcl ftn) (hB : zq_tp φ tp) (hT : zq_T φ tot at_ cur pl va fa fp sf sp no op K P V) (hKS : x_KS φ top_ fr_ pc_ mm mi st lo re rs fl se co) (hPS : x_PS φ A B made sv svm 1 (x_s comb made 1) (x_em made hm)) (hN : zq_nm φ) (hc0 : tp 0 = 35) (hc1 : tp 1 = 49) (hc2 : tp 2 = 61) (hc3 : tp 3 = 97) (hc4 : tp 4 = 40) (hc5 : tp 5 = 41) (hc6 : tp 6 = 59) : x_f x_P (d + 1) 138 [(6, 471, 0)] φ n sl (x_r φ n sl (0, 61, 0)) := by
  refine x_f_of rfl ?_
  refine x_n_lt (fun hlt0 => ?_)
  refine q_load (v := (6, 471, 0)) (p2 := 1) rfl rfl rfl rfl ?_
  refine q_getv (v := (0, 2, 0)) (p2 := 2) rfl hF.1 (by decide) rfl rfl ?_
  refine q_if0_s (p2 := 3) rfl (by decide) (by omega) rfl (fun hb => absurd hb (show ¬ (2 < 0) by omega)) (fun _ => ?_)
  refine q_load (v := (6, 471, 0)) (p2 := 4) rfl rfl rfl rfl ?_
  refine q_getv (v := (0, 2, 0)) (p2 := 5) rfl hF.1 (by decide) rfl rfl ?_
  refine q_load (v := (6, 471, 0)) (p2 := 6) rfl rfl rfl rfl ?_
  refine q_getv (v := (0, 7, 0)) (p2 := 7) rfl hF.1 (by decide) rfl rfl ?_
  refine q_icmp_s (p2 := 8) rfl (by decide) (by omega) (by omega) rfl (fun hb => absurd hb (show ¬ (¬ (2 < 7)) by omega)) (fun _ => ?_)
  refine q_load (v := (6, 471, 0)) (p2 := 9) rfl rfl rfl rfl ?_
  refine q_getv (v := (0, 2, 0)) (p2 := 10) rfl hF.1 (by decide) rfl rfl ?_
  refine q_load (v := (6, 471, 0)) (p2 := 11) rfl rfl rfl rfl ?_
  refine q_getv (v := (6, 1, 0)) (p2 := 12) rfl hF.1 (by decide) rfl rfl ?_
  refine q_alen (p2 := 13) rfl hB rfl (by omega) rfl ?_
  refine q_icmp_s (p2 := 14) rfl (by decide) (by omega) (by omega) rfl (fun hb => absurd hb (show ¬ (¬ (2 < 3000)) by omega)) (fun _ => ?_)
  refine q_load (v := (6, 471, 0)) (p2 := 15) rfl rfl rfl rfl ?_
  refine q_getv (v := (6, 1, 0)) (p2 := 16) rfl hF.1 (by decide) rfl rfl ?_
  refine q_load (v := (6, 471, 0)) (p2 := 17) rfl rfl rfl rfl ?_
  refine q_getv (v := (0, 2, 0)) (p2 := 18) rfl hF.1 (by decide) rfl rfl ?_
  refine q_aldT (tag := 0) (v := 61) (p2 := 19) rfl hB (by omega) (by omega) hc2 rfl ?_
  refine q_const (p2 := 20) rfl rfl ?_
  refine q_iop (w := 61 &&& 255) (z := 61) (p2 := 21) rfl (xo_and 61 255) (by decide) rfl ?_
  refine q_goto rfl ?_
  exact q_retv (v := (0, 61, 0)) rfl rfl (⟨rfl, rfl, rfl, rfl, rfl⟩)
theorem zc_fr_blanks_41 {d n sl : Nat} {φ : FH} {A : Nat} {B : Nat} {K : Nat → Nat} {P : Nat → Nat} {V : Nat → Nat} {at_ : Nat} {co : Nat → Nat} {comb : Nat → Nat} {cur : Nat} {fa : Nat} {fbi : Nat} {fcl : Nat → Nat} {fco : Nat → Nat} {fki : Nat} {fl : Nat → Nat} {fnu : Nat → Nat} {fp : Nat} {fr_ : Nat} {fso : Nat → Nat} {ftc : Nat} {ftf : Nat} {ftn : Nat → Nat} {hm : Nat → MV} {lo : Nat → Nat} {made : Nat} {mi : Nat} {mm : Nat} {no : Nat} {op : Nat} {pc_ : Nat} {pl : Nat} {re : Nat → Nat} {rs : Nat → Nat} {se : Nat → Nat} {sf : Nat} {sp : Nat} {st : Nat → Nat} {sv : Nat} {svm : Nat} {top_ : Nat} {tot : Nat} {tp : Nat → Nat} {va : Nat} (hF : zq_F φ 1 7 2 1 2 0 1 0 0 fki fbi ftc ftf (x_s fnu 0 1) (x_s (x_s fco 0 0) 0 1) (x_s (x_s fso 0 1) 0 1) fcl ftn) (hB : zq_tp φ tp) (hT : zq_T φ tot at_ cur pl va fa fp sf sp no op K P V) (hKS : x_KS φ top_ fr_ pc_ mm mi st lo re rs fl se co) (hPS : x_PS φ A B made sv svm 1 (x_s comb made 1) (x_em made hm)) (hN : zq_nm φ) (hc0 : tp 0 = 35) (hc1 : tp 1 = 49) (hc2 : tp 2 = 61) (hc3 : tp 3 = 97) (hc4 : tp 4 = 40) (hc5 : tp 5 = 41) (hc6 : tp 6 = 59) : x_f x_P (d + 2) 133 [(6, 471, 0), (11, 0, 0)] φ n sl (x_v φ n sl) := by
  refine x_f_of rfl ?_
  refine x_n_lt (fun hlt0 => ?_)
  refine q_const (p2 := 1) rfl rfl ?_
  refine q_store (loc2 := [(6, 471, 0), (0, 0, 0)]) (p2 := 2) rfl rfl rfl rfl rfl ?_
  refine q_load (v := (0, 0, 0)) (p2 := 3) rfl rfl rfl rfl ?_
  refine q_load (v := (6, 471, 0)) (p2 := 4) rfl rfl rfl rfl ?_
  refine q_getv (v := (0, 7, 0)) (p2 := 5) rfl hF.1 (by decide) rfl rfl ?_
  refine q_icmp_s (p2 := 6) rfl (by decide) (by omega) (by omega) rfl (fun hb => absurd hb (show ¬ (¬ (0 < 7)) by omega)) (fun _ => ?_)
  refine q_load (v := (6, 471, 0)) (p2 := 7) rfl rfl rfl rfl ?_
  refine q_callr (xs := [(6, 471, 0)]) (p2 := 8) rfl rfl rfl rfl (x_rcv_s 471 hF.1) rfl (zc_fr_peek_42 hF hB hT hKS hPS hN hc0 hc1 hc2 hc3 hc4 hc5 hc6) (Nat.le_refl _) (Nat.le_refl _) rfl ?_
  refine q_callr (xs := [(0, 61, 0)]) (p2 := 9) rfl rfl rfl rfl (fun _ _ => rfl) rfl (zc_a_87_61 ) (Nat.le_refl _) (Nat.le_refl _) rfl ?_
  refine q_if0_s (p2 := 10) rfl (by decide) (by omega) rfl (fun _ => ?_) (fun hb => absurd (show 0 = 0 by omega) hb)
  exact q_ret rfl (⟨rfl, rfl, rfl, rfl⟩)
theorem zc_fr_sign_40 {d n sl : Nat} {φ : FH} {A : Nat} {B : Nat} {K : Nat → Nat} {P : Nat → Nat} {V : Nat → Nat} {at_ : Nat} {co : Nat → Nat} {comb : Nat → Nat} {cur : Nat} {fa : Nat} {fbi : Nat} {fcl : Nat → Nat} {fco : Nat → Nat} {fki : Nat} {fl : Nat → Nat} {fnu : Nat → Nat} {fp : Nat} {fr_ : Nat} {fso : Nat → Nat} {ftc : Nat} {ftf : Nat} {ftn : Nat → Nat} {hm : Nat → MV} {lo : Nat → Nat} {made : Nat} {mi : Nat} {mm : Nat} {no : Nat} {op : Nat} {pc_ : Nat} {pl : Nat} {re : Nat → Nat} {rs : Nat → Nat} {se : Nat → Nat} {sf : Nat} {sp : Nat} {st : Nat → Nat} {sv : Nat} {svm : Nat} {top_ : Nat} {tot : Nat} {tp : Nat → Nat} {va : Nat} (hF : zq_F φ 1 7 2 1 2 0 1 0 0 fki fbi ftc ftf (x_s fnu 0 1) (x_s (x_s fco 0 0) 0 1) (x_s (x_s fso 0 1) 0 1) fcl ftn) (hB : zq_tp φ tp) (hT : zq_T φ tot at_ cur pl va fa fp sf sp no op K P V) (hKS : x_KS φ top_ fr_ pc_ mm mi st lo re rs fl se co) (hPS : x_PS φ A B made sv svm 1 (x_s comb made 1) (x_em made hm)) (hN : zq_nm φ) (hc0 : tp 0 = 35) (hc1 : tp 1 = 49) (hc2 : tp 2 = 61) (hc3 : tp 3 = 97) (hc4 : tp 4 = 40) (hc5 : tp 5 = 41) (hc6 : tp 6 = 59) : x_f x_P (d + 3) 137 [(6, 471, 0), (0, 61, 0)] φ n sl (x_v φ n sl) := by
  refine x_f_of rfl ?_
  refine x_n_lt (fun hlt0 => ?_)
  refine q_load (v := (6, 471, 0)) (p2 := 1) rfl rfl rfl rfl ?_
  refine q_callv (xs := [(6, 471, 0)]) (p2 := 2) rfl rfl rfl rfl (x_rcv_s 471 hF.1) rfl (zc_fr_blanks_41 hF hB hT hKS hPS hN hc0 hc1 hc2 hc3 hc4 hc5 hc6) (Nat.le_refl _) (Nat.le_refl _) rfl ?_
  refine q_load (v := (6, 471, 0)) (p2 := 3) rfl rfl rfl rfl ?_
  refine q_callr (xs := [(6, 471, 0)]) (p2 := 4) rfl rfl rfl rfl (x_rcv_s 471 hF.1) rfl (zc_fr_peek_42 hF hB hT hKS hPS hN hc0 hc1 hc2 hc3 hc4 hc5 hc6) (Nat.le_refl _) (Nat.le_refl _) rfl ?_
  refine q_load (v := (0, 61, 0)) (p2 := 5) rfl rfl rfl rfl ?_
  refine q_icmp_s (p2 := 6) rfl (by decide) (by omega) (by omega) rfl (fun _ => ?_) (fun hb => absurd (show 61 = 61 by omega) hb)
  refine q_load (v := (6, 471, 0)) (p2 := 13) rfl rfl rfl rfl ?_
  refine q_getv (v := (0, 2, 0)) (p2 := 14) rfl hF.1 (by decide) rfl rfl ?_
  refine q_if0_s (p2 := 15) rfl (by decide) (by omega) rfl (fun _ => ?_) (fun hb => absurd (show ¬ (2 = 0) by omega) hb)
  refine q_load (v := (6, 471, 0)) (p2 := 22) rfl rfl rfl rfl ?_
  refine q_callv (xs := [(6, 471, 0)]) (p2 := 23) rfl rfl rfl rfl (x_rcv_s 471 hF.1) rfl (zc_fr_blanks_41 hF hB hT hKS hPS hN hc0 hc1 hc2 hc3 hc4 hc5 hc6) (Nat.le_refl _) (Nat.le_refl _) rfl ?_
  exact q_ret rfl (⟨rfl, rfl, rfl, rfl⟩)
theorem zc_fr_fail_45 {d n sl : Nat} {φ : FH} {A : Nat} {B : Nat} {K : Nat → Nat} {P : Nat → Nat} {V : Nat → Nat} {at_ : Nat} {co : Nat → Nat} {comb : Nat → Nat} {cur : Nat} {fa : Nat} {fbi : Nat} {fcl : Nat → Nat} {fco : Nat → Nat} {fki : Nat} {fl : Nat → Nat} {fnu : Nat → Nat} {fp : Nat} {fr_ : Nat} {fso : Nat → Nat} {ftc : Nat} {ftf : Nat} {ftn : Nat → Nat} {hm : Nat → MV} {lo : Nat → Nat} {made : Nat} {mi : Nat} {mm : Nat} {no : Nat} {op : Nat} {pc_ : Nat} {pl : Nat} {re : Nat → Nat} {rs : Nat → Nat} {se : Nat → Nat} {sf : Nat} {sp : Nat} {st : Nat → Nat} {sv : Nat} {svm : Nat} {top_ : Nat} {tot : Nat} {tp : Nat → Nat} {va : Nat} (hF : zq_F φ 1 7 2 1 2 0 1 0 0 fki fbi ftc ftf (x_s fnu 0 1) (x_s (x_s fco 0 0) 0 1) (x_s (x_s fso 0 1) 0 1) fcl ftn) (hB : zq_tp φ tp) (hT : zq_T φ tot at_ cur pl va fa fp sf sp no op K P V) (hKS : x_KS φ top_ fr_ pc_ mm mi st lo re rs fl se co) (hPS : x_PS φ A B made sv svm 1 (x_s comb made 1) (x_em made hm)) (hN : zq_nm φ) (hc0 : tp 0 = 35) (hc1 : tp 1 = 49) (hc2 : tp 2 = 61) (hc3 : tp 3 = 97) (hc4 : tp 4 = 40) (hc5 : tp 5 = 41) (hc6 : tp 6 = 59) : x_f x_P (d + 1) 214 [(6, 471, 0), (0, 1, 0), (0, 2, 0)] φ n sl (x_v φ n sl) := by
  refine x_f_of rfl ?_
  refine x_n_lt (fun hlt0 => ?_)
  refine q_load (v := (6, 471, 0)) (p2 := 1) rfl rfl rfl rfl ?_
  refine q_getv (v := (0, 2, 0)) (p2 := 2) rfl hF.1 (by decide) rfl rfl ?_
  refine q_if0_s (p2 := 3) rfl (by decide) (by omega) rfl (fun _ => ?_) (fun hb => absurd (show ¬ (2 = 0) by omega) hb)
  exact q_ret rfl (⟨rfl, rfl, rfl, rfl⟩)
theorem zc_fr_word_44 {d n sl : Nat} {φ : FH} {A : Nat} {B : Nat} {K : Nat → Nat} {P : Nat → Nat} {V : Nat → Nat} {at_ : Nat} {co : Nat → Nat} {comb : Nat → Nat} {cur : Nat} {fa : Nat} {fbi : Nat} {fcl : Nat → Nat} {fco : Nat → Nat} {fki : Nat} {fl : Nat → Nat} {fnu : Nat → Nat} {fp : Nat} {fr_ : Nat} {fso : Nat → Nat} {ftc : Nat} {ftf : Nat} {ftn : Nat → Nat} {hm : Nat → MV} {lo : Nat → Nat} {made : Nat} {mi : Nat} {mm : Nat} {no : Nat} {op : Nat} {pc_ : Nat} {pl : Nat} {re : Nat → Nat} {rs : Nat → Nat} {se : Nat → Nat} {sf : Nat} {sp : Nat} {st : Nat → Nat} {sv : Nat} {svm : Nat} {top_ : Nat} {tot : Nat} {tp : Nat → Nat} {va : Nat} (hF : zq_F φ 1 7 2 1 2 0 1 0 0 fki fbi ftc ftf (x_s fnu 0 1) (x_s (x_s fco 0 0) 0 1) (x_s (x_s fso 0 1) 0 1) fcl ftn) (hB : zq_tp φ tp) (hT : zq_T φ tot at_ cur pl va fa fp sf sp no op K P V) (hKS : x_KS φ top_ fr_ pc_ mm mi st lo re rs fl se co) (hPS : x_PS φ A B made sv svm 1 (x_s comb made 1) (x_em made hm)) (hN : zq_nm φ) (hc0 : tp 0 = 35) (hc1 : tp 1 = 49) (hc2 : tp 2 = 61) (hc3 : tp 3 = 97) (hc4 : tp 4 = 40) (hc5 : tp 5 = 41) (hc6 : tp 6 = 59) : x_f x_P (d + 2) 216 [(6, 471, 0), (11, 0, 0), (11, 0, 0), (11, 0, 0)] φ n sl (x_r φ n sl (2, 0, 0)) := by
  refine x_f_of rfl ?_
  refine x_n_lt (fun hlt0 => ?_)
  refine q_const (p2 := 1) rfl rfl ?_
  refine q_store2 (loc2 := [(6, 471, 0), (2, 0, 0), (11, 0, 0), (11, 0, 0)]) (p2 := 2) rfl rfl rfl rfl rfl ?_
  refine q_load (v := (6, 471, 0)) (p2 := 3) rfl rfl rfl rfl ?_
  refine q_callr (xs := [(6, 471, 0)]) (p2 := 4) rfl rfl rfl rfl (x_rcv_s 471 hF.1) rfl (zc_fr_peek_42 hF hB hT hKS hPS hN hc0 hc1 hc2 hc3 hc4 hc5 hc6) (Nat.le_refl _) (Nat.le_refl _) rfl ?_
  refine q_callr (xs := [(0, 61, 0)]) (p2 := 5) rfl rfl rfl rfl (fun _ _ => rfl) rfl (zc_a_141_61 ) (Nat.le_refl _) (Nat.le_refl _) rfl ?_
  refine q_if0_s (p2 := 6) rfl (by decide) (by omega) rfl (fun hb => absurd hb (show ¬ (¬ (0 = 0)) by omega)) (fun _ => ?_)
  refine q_load (v := (6, 471, 0)) (p2 := 7) rfl rfl rfl rfl ?_
  refine q_const (p2 := 8) rfl rfl ?_
  refine q_load (v := (6, 471, 0)) (p2 := 9) rfl rfl rfl rfl ?_
  refine q_getv (v := (0, 2, 0)) (p2 := 10) rfl hF.1 (by decide) rfl rfl ?_
  refine q_callv (xs := [(0, 2, 0), (0, 1, 0), (6, 471, 0)]) (p2 := 11) rfl rfl rfl rfl (x_rcv_s 471 hF.1) rfl (zc_fr_fail_45 hF hB hT hKS hPS hN hc0 hc1 hc2 hc3 hc4 hc5 hc6) (Nat.le_refl _) (Nat.le_refl _) rfl ?_
  refine q_const (p2 := 12) rfl rfl ?_
  refine q_store (loc2 := [(6, 471, 0), (2, 0, 0), (11, 0, 0), (0, 0, 0)]) (p2 := 13) rfl rfl rfl rfl rfl ?_
  refine q_load (v := (0, 0, 0)) (p2 := 14) rfl rfl rfl rfl ?_
  refine q_const (p2 := 15) rfl rfl ?_
  refine q_icmp_s (p2 := 16) rfl (by decide) (by omega) (by omega) rfl (fun hb => absurd hb (show ¬ (¬ (0 < 12)) by omega)) (fun _ => ?_)
  refine q_load (v := (6, 471, 0)) (p2 := 17) rfl rfl rfl rfl ?_
  refine q_getv (v := (0, 2, 0)) (p2 := 18) rfl hF.1 (by decide) rfl rfl ?_
  refine q_if0_s (p2 := 19) rfl (by decide) (by omega) rfl (fun _ => ?_) (fun hb => absurd (show ¬ (2 = 0) by omega) hb)
  refine q_load (v := (6, 471, 0)) (p2 := 41) rfl rfl rfl rfl ?_
  refine q_getv (v := (6, 2, 0)) (p2 := 42) rfl hF.1 (by decide) rfl rfl ?_
  refine q_load (v := (2, 0, 0)) (p2 := 43) rfl rfl rfl rfl ?_
  refine q_callr (xs := [(2, 0, 0), (6, 2, 0)]) (p2 := 44) rfl rfl rfl rfl (x_rcv_s 2 hT.1) rfl (zc_kw_0 hT) (Nat.le_refl _) (Nat.le_refl _) rfl ?_
  refine q_const (p2 := 45) rfl rfl ?_
  refine q_icmp_s (p2 := 46) rfl (by decide) (by omega) (by omega) rfl (fun _ => ?_) (fun hb => absurd (show 1 = 1 by omega) hb)
  refine q_load (v := (2, 0, 0)) (p2 := 52) rfl rfl rfl rfl ?_
  exact q_retv (v := (2, 0, 0)) rfl rfl (⟨rfl, rfl, rfl, rfl, rfl⟩)
theorem zc_fr_fail_46 {d n sl : Nat} {φ : FH} {A : Nat} {B : Nat} {K : Nat → Nat} {P : Nat → Nat} {V : Nat → Nat} {at_ : Nat} {co : Nat → Nat} {comb : Nat → Nat} {cur : Nat} {fa : Nat} {fbi : Nat} {fcl : Nat → Nat} {fco : Nat → Nat} {fki : Nat} {fl : Nat → Nat} {fnu : Nat → Nat} {fp : Nat} {fr_ : Nat} {fso : Nat → Nat} {ftc : Nat} {ftf : Nat} {ftn : Nat → Nat} {hm : Nat → MV} {lo : Nat → Nat} {made : Nat} {mi : Nat} {mm : Nat} {no : Nat} {op : Nat} {pc_ : Nat} {pl : Nat} {re : Nat → Nat} {rs : Nat → Nat} {se : Nat → Nat} {sf : Nat} {sp : Nat} {st : Nat → Nat} {sv : Nat} {svm : Nat} {top_ : Nat} {tot : Nat} {tp : Nat → Nat} {va : Nat} (hF : zq_F φ 1 7 2 1 2 0 1 0 0 fki fbi ftc ftf (x_s fnu 0 1) (x_s (x_s fco 0 0) 0 1) (x_s (x_s fso 0 1) 0 1) fcl ftn) (hB : zq_tp φ tp) (hT : zq_T φ tot at_ cur pl va fa fp sf sp no op K P V) (hKS : x_KS φ top_ fr_ pc_ mm mi st lo re rs fl se co) (hPS : x_PS φ A B made sv svm 1 (x_s comb made 1) (x_em made hm)) (hN : zq_nm φ) (hc0 : tp 0 = 35) (hc1 : tp 1 = 49) (hc2 : tp 2 = 61) (hc3 : tp 3 = 97) (hc4 : tp 4 = 40) (hc5 : tp 5 = 41) (hc6 : tp 6 = 59) : x_f x_P (d + 1) 214 [(6, 471, 0), (0, 2, 0), (0, 2, 0)] φ n sl (x_v φ n sl) := by
  refine x_f_of rfl ?_
  refine x_n_lt (fun hlt0 => ?_)
  refine q_load (v := (6, 471, 0)) (p2 := 1) rfl rfl rfl rfl ?_
  refine q_getv (v := (0, 2, 0)) (p2 := 2) rfl hF.1 (by decide) rfl rfl ?_
  refine q_if0_s (p2 := 3) rfl (by decide) (by omega) rfl (fun _ => ?_) (fun hb => absurd (show ¬ (2 = 0) by omega) hb)
  exact q_ret rfl (⟨rfl, rfl, rfl, rfl⟩)
theorem zc_fr_sign_47 {d n sl : Nat} {φ : FH} {A : Nat} {B : Nat} {K : Nat → Nat} {P : Nat → Nat} {V : Nat → Nat} {at_ : Nat} {co : Nat → Nat} {comb : Nat → Nat} {cur : Nat} {fa : Nat} {fbi : Nat} {fcl : Nat → Nat} {fco : Nat → Nat} {fki : Nat} {fl : Nat → Nat} {fnu : Nat → Nat} {fp : Nat} {fr_ : Nat} {fso : Nat → Nat} {ftc : Nat} {ftf : Nat} {ftn : Nat → Nat} {hm : Nat → MV} {lo : Nat → Nat} {made : Nat} {mi : Nat} {mm : Nat} {no : Nat} {op : Nat} {pc_ : Nat} {pl : Nat} {re : Nat → Nat} {rs : Nat → Nat} {se : Nat → Nat} {sf : Nat} {sp : Nat} {st : Nat → Nat} {sv : Nat} {svm : Nat} {top_ : Nat} {tot : Nat} {tp : Nat → Nat} {va : Nat} (hF : zq_F φ 1 7 2 1 2 0 1 0 0 fki fbi ftc ftf (x_s fnu 0 1) (x_s (x_s fco 0 0) 0 1) (x_s (x_s fso 0 1) 0 1) fcl ftn) (hB : zq_tp φ tp) (hT : zq_T φ tot at_ cur pl va fa fp sf sp no op K P V) (hKS : x_KS φ top_ fr_ pc_ mm mi st lo re rs fl se co) (hPS : x_PS φ A B made sv svm 1 (x_s comb made 1) (x_em made hm)) (hN : zq_nm φ) (hc0 : tp 0 = 35) (hc1 : tp 1 = 49) (hc2 : tp 2 = 61) (hc3 : tp 3 = 97) (hc4 : tp 4 = 40) (hc5 : tp 5 = 41) (hc6 : tp 6 = 59) : x_f x_P (d + 3) 137 [(6, 471, 0), (0, 40, 0)] φ n sl (x_v φ n sl) := by
  refine x_f_of rfl ?_
  refine x_n_lt (fun hlt0 => ?_)
  refine q_load (v := (6, 471, 0)) (p2 := 1) rfl rfl rfl rfl ?_
  refine q_callv (xs := [(6, 471, 0)]) (p2 := 2) rfl rfl rfl rfl (x_rcv_s 471 hF.1) rfl (zc_fr_blanks_41 hF hB hT hKS hPS hN hc0 hc1 hc2 hc3 hc4 hc5 hc6) (Nat.le_refl _) (Nat.le_refl _) rfl ?_
  refine q_load (v := (6, 471, 0)) (p2 := 3) rfl rfl rfl rfl ?_
  refine q_callr (xs := [(6, 471, 0)]) (p2 := 4) rfl rfl rfl rfl (x_rcv_s 471 hF.1) rfl (zc_fr_peek_42 hF hB hT hKS hPS hN hc0 hc1 hc2 hc3 hc4 hc5 hc6) (Nat.le_refl _) (Nat.le_refl _) rfl ?_
  refine q_load (v := (0, 40, 0)) (p2 := 5) rfl rfl rfl rfl ?_
  refine q_icmp_s (p2 := 6) rfl (by decide) (by omega) (by omega) rfl (fun hb => absurd hb (show ¬ (61 = 40) by omega)) (fun _ => ?_)
  refine q_load (v := (6, 471, 0)) (p2 := 7) rfl rfl rfl rfl ?_
  refine q_const (p2 := 8) rfl rfl ?_
  refine q_load (v := (6, 471, 0)) (p2 := 9) rfl rfl rfl rfl ?_
  refine q_getv (v := (0, 2, 0)) (p2 := 10) rfl hF.1 (by decide) rfl rfl ?_
  refine q_callv (xs := [(0, 2, 0), (0, 1, 0), (6, 471, 0)]) (p2 := 11) rfl rfl rfl rfl (x_rcv_s 471 hF.1) rfl (zc_fr_fail_45 hF hB hT hKS hPS hN hc0 hc1 hc2 hc3 hc4 hc5 hc6) (Nat.le_refl _) (Nat.le_refl _) rfl ?_
  refine q_goto rfl ?_
  refine q_load (v := (6, 471, 0)) (p2 := 22) rfl rfl rfl rfl ?_
  refine q_callv (xs := [(6, 471, 0)]) (p2 := 23) rfl rfl rfl rfl (x_rcv_s 471 hF.1) rfl (zc_fr_blanks_41 hF hB hT hKS hPS hN hc0 hc1 hc2 hc3 hc4 hc5 hc6) (Nat.le_refl _) (Nat.le_refl _) rfl ?_
  exact q_ret rfl (⟨rfl, rfl, rfl, rfl⟩)
theorem zc_fs_explicitFrom_48 {d n sl : Nat} {φ : FH}  (hS : x_sch φ)  : x_f x_P (d + 1) 218 [(6, 237, 0), (0, 0, 0), (0, 0, 0), (11, 0, 0)] φ n sl (x_r φ n sl (0, 4294967293, 0)) := by
  refine x_f_of rfl ?_
  refine q_load (v := (0, 0, 0)) (p2 := 1) rfl rfl rfl rfl ?_
  refine q_store (loc2 := [(6, 237, 0), (0, 0, 0), (0, 0, 0), (0, 0, 0)]) (p2 := 2) rfl rfl rfl rfl rfl ?_
  refine q_load (v := (0, 0, 0)) (p2 := 3) rfl rfl rfl rfl ?_
  refine q_if0_s (p2 := 4) rfl (by decide) (by omega) rfl (fun hb => absurd hb (show ¬ (0 < 0) by omega)) (fun _ => ?_)
  refine q_load (v := (0, 0, 0)) (p2 := 5) rfl rfl rfl rfl ?_
  refine q_load (v := (6, 237, 0)) (p2 := 6) rfl rfl rfl rfl ?_
  refine q_getv (v := (6, 246, 0)) (p2 := 7) rfl hS.1.choose_spec.1 (by decide) hS.1.choose_spec.2.2.2.1 rfl ?_
  refine q_const (p2 := 8) rfl rfl ?_
  refine q_aldv (v := (0, 5, 0)) (p2 := 9) rfl (x_sc_246 hS) (by omega) (by omega) rfl rfl ?_
  refine q_icmp_s (p2 := 10) rfl (by decide) (by omega) (by omega) rfl (fun hb => absurd hb (show ¬ (¬ (0 < 5)) by omega)) (fun _ => ?_)
  refine q_load (v := (6, 237, 0)) (p2 := 11) rfl rfl rfl rfl ?_
  refine q_getv (v := (6, 271, 0)) (p2 := 12) rfl hS.1.choose_spec.1 (by decide) hS.1.choose_spec.2.2.2.2.2.2.2.2.1 rfl ?_
  refine q_load (v := (0, 0, 0)) (p2 := 13) rfl rfl rfl rfl ?_
  refine q_aldv (v := (6, 272, 0)) (p2 := 14) rfl (x_sc_271 hS) (by omega) (by omega) rfl rfl ?_
  refine q_const (p2 := 15) rfl rfl ?_
  refine q_aldv (v := (0, 0, 0)) (p2 := 16) rfl (x_sc_272 hS) (by omega) (by omega) rfl rfl ?_
  refine q_if0_s (p2 := 17) rfl (by decide) (by omega) rfl (fun hb => absurd hb (show ¬ (¬ (0 = 0)) by omega)) (fun _ => ?_)
  refine q_load (v := (0, 0, 0)) (p2 := 18) rfl rfl rfl rfl ?_
  refine q_load (v := (6, 237, 0)) (p2 := 19) rfl rfl rfl rfl ?_
  refine q_getv (v := (6, 271, 0)) (p2 := 20) rfl hS.1.choose_spec.1 (by decide) hS.1.choose_spec.2.2.2.2.2.2.2.2.1 rfl ?_
  refine q_load (v := (0, 0, 0)) (p2 := 21) rfl rfl rfl rfl ?_
  refine q_aldv (v := (6, 272, 0)) (p2 := 22) rfl (x_sc_271 hS) (by omega) (by omega) rfl rfl ?_
  refine q_const (p2 := 23) rfl rfl ?_
  refine q_aldv (v := (0, 0, 0)) (p2 := 24) rfl (x_sc_272 hS) (by omega) (by omega) rfl rfl ?_
  refine q_iop (w := 0 >>> (0 % 32)) (z := 0) (p2 := 25) rfl (xo_shr (show 0 < 2147483648 by decide) 0) (by decide) rfl ?_
  refine q_const (p2 := 26) rfl rfl ?_
  refine q_iop (w := 0 &&& 1) (z := 0) (p2 := 27) rfl (xo_and 0 1) (by decide) rfl ?_
  refine q_const (p2 := 28) rfl rfl ?_
  refine q_icmp_s (p2 := 29) rfl (by decide) (by omega) (by omega) rfl (fun _ => ?_) (fun hb => absurd (show ¬ (0 = 1) by omega) hb)
  refine q_iinc (z := 1) (loc2 := [(6, 237, 0), (0, 0, 0), (0, 0, 0), (0, 1, 0)]) (p2 := 32) rfl rfl (by decide) rfl rfl ?_
  refine q_goto rfl ?_
  refine q_load (v := (0, 1, 0)) (p2 := 3) rfl rfl rfl rfl ?_
  refine q_if0_s (p2 := 4) rfl (by decide) (by omega) rfl (fun hb => absurd hb (show ¬ (1 < 0) by omega)) (fun _ => ?_)
  refine q_load (v := (0, 1, 0)) (p2 := 5) rfl rfl rfl rfl ?_
  refine q_load (v := (6, 237, 0)) (p2 := 6) rfl rfl rfl rfl ?_
  refine q_getv (v := (6, 246, 0)) (p2 := 7) rfl hS.1.choose_spec.1 (by decide) hS.1.choose_spec.2.2.2.1 rfl ?_
  refine q_const (p2 := 8) rfl rfl ?_
  refine q_aldv (v := (0, 5, 0)) (p2 := 9) rfl (x_sc_246 hS) (by omega) (by omega) rfl rfl ?_
  refine q_icmp_s (p2 := 10) rfl (by decide) (by omega) (by omega) rfl (fun hb => absurd hb (show ¬ (¬ (1 < 5)) by omega)) (fun _ => ?_)
  refine q_load (v := (6, 237, 0)) (p2 := 11) rfl rfl rfl rfl ?_
  refine q_getv (v := (6, 271, 0)) (p2 := 12) rfl hS.1.choose_spec.1 (by decide) hS.1.choose_spec.2.2.2.2.2.2.2.2.1 rfl ?_
  refine q_load (v := (0, 1, 0)) (p2 := 13) rfl rfl rfl rfl ?_
  refine q_aldv (v := (6, 273, 0)) (p2 := 14) rfl (x_sc_271 hS) (by omega) (by omega) rfl rfl ?_
  refine q_const (p2 := 15) rfl rfl ?_
  refine q_aldv (v := (0, 0, 0)) (p2 := 16) rfl (x_sc_273 hS) (by omega) (by omega) rfl rfl ?_
  refine q_if0_s (p2 := 17) rfl (by decide) (by omega) rfl (fun hb => absurd hb (show ¬ (¬ (0 = 0)) by omega)) (fun _ => ?_)
  refine q_load (v := (0, 0, 0)) (p2 := 18) rfl rfl rfl rfl ?_
  refine q_load (v := (6, 237, 0)) (p2 := 19) rfl rfl rfl rfl ?_
  refine q_getv (v := (6, 271, 0)) (p2 := 20) rfl hS.1.choose_spec.1 (by decide) hS.1.choose_spec.2.2.2.2.2.2.2.2.1 rfl ?_
  refine q_load (v := (0, 1, 0)) (p2 := 21) rfl rfl rfl rfl ?_
  refine q_aldv (v := (6, 273, 0)) (p2 := 22) rfl (x_sc_271 hS) (by omega) (by omega) rfl rfl ?_
  refine q_const (p2 := 23) rfl rfl ?_
  refine q_aldv (v := (0, 0, 0)) (p2 := 24) rfl (x_sc_273 hS) (by omega) (by omega) rfl rfl ?_
  refine q_iop (w := 0 >>> (0 % 32)) (z := 0) (p2 := 25) rfl (xo_shr (show 0 < 2147483648 by decide) 0) (by decide) rfl ?_
  refine q_const (p2 := 26) rfl rfl ?_
  refine q_iop (w := 0 &&& 1) (z := 0) (p2 := 27) rfl (xo_and 0 1) (by decide) rfl ?_
  refine q_const (p2 := 28) rfl rfl ?_
  refine q_icmp_s (p2 := 29) rfl (by decide) (by omega) (by omega) rfl (fun _ => ?_) (fun hb => absurd (show ¬ (0 = 1) by omega) hb)
  refine q_iinc (z := 2) (loc2 := [(6, 237, 0), (0, 0, 0), (0, 0, 0), (0, 2, 0)]) (p2 := 32) rfl rfl (by decide) rfl rfl ?_
  refine q_goto rfl ?_
  refine q_load (v := (0, 2, 0)) (p2 := 3) rfl rfl rfl rfl ?_
  refine q_if0_s (p2 := 4) rfl (by decide) (by omega) rfl (fun hb => absurd hb (show ¬ (2 < 0) by omega)) (fun _ => ?_)
  refine q_load (v := (0, 2, 0)) (p2 := 5) rfl rfl rfl rfl ?_
  refine q_load (v := (6, 237, 0)) (p2 := 6) rfl rfl rfl rfl ?_
  refine q_getv (v := (6, 246, 0)) (p2 := 7) rfl hS.1.choose_spec.1 (by decide) hS.1.choose_spec.2.2.2.1 rfl ?_
  refine q_const (p2 := 8) rfl rfl ?_
  refine q_aldv (v := (0, 5, 0)) (p2 := 9) rfl (x_sc_246 hS) (by omega) (by omega) rfl rfl ?_
  refine q_icmp_s (p2 := 10) rfl (by decide) (by omega) (by omega) rfl (fun hb => absurd hb (show ¬ (¬ (2 < 5)) by omega)) (fun _ => ?_)
  refine q_load (v := (6, 237, 0)) (p2 := 11) rfl rfl rfl rfl ?_
  refine q_getv (v := (6, 271, 0)) (p2 := 12) rfl hS.1.choose_spec.1 (by decide) hS.1.choose_spec.2.2.2.2.2.2.2.2.1 rfl ?_
  refine q_load (v := (0, 2, 0)) (p2 := 13) rfl rfl rfl rfl ?_
  refine q_aldv (v := (6, 274, 0)) (p2 := 14) rfl (x_sc_271 hS) (by omega) (by omega) rfl rfl ?_
  refine q_const (p2 := 15) rfl rfl ?_
  refine q_aldv (v := (0, 1, 0)) (p2 := 16) rfl (x_sc_274 hS) (by omega) (by omega) rfl rfl ?_
  refine q_if0_s (p2 := 17) rfl (by decide) (by omega) rfl (fun _ => ?_) (fun hb => absurd (show ¬ (1 = 0) by omega) hb)
  refine q_iinc (z := 3) (loc2 := [(6, 237, 0), (0, 0, 0), (0, 0, 0), (0, 3, 0)]) (p2 := 32) rfl rfl (by decide) rfl rfl ?_
  refine q_goto rfl ?_
  refine q_load (v := (0, 3, 0)) (p2 := 3) rfl rfl rfl rfl ?_
  refine q_if0_s (p2 := 4) rfl (by decide) (by omega) rfl (fun hb => absurd hb (show ¬ (3 < 0) by omega)) (fun _ => ?_)
  refine q_load (v := (0, 3, 0)) (p2 := 5) rfl rfl rfl rfl ?_
  refine q_load (v := (6, 237, 0)) (p2 := 6) rfl rfl rfl rfl ?_
  refine q_getv (v := (6, 246, 0)) (p2 := 7) rfl hS.1.choose_spec.1 (by decide) hS.1.choose_spec.2.2.2.1 rfl ?_
  refine q_const (p2 := 8) rfl rfl ?_
  refine q_aldv (v := (0, 5, 0)) (p2 := 9) rfl (x_sc_246 hS) (by omega) (by omega) rfl rfl ?_
  refine q_icmp_s (p2 := 10) rfl (by decide) (by omega) (by omega) rfl (fun hb => absurd hb (show ¬ (¬ (3 < 5)) by omega)) (fun _ => ?_)
  refine q_load (v := (6, 237, 0)) (p2 := 11) rfl rfl rfl rfl ?_
  refine q_getv (v := (6, 271, 0)) (p2 := 12) rfl hS.1.choose_spec.1 (by decide) hS.1.choose_spec.2.2.2.2.2.2.2.2.1 rfl ?_
  refine q_load (v := (0, 3, 0)) (p2 := 13) rfl rfl rfl rfl ?_
  refine q_aldv (v := (6, 275, 0)) (p2 := 14) rfl (x_sc_271 hS) (by omega) (by omega) rfl rfl ?_
  refine q_const (p2 := 15) rfl rfl ?_
  refine q_aldv (v := (0, 0, 0)) (p2 := 16) rfl (x_sc_275 hS) (by omega) (by omega) rfl rfl ?_
  refine q_if0_s (p2 := 17) rfl (by decide) (by omega) rfl (fun hb => absurd hb (show ¬ (¬ (0 = 0)) by omega)) (fun _ => ?_)
  refine q_load (v := (0, 0, 0)) (p2 := 18) rfl rfl rfl rfl ?_
  refine q_load (v := (6, 237, 0)) (p2 := 19) rfl rfl rfl rfl ?_
  refine q_getv (v := (6, 271, 0)) (p2 := 20) rfl hS.1.choose_spec.1 (by decide) hS.1.choose_spec.2.2.2.2.2.2.2.2.1 rfl ?_
  refine q_load (v := (0, 3, 0)) (p2 := 21) rfl rfl rfl rfl ?_
  refine q_aldv (v := (6, 275, 0)) (p2 := 22) rfl (x_sc_271 hS) (by omega) (by omega) rfl rfl ?_
  refine q_const (p2 := 23) rfl rfl ?_
  refine q_aldv (v := (0, 1, 0)) (p2 := 24) rfl (x_sc_275 hS) (by omega) (by omega) rfl rfl ?_
  refine q_iop (w := 0 >>> (1 % 32)) (z := 0) (p2 := 25) rfl (xo_shr (show 0 < 2147483648 by decide) 1) (by decide) rfl ?_
  refine q_const (p2 := 26) rfl rfl ?_
  refine q_iop (w := 0 &&& 1) (z := 0) (p2 := 27) rfl (xo_and 0 1) (by decide) rfl ?_
  refine q_const (p2 := 28) rfl rfl ?_
  refine q_icmp_s (p2 := 29) rfl (by decide) (by omega) (by omega) rfl (fun _ => ?_) (fun hb => absurd (show ¬ (0 = 1) by omega) hb)
  refine q_iinc (z := 4) (loc2 := [(6, 237, 0), (0, 0, 0), (0, 0, 0), (0, 4, 0)]) (p2 := 32) rfl rfl (by decide) rfl rfl ?_
  refine q_goto rfl ?_
  refine q_load (v := (0, 4, 0)) (p2 := 3) rfl rfl rfl rfl ?_
  refine q_if0_s (p2 := 4) rfl (by decide) (by omega) rfl (fun hb => absurd hb (show ¬ (4 < 0) by omega)) (fun _ => ?_)
  refine q_load (v := (0, 4, 0)) (p2 := 5) rfl rfl rfl rfl ?_
  refine q_load (v := (6, 237, 0)) (p2 := 6) rfl rfl rfl rfl ?_
  refine q_getv (v := (6, 246, 0)) (p2 := 7) rfl hS.1.choose_spec.1 (by decide) hS.1.choose_spec.2.2.2.1 rfl ?_
  refine q_const (p2 := 8) rfl rfl ?_
  refine q_aldv (v := (0, 5, 0)) (p2 := 9) rfl (x_sc_246 hS) (by omega) (by omega) rfl rfl ?_
  refine q_icmp_s (p2 := 10) rfl (by decide) (by omega) (by omega) rfl (fun hb => absurd hb (show ¬ (¬ (4 < 5)) by omega)) (fun _ => ?_)
  refine q_load (v := (6, 237, 0)) (p2 := 11) rfl rfl rfl rfl ?_
  refine q_getv (v := (6, 271, 0)) (p2 := 12) rfl hS.1.choose_spec.1 (by decide) hS.1.choose_spec.2.2.2.2.2.2.2.2.1 rfl ?_
  refine q_load (v := (0, 4, 0)) (p2 := 13) rfl rfl rfl rfl ?_
  refine q_aldv (v := (6, 276, 0)) (p2 := 14) rfl (x_sc_271 hS) (by omega) (by omega) rfl rfl ?_
  refine q_const (p2 := 15) rfl rfl ?_
  refine q_aldv (v := (0, 2, 0)) (p2 := 16) rfl (x_sc_276 hS) (by omega) (by omega) rfl rfl ?_
  refine q_if0_s (p2 := 17) rfl (by decide) (by omega) rfl (fun _ => ?_) (fun hb => absurd (show ¬ (2 = 0) by omega) hb)
  refine q_iinc (z := 5) (loc2 := [(6, 237, 0), (0, 0, 0), (0, 0, 0), (0, 5, 0)]) (p2 := 32) rfl rfl (by decide) rfl rfl ?_
  refine q_goto rfl ?_
  refine q_load (v := (0, 5, 0)) (p2 := 3) rfl rfl rfl rfl ?_
  refine q_if0_s (p2 := 4) rfl (by decide) (by omega) rfl (fun hb => absurd hb (show ¬ (5 < 0) by omega)) (fun _ => ?_)
  refine q_load (v := (0, 5, 0)) (p2 := 5) rfl rfl rfl rfl ?_
  refine q_load (v := (6, 237, 0)) (p2 := 6) rfl rfl rfl rfl ?_
  refine q_getv (v := (6, 246, 0)) (p2 := 7) rfl hS.1.choose_spec.1 (by decide) hS.1.choose_spec.2.2.2.1 rfl ?_
  refine q_const (p2 := 8) rfl rfl ?_
  refine q_aldv (v := (0, 5, 0)) (p2 := 9) rfl (x_sc_246 hS) (by omega) (by omega) rfl rfl ?_
  refine q_icmp_s (p2 := 10) rfl (by decide) (by omega) (by omega) rfl (fun _ => ?_) (fun hb => absurd (show ¬ (5 < 5) by omega) hb)
  refine q_const (p2 := 34) rfl rfl ?_
  exact q_retv (v := (0, 4294967293, 0)) rfl rfl (⟨rfl, rfl, rfl, rfl, rfl⟩)
theorem zc_fr_sign_49 {d n sl : Nat} {φ : FH} {A : Nat} {B : Nat} {K : Nat → Nat} {P : Nat → Nat} {V : Nat → Nat} {at_ : Nat} {co : Nat → Nat} {comb : Nat → Nat} {cur : Nat} {fa : Nat} {fbi : Nat} {fcl : Nat → Nat} {fco : Nat → Nat} {fki : Nat} {fl : Nat → Nat} {fnu : Nat → Nat} {fp : Nat} {fr_ : Nat} {fso : Nat → Nat} {ftc : Nat} {ftf : Nat} {ftn : Nat → Nat} {hm : Nat → MV} {lo : Nat → Nat} {made : Nat} {mi : Nat} {mm : Nat} {no : Nat} {op : Nat} {pc_ : Nat} {pl : Nat} {re : Nat → Nat} {rs : Nat → Nat} {se : Nat → Nat} {sf : Nat} {sp : Nat} {st : Nat → Nat} {sv : Nat} {svm : Nat} {top_ : Nat} {tot : Nat} {tp : Nat → Nat} {va : Nat} (hF : zq_F φ 1 7 2 1 2 0 1 0 0 fki fbi ftc ftf (x_s fnu 0 1) (x_s (x_s fco 0 0) 0 1) (x_s (x_s fso 0 1) 0 1) fcl ftn) (hB : zq_tp φ tp) (hT : zq_T φ tot at_ cur pl va fa fp sf sp no op K P V) (hKS : x_KS φ top_ fr_ pc_ mm mi st lo re rs fl se co) (hPS : x_PS φ A B made sv svm 1 (x_s comb made 1) (x_em made hm)) (hN : zq_nm φ) (hc0 : tp 0 = 35) (hc1 : tp 1 = 49) (hc2 : tp 2 = 61) (hc3 : tp 3 = 97) (hc4 : tp 4 = 40) (hc5 : tp 5 = 41) (hc6 : tp 6 = 59) : x_f x_P (d + 3) 137 [(6, 471, 0), (0, 41, 0)] φ n sl (x_v φ n sl) := by
  refine x_f_of rfl ?_
  refine x_n_lt (fun hlt0 => ?_)
  refine q_load (v := (6, 471, 0)) (p2 := 1) rfl rfl rfl rfl ?_
  refine q_callv (xs := [(6, 471, 0)]) (p2 := 2) rfl rfl rfl rfl (x_rcv_s 471 hF.1) rfl (zc_fr_blanks_41 hF hB hT hKS hPS hN hc0 hc1 hc2 hc3 hc4 hc5 hc6) (Nat.le_refl _) (Nat.le_refl _) rfl ?_
  refine q_load (v := (6, 471, 0)) (p2 := 3) rfl rfl rfl rfl ?_
  refine q_callr (xs := [(6, 471, 0)]) (p2 := 4) rfl rfl rfl rfl (x_rcv_s 471 hF.1) rfl (zc_fr_peek_42 hF hB hT hKS hPS hN hc0 hc1 hc2 hc3 hc4 hc5 hc6) (Nat.le_refl _) (Nat.le_refl _) rfl ?_
  refine q_load (v := (0, 41, 0)) (p2 := 5) rfl rfl rfl rfl ?_
  refine q_icmp_s (p2 := 6) rfl (by decide) (by omega) (by omega) rfl (fun hb => absurd hb (show ¬ (61 = 41) by omega)) (fun _ => ?_)
  refine q_load (v := (6, 471, 0)) (p2 := 7) rfl rfl rfl rfl ?_
  refine q_const (p2 := 8) rfl rfl ?_
  refine q_load (v := (6, 471, 0)) (p2 := 9) rfl rfl rfl rfl ?_
  refine q_getv (v := (0, 2, 0)) (p2 := 10) rfl hF.1 (by decide) rfl rfl ?_
  refine q_callv (xs := [(0, 2, 0), (0, 1, 0), (6, 471, 0)]) (p2 := 11) rfl rfl rfl rfl (x_rcv_s 471 hF.1) rfl (zc_fr_fail_45 hF hB hT hKS hPS hN hc0 hc1 hc2 hc3 hc4 hc5 hc6) (Nat.le_refl _) (Nat.le_refl _) rfl ?_
  refine q_goto rfl ?_
  refine q_load (v := (6, 471, 0)) (p2 := 22) rfl rfl rfl rfl ?_
  refine q_callv (xs := [(6, 471, 0)]) (p2 := 23) rfl rfl rfl rfl (x_rcv_s 471 hF.1) rfl (zc_fr_blanks_41 hF hB hT hKS hPS hN hc0 hc1 hc2 hc3 hc4 hc5 hc6) (Nat.le_refl _) (Nat.le_refl _) rfl ?_
  exact q_ret rfl (⟨rfl, rfl, rfl, rfl⟩)
theorem zc_fr_form_43 {d n sl : Nat} {φ : FH} {A : Nat} {B : Nat} {K : Nat → Nat} {P : Nat → Nat} {V : Nat → Nat} {at_ : Nat} {co : Nat → Nat} {comb : Nat → Nat} {cur : Nat} {fa : Nat} {fbi : Nat} {fcl : Nat → Nat} {fco : Nat → Nat} {fki : Nat} {fl : Nat → Nat} {fnu : Nat → Nat} {fp : Nat} {fr_ : Nat} {fso : Nat → Nat} {ftc : Nat} {ftf : Nat} {ftn : Nat → Nat} {hm : Nat → MV} {lo : Nat → Nat} {made : Nat} {mi : Nat} {mm : Nat} {no : Nat} {op : Nat} {pc_ : Nat} {pl : Nat} {re : Nat → Nat} {rs : Nat → Nat} {se : Nat → Nat} {sf : Nat} {sp : Nat} {st : Nat → Nat} {sv : Nat} {svm : Nat} {top_ : Nat} {tot : Nat} {tp : Nat → Nat} {va : Nat} (hF : zq_F φ 1 7 2 1 2 0 1 0 0 fki fbi ftc ftf (x_s fnu 0 1) (x_s (x_s fco 0 0) 0 1) (x_s (x_s fso 0 1) 0 1) fcl ftn) (hB : zq_tp φ tp) (hT : zq_T φ tot at_ cur pl va fa fp sf sp no op K P V) (hKS : x_KS φ top_ fr_ pc_ mm mi st lo re rs fl se co) (hPS : x_PS φ A B made sv svm 1 (x_s comb made 1) (x_em made hm)) (hN : zq_nm φ) (hc0 : tp 0 = 35) (hc1 : tp 1 = 49) (hc2 : tp 2 = 61) (hc3 : tp 3 = 97) (hc4 : tp 4 = 40) (hc5 : tp 5 = 41) (hc6 : tp 6 = 59) : x_f x_P (d + 4) 139 [(6, 471, 0), (0, 1, 0), (11, 0, 0), (11, 0, 0), (11, 0, 0), (11, 0, 0), (11, 0, 0), (11, 0, 0), (11, 0, 0), (11, 0, 0)] φ n sl (x_vR n sl (fun φ2 => zq_F φ2 1 7 2 1 2 0 1 0 0 fki fbi ftc ftf (x_s fnu 0 1) (x_s (x_s fco 0 0) 0 1) (x_s (x_s fso 0 1) 0 1) fcl ftn ∧ ∀ j, j ≠ 471 → φ2 j = φ j)) := by
  refine x_f_of rfl ?_
  refine x_n_lt (fun hlt0 => ?_)
  refine q_load (v := (6, 471, 0)) (p2 := 1) rfl rfl rfl rfl ?_
  refine q_getv (v := (0, 2, 0)) (p2 := 2) rfl hF.1 (by decide) rfl rfl ?_
  refine q_store (loc2 := [(6, 471, 0), (0, 1, 0), (0, 2, 0), (11, 0, 0), (11, 0, 0), (11, 0, 0), (11, 0, 0), (11, 0, 0), (11, 0, 0), (11, 0, 0)]) (p2 := 3) rfl rfl rfl rfl rfl ?_
  refine q_load (v := (6, 471, 0)) (p2 := 4) rfl rfl rfl rfl ?_
  refine q_getv (v := (6, 7, 0)) (p2 := 5) rfl hF.1 (by decide) rfl rfl ?_
  refine q_getv (v := (6, 237, 0)) (p2 := 6) rfl hPS.1.choose_spec.1 (by decide) hPS.1.choose_spec.2.1 rfl ?_
  refine q_const (p2 := 7) rfl rfl ?_
  refine q_load (v := (6, 471, 0)) (p2 := 8) rfl rfl rfl rfl ?_
  refine q_callr (xs := [(6, 471, 0)]) (p2 := 9) rfl rfl rfl rfl (x_rcv_s 471 hF.1) rfl (zc_fr_word_44 hF hB hT hKS hPS hN hc0 hc1 hc2 hc3 hc4 hc5 hc6) (Nat.le_refl _) (Nat.le_refl _) rfl ?_
  refine q_callr (xs := [(2, 0, 0), (0, 2, 0), (6, 237, 0)]) (p2 := 10) rfl rfl rfl rfl (x_rcv_s 237 hKS.2.2.2.2.2.2.2.2.2.1.choose_spec.1) rfl (zc_s_find2_0 hKS.2.2.2.2.2.2.2.2.2 hN) (Nat.le_refl _) (Nat.le_refl _) rfl ?_
  refine q_store (loc2 := [(6, 471, 0), (0, 1, 0), (0, 2, 0), (0, 4294967293, 0), (11, 0, 0), (11, 0, 0), (11, 0, 0), (11, 0, 0), (11, 0, 0), (11, 0, 0)]) (p2 := 11) rfl rfl rfl rfl rfl ?_
  refine q_load (v := (0, 4294967293, 0)) (p2 := 12) rfl rfl rfl rfl ?_
  refine q_if0 (p2 := 13) rfl (by decide) rfl (fun hb => absurd hb (show ¬ (¬ (2147483645 < 2147483648)) by decide)) (fun _ => ?_)
  refine q_const (p2 := 14) rfl rfl ?_
  refine q_goto rfl ?_
  refine q_store (loc2 := [(6, 471, 0), (0, 1, 0), (0, 2, 0), (0, 4294967293, 0), (0, 0, 0), (11, 0, 0), (11, 0, 0), (11, 0, 0), (11, 0, 0), (11, 0, 0)]) (p2 := 19) rfl rfl rfl rfl rfl ?_
  refine q_load (v := (0, 4294967293, 0)) (p2 := 20) rfl rfl rfl rfl ?_
  refine q_if0 (p2 := 21) rfl (by decide) rfl (fun _ => ?_) (fun hb => absurd (show 2147483645 < 2147483648 by decide) hb)
  refine q_const (p2 := 29) rfl rfl ?_
  refine q_store (loc2 := [(6, 471, 0), (0, 1, 0), (0, 2, 0), (0, 4294967293, 0), (0, 0, 0), (0, 0, 0), (11, 0, 0), (11, 0, 0), (11, 0, 0), (11, 0, 0)]) (p2 := 30) rfl rfl rfl rfl rfl ?_
  refine q_load (v := (0, 1, 0)) (p2 := 31) rfl rfl rfl rfl ?_
  refine q_if0_s (p2 := 32) rfl (by decide) (by omega) rfl (fun hb => absurd hb (show ¬ (1 = 0) by omega)) (fun _ => ?_)
  refine q_load (v := (0, 4294967293, 0)) (p2 := 33) rfl rfl rfl rfl ?_
  refine q_if0 (p2 := 34) rfl (by decide) rfl (fun _ => ?_) (fun hb => absurd (show 2147483645 < 2147483648 by decide) hb)
  refine q_load (v := (0, 0, 0)) (p2 := 46) rfl rfl rfl rfl ?_
  refine q_store (loc2 := [(6, 471, 0), (0, 1, 0), (0, 2, 0), (0, 4294967293, 0), (0, 0, 0), (0, 0, 0), (0, 0, 0), (11, 0, 0), (11, 0, 0), (11, 0, 0)]) (p2 := 47) rfl rfl rfl rfl rfl ?_
  refine q_load (v := (6, 471, 0)) (p2 := 48) rfl rfl rfl rfl ?_
  refine q_dup (p2 := 49) rfl rfl rfl ?_
  refine q_getv (v := (0, 0, 0)) (p2 := 50) rfl hF.1 (by decide) rfl rfl ?_
  refine q_load (v := (0, 0, 0)) (p2 := 51) rfl rfl rfl rfl ?_
  refine q_iop (w := 0 ||| 0) (z := 0) (p2 := 52) rfl (xo_or 0 0) (by decide) rfl ?_
  refine q_putfE (v := (0, 0, 0)) (p2 := 53) rfl hF.1 (by decide) rfl rfl (fun φ1 f1 hh1 hg1 ho1 fr1 => ?_)
  have hs1 := zq_F_put_471_13 hF hh1 hg1 ho1 fr1
  refine q_load (v := (6, 471, 0)) (p2 := 54) rfl rfl rfl rfl ?_
  refine q_getv (v := (0, 1, 0)) (p2 := 55) rfl hs1.1 (by decide) rfl rfl ?_
  refine q_if0_s (p2 := 56) rfl (by decide) (by omega) rfl (fun hb => absurd hb (show ¬ (1 = 0) by omega)) (fun _ => ?_)
  refine q_load (v := (0, 0, 0)) (p2 := 57) rfl rfl rfl rfl ?_
  refine q_if0_s (p2 := 58) rfl (by decide) (by omega) rfl (fun hb => absurd hb (show ¬ (¬ (0 = 0)) by omega)) (fun _ => ?_)
  refine q_load (v := (6, 471, 0)) (p2 := 59) rfl rfl rfl rfl ?_
  refine q_const (p2 := 60) rfl rfl ?_
  refine q_load (v := (0, 2, 0)) (p2 := 61) rfl rfl rfl rfl ?_
  have hm2 := (zq_tp_at hB (fr1 1 (by decide)))
  have hm3 := (zq_T_at hT (fr1 2 (by decide)) (fr1 3 (by decide)) (fr1 4 (by decide)) (fr1 5 (by decide)) (fr1 6 (by decide)))
  have hm4 := (x_KS_at2 hKS (fun j h1 h2 h3 h4 => (fr1 j (by omega))))
  refine x_n_lt (fun hlt6 => ?_)
  have hm5 := (x_PS_at hPS (fun j hj hne => by have hj2 := x_some_lt hlt0 hne; exact (fr1 j (by omega))))
  have hm7 := (zq_nm_at hN (fr1 239 (by decide)) (fr1 242 (by decide)) (fr1 244 (by decide)))
  refine q_callv (xs := [(0, 2, 0), (0, 2, 0), (6, 471, 0)]) (p2 := 62) rfl rfl rfl rfl (x_rcv_s 471 hs1.1) rfl (zc_fr_fail_46 hs1 hm2 hm3 hm4 hm5 hm7 hc0 hc1 hc2 hc3 hc4 hc5 hc6) (Nat.le_refl _) (Nat.le_refl _) rfl ?_
  refine q_goto rfl ?_
  refine q_load (v := (6, 471, 0)) (p2 := 96) rfl rfl rfl rfl ?_
  refine q_const (p2 := 97) rfl rfl ?_
  refine q_callv (xs := [(0, 40, 0), (6, 471, 0)]) (p2 := 98) rfl rfl rfl rfl (x_rcv_s 471 hs1.1) rfl (zc_fr_sign_47 hs1 hm2 hm3 hm4 hm5 hm7 hc0 hc1 hc2 hc3 hc4 hc5 hc6) (Nat.le_refl _) (Nat.le_refl _) rfl ?_
  refine q_load (v := (6, 471, 0)) (p2 := 99) rfl rfl rfl rfl ?_
  refine q_getv (v := (6, 7, 0)) (p2 := 100) rfl hs1.1 (by decide) rfl rfl ?_
  refine q_getv (v := (6, 237, 0)) (p2 := 101) rfl hm5.1.choose_spec.1 (by decide) hm5.1.choose_spec.2.1 rfl ?_
  refine q_const (p2 := 102) rfl rfl ?_
  refine q_load (v := (0, 0, 0)) (p2 := 103) rfl rfl rfl rfl ?_
  refine q_callr (xs := [(0, 0, 0), (0, 0, 0), (6, 237, 0)]) (p2 := 104) rfl rfl rfl rfl (x_rcv_s 237 hm4.2.2.2.2.2.2.2.2.2.1.choose_spec.1) rfl (zc_fs_explicitFrom_48 hm4.2.2.2.2.2.2.2.2.2) (Nat.le_refl _) (Nat.le_refl _) rfl ?_
  refine q_store (loc2 := [(6, 471, 0), (0, 1, 0), (0, 2, 0), (0, 4294967293, 0), (0, 0, 0), (0, 0, 0), (0, 0, 0), (0, 4294967293, 0), (11, 0, 0), (11, 0, 0)]) (p2 := 105) rfl rfl rfl rfl rfl ?_
  refine q_const (p2 := 106) rfl rfl ?_
  refine q_store (loc2 := [(6, 471, 0), (0, 1, 0), (0, 2, 0), (0, 4294967293, 0), (0, 0, 0), (0, 0, 0), (0, 0, 0), (0, 4294967293, 0), (0, 0, 0), (11, 0, 0)]) (p2 := 107) rfl rfl rfl rfl rfl ?_
  refine q_const (p2 := 108) rfl rfl ?_
  refine q_store (loc2 := [(6, 471, 0), (0, 1, 0), (0, 2, 0), (0, 4294967293, 0), (0, 0, 0), (0, 0, 0), (0, 0, 0), (0, 4294967293, 0), (0, 0, 0), (0, 0, 0)]) (p2 := 109) rfl rfl rfl rfl rfl ?_
  refine q_load (v := (0, 0, 0)) (p2 := 110) rfl rfl rfl rfl ?_
  refine q_load (v := (6, 471, 0)) (p2 := 111) rfl rfl rfl rfl ?_
  refine q_getv (v := (0, 7, 0)) (p2 := 112) rfl hs1.1 (by decide) rfl rfl ?_
  refine q_icmp_s (p2 := 113) rfl (by decide) (by omega) (by omega) rfl (fun hb => absurd hb (show ¬ (¬ (0 < 7)) by omega)) (fun _ => ?_)
  refine q_load (v := (6, 471, 0)) (p2 := 114) rfl rfl rfl rfl ?_
  refine q_getv (v := (0, 2, 0)) (p2 := 115) rfl hs1.1 (by decide) rfl rfl ?_
  refine q_if0_s (p2 := 116) rfl (by decide) (by omega) rfl (fun _ => ?_) (fun hb => absurd (show ¬ (2 = 0) by omega) hb)
  refine q_load (v := (6, 471, 0)) (p2 := 161) rfl rfl rfl rfl ?_
  refine q_getv (v := (0, 1, 0)) (p2 := 162) rfl hs1.1 (by decide) rfl rfl ?_
  refine q_if0_s (p2 := 163) rfl (by decide) (by omega) rfl (fun hb => absurd hb (show ¬ (1 = 0) by omega)) (fun _ => ?_)
  refine q_load (v := (6, 471, 0)) (p2 := 164) rfl rfl rfl rfl ?_
  refine q_callr (xs := [(6, 471, 0)]) (p2 := 165) rfl rfl rfl rfl (x_rcv_s 471 hs1.1) rfl (zc_fr_peek_42 hs1 hm2 hm3 hm4 hm5 hm7 hc0 hc1 hc2 hc3 hc4 hc5 hc6) (Nat.le_refl _) (Nat.le_refl _) rfl ?_
  refine q_const (p2 := 166) rfl rfl ?_
  refine q_icmp_s (p2 := 167) rfl (by decide) (by omega) (by omega) rfl (fun _ => ?_) (fun hb => absurd (show ¬ (61 = 41) by omega) hb)
  refine q_load (v := (6, 471, 0)) (p2 := 177) rfl rfl rfl rfl ?_
  refine q_const (p2 := 178) rfl rfl ?_
  refine q_callv (xs := [(0, 41, 0), (6, 471, 0)]) (p2 := 179) rfl rfl rfl rfl (x_rcv_s 471 hs1.1) rfl (zc_fr_sign_49 hs1 hm2 hm3 hm4 hm5 hm7 hc0 hc1 hc2 hc3 hc4 hc5 hc6) (Nat.le_refl _) (Nat.le_refl _) rfl ?_
  exact q_ret rfl (⟨rfl, rfl, rfl, hs1, fun j hj0 => (fr1 j (by omega))⟩)
theorem zc_fr_sign_50 {d n sl : Nat} {φ : FH} {A : Nat} {B : Nat} {K : Nat → Nat} {P : Nat → Nat} {V : Nat → Nat} {at_ : Nat} {co : Nat → Nat} {comb : Nat → Nat} {cur : Nat} {fa : Nat} {fbi : Nat} {fcl : Nat → Nat} {fco : Nat → Nat} {fki : Nat} {fl : Nat → Nat} {fnu : Nat → Nat} {fp : Nat} {fr_ : Nat} {fso : Nat → Nat} {ftc : Nat} {ftf : Nat} {ftn : Nat → Nat} {hm : Nat → MV} {lo : Nat → Nat} {made : Nat} {mi : Nat} {mm : Nat} {no : Nat} {op : Nat} {pc_ : Nat} {pl : Nat} {re : Nat → Nat} {rs : Nat → Nat} {se : Nat → Nat} {sf : Nat} {sp : Nat} {st : Nat → Nat} {sv : Nat} {svm : Nat} {top_ : Nat} {tot : Nat} {tp : Nat → Nat} {va : Nat} (hF : zq_F φ 1 7 2 1 2 0 1 0 0 fki fbi ftc ftf (x_s fnu 0 1) (x_s (x_s fco 0 0) 0 1) (x_s (x_s fso 0 1) 0 1) fcl ftn) (hB : zq_tp φ tp) (hT : zq_T φ tot at_ cur pl va fa fp sf sp no op K P V) (hKS : x_KS φ top_ fr_ pc_ mm mi st lo re rs fl se co) (hPS : x_PS φ A B made sv svm 1 (x_s comb made 1) (x_em made hm)) (hN : zq_nm φ) (hc0 : tp 0 = 35) (hc1 : tp 1 = 49) (hc2 : tp 2 = 61) (hc3 : tp 3 = 97) (hc4 : tp 4 = 40) (hc5 : tp 5 = 41) (hc6 : tp 6 = 59) : x_f x_P (d + 3) 137 [(6, 471, 0), (0, 59, 0)] φ n sl (x_v φ n sl) := by
  refine x_f_of rfl ?_
  refine x_n_lt (fun hlt0 => ?_)
  refine q_load (v := (6, 471, 0)) (p2 := 1) rfl rfl rfl rfl ?_
  refine q_callv (xs := [(6, 471, 0)]) (p2 := 2) rfl rfl rfl rfl (x_rcv_s 471 hF.1) rfl (zc_fr_blanks_41 hF hB hT hKS hPS hN hc0 hc1 hc2 hc3 hc4 hc5 hc6) (Nat.le_refl _) (Nat.le_refl _) rfl ?_
  refine q_load (v := (6, 471, 0)) (p2 := 3) rfl rfl rfl rfl ?_
  refine q_callr (xs := [(6, 471, 0)]) (p2 := 4) rfl rfl rfl rfl (x_rcv_s 471 hF.1) rfl (zc_fr_peek_42 hF hB hT hKS hPS hN hc0 hc1 hc2 hc3 hc4 hc5 hc6) (Nat.le_refl _) (Nat.le_refl _) rfl ?_
  refine q_load (v := (0, 59, 0)) (p2 := 5) rfl rfl rfl rfl ?_
  refine q_icmp_s (p2 := 6) rfl (by decide) (by omega) (by omega) rfl (fun hb => absurd hb (show ¬ (61 = 59) by omega)) (fun _ => ?_)
  refine q_load (v := (6, 471, 0)) (p2 := 7) rfl rfl rfl rfl ?_
  refine q_const (p2 := 8) rfl rfl ?_
  refine q_load (v := (6, 471, 0)) (p2 := 9) rfl rfl rfl rfl ?_
  refine q_getv (v := (0, 2, 0)) (p2 := 10) rfl hF.1 (by decide) rfl rfl ?_
  refine q_callv (xs := [(0, 2, 0), (0, 1, 0), (6, 471, 0)]) (p2 := 11) rfl rfl rfl rfl (x_rcv_s 471 hF.1) rfl (zc_fr_fail_45 hF hB hT hKS hPS hN hc0 hc1 hc2 hc3 hc4 hc5 hc6) (Nat.le_refl _) (Nat.le_refl _) rfl ?_
  refine q_goto rfl ?_
  refine q_load (v := (6, 471, 0)) (p2 := 22) rfl rfl rfl rfl ?_
  refine q_callv (xs := [(6, 471, 0)]) (p2 := 23) rfl rfl rfl rfl (x_rcv_s 471 hF.1) rfl (zc_fr_blanks_41 hF hB hT hKS hPS hN hc0 hc1 hc2 hc3 hc4 hc5 hc6) (Nat.le_refl _) (Nat.le_refl _) rfl ?_
  exact q_ret rfl (⟨rfl, rfl, rfl, rfl⟩)
theorem zc_fr_goesOn_51 {d n sl : Nat} {φ : FH} {A : Nat} {B : Nat} {K : Nat → Nat} {P : Nat → Nat} {V : Nat → Nat} {at_ : Nat} {co : Nat → Nat} {comb : Nat → Nat} {cur : Nat} {fa : Nat} {fbi : Nat} {fcl : Nat → Nat} {fco : Nat → Nat} {fki : Nat} {fl : Nat → Nat} {fnu : Nat → Nat} {fp : Nat} {fr_ : Nat} {fso : Nat → Nat} {ftc : Nat} {ftf : Nat} {ftn : Nat → Nat} {hm : Nat → MV} {lo : Nat → Nat} {made : Nat} {mi : Nat} {mm : Nat} {no : Nat} {op : Nat} {pc_ : Nat} {pl : Nat} {re : Nat → Nat} {rs : Nat → Nat} {se : Nat → Nat} {sf : Nat} {sp : Nat} {st : Nat → Nat} {sv : Nat} {svm : Nat} {top_ : Nat} {tot : Nat} {tp : Nat → Nat} {va : Nat} (hF : zq_F φ 1 7 2 1 2 0 1 1 0 fki fbi ftc ftf (x_s fnu 0 1) (x_s (x_s fco 0 0) 0 1) (x_s (x_s fso 0 1) 0 1) fcl ftn) (hB : zq_tp φ tp) (hT : zq_T φ tot at_ cur pl va fa fp sf sp no op K P V) (hKS : x_KS φ top_ fr_ pc_ mm mi st lo re rs fl se co) (hPS : x_PS φ A B made sv svm 1 (x_s comb made 1) (x_em made hm)) (hN : zq_nm φ) (hc0 : tp 0 = 35) (hc1 : tp 1 = 49) (hc2 : tp 2 = 61) (hc3 : tp 3 = 97) (hc4 : tp 4 = 40) (hc5 : tp 5 = 41) (hc6 : tp 6 = 59) : x_f x_P (d + 1) 83 [(6, 471, 0)] φ n sl (x_r φ n sl (0, 0, 0)) := by
  refine x_f_of rfl ?_
  refine x_n_lt (fun hlt0 => ?_)
  refine q_load (v := (6, 471, 0)) (p2 := 1) rfl rfl rfl rfl ?_
  refine q_getv (v := (0, 2, 0)) (p2 := 2) rfl hF.1 (by decide) rfl rfl ?_
  refine q_if0_s (p2 := 3) rfl (by decide) (by omega) rfl (fun _ => ?_) (fun hb => absurd (show ¬ (2 = 0) by omega) hb)
  refine q_const (p2 := 11) rfl rfl ?_
  exact q_retv (v := (0, 0, 0)) rfl rfl (⟨rfl, rfl, rfl, rfl, rfl⟩)
theorem zc_fr_finish_52 {d n sl : Nat} {φ : FH} {A : Nat} {B : Nat} {K : Nat → Nat} {P : Nat → Nat} {V : Nat → Nat} {at_ : Nat} {co : Nat → Nat} {comb : Nat → Nat} {cur : Nat} {fa : Nat} {fbi : Nat} {fcl : Nat → Nat} {fco : Nat → Nat} {fki : Nat} {fl : Nat → Nat} {fnu : Nat → Nat} {fp : Nat} {fr_ : Nat} {fso : Nat → Nat} {ftc : Nat} {ftf : Nat} {ftn : Nat → Nat} {hm : Nat → MV} {lo : Nat → Nat} {made : Nat} {mi : Nat} {mm : Nat} {no : Nat} {op : Nat} {pc_ : Nat} {pl : Nat} {re : Nat → Nat} {rs : Nat → Nat} {se : Nat → Nat} {sf : Nat} {sp : Nat} {st : Nat → Nat} {sv : Nat} {svm : Nat} {top_ : Nat} {tot : Nat} {tp : Nat → Nat} {va : Nat} (hF : zq_F φ 1 7 2 1 2 0 1 1 0 fki fbi ftc ftf (x_s fnu 0 1) (x_s (x_s fco 0 0) 0 1) (x_s (x_s fso 0 1) 0 1) fcl ftn) (hB : zq_tp φ tp) (hT : zq_T φ tot at_ cur pl va fa fp sf sp no op K P V) (hKS : x_KS φ top_ fr_ pc_ mm mi st lo re rs fl se co) (hPS : x_PS φ A B made sv svm 1 (x_s comb made 1) (x_em made hm)) (hN : zq_nm φ) (hc0 : tp 0 = 35) (hc1 : tp 1 = 49) (hc2 : tp 2 = 61) (hc3 : tp 3 = 97) (hc4 : tp 4 = 40) (hc5 : tp 5 = 41) (hc6 : tp 6 = 59) : x_f x_P (d + 1) 85 [(6, 471, 0)] φ n sl (x_r φ n sl (0, 4294967286, 0)) := by
  refine x_f_of rfl ?_
  refine x_n_lt (fun hlt0 => ?_)
  refine q_load (v := (6, 471, 0)) (p2 := 1) rfl rfl rfl rfl ?_
  refine q_getv (v := (0, 2, 0)) (p2 := 2) rfl hF.1 (by decide) rfl rfl ?_
  refine q_if0_s (p2 := 3) rfl (by decide) (by omega) rfl (fun hb => absurd hb (show ¬ (2 = 0) by omega)) (fun _ => ?_)
  refine q_const (p2 := 4) rfl rfl ?_
  refine q_load (v := (6, 471, 0)) (p2 := 5) rfl rfl rfl rfl ?_
  refine q_getv (v := (0, 0, 0)) (p2 := 6) rfl hF.1 (by decide) rfl rfl ?_
  refine q_iop (w := 4294967286 + (4294967296 - 0 % 4294967296)) (z := 4294967286) (p2 := 7) rfl (xo_sub 4294967286 0) (by decide) rfl ?_
  exact q_retv (v := (0, 4294967286, 0)) rfl rfl (⟨rfl, rfl, rfl, rfl, rfl⟩)
set_option maxHeartbeats 1000000 in
theorem zc_read {d n sl : Nat} {φ : FH} {tp : Nat → Nat} {lf : Nat} {mi : Nat} {made : Nat} {sv : Nat} {svm : Nat} {comb : Nat → Nat} {hm : Nat → MV} {sc : Nat → Nat} {sm : Nat → MV} {mh : MV} {noted : Nat} {verd : Nat} {ins : Nat → Nat} {ver : Nat → Nat} {sz : Nat} {bw : Nat → Nat}  (hG : zG φ 7 tp lf mi made sv svm comb hm sc sm mh noted verd ins ver sz bw) (hn0 : 486 ≤ n) (hpv : ∀ i, x_pv2 (hm i)) (hmi : mi + 100 ≤ 20000) (hroom : made < 40) (ht0 : tp 0 = 35) (ht1 : tp 1 = 49) (ht2 : tp 2 = 61) (ht3 : tp 3 = 97) (ht4 : tp 4 = 40) (ht5 : tp 5 = 41) (ht6 : tp 6 = 59) : x_f x_P (d + 25) 38 [(6, 0, 0), (11, 0, 0), (11, 0, 0)] φ n sl (x_bR n sl 0 0 (fun zw φ2 => zw = (0, 4294967286, 0) ∧ zG φ2 0 tp 2 mi made sv svm (x_s comb made 1) (x_em made hm) sc sm mh noted verd ins ver sz bw)) := by
  refine x_f_of rfl ?_
  have hG0 := hG
  obtain ⟨⟨hand, ie, hH, hhw⟩, hB, hTJ, hEJ, hN, hKJ, ⟨A, B, s9, hPS, hLK0⟩, hSP, hV5, ⟨slq, hSL⟩, hRW, hJ, hFJ, hWJ, ⟨ovn, ovh, hOV, hovn, hovh⟩⟩ := hG
  refine x_n_lt (fun hlt0 => ?_)
  have hmade := x_PS_lt hPS
  obtain ⟨tot, at_, cur, pl, va, fa, fp, sf, sp, no, op, K, P, V, hT⟩ := hTJ
  obtain ⟨co, ⟨top_, fr_, pc_, mm, st, lo, re, rs, fl, se, hKS⟩, hco⟩ := hKJ
  obtain ⟨ftx, fle, fat, fse, ffa, ffp, fen, fey, fna, fki, fbi, ftc, ftf, fnu, fco, fso, fcl, ftn, hF, hFx⟩ := hFJ
  refine q_load (v := (6, 0, 0)) (p2 := 1) rfl rfl rfl rfl ?_
  refine q_getv (v := (6, 471, 0)) (p2 := 2) rfl hH (by decide) rfl rfl ?_
  refine q_load (v := (6, 0, 0)) (p2 := 3) rfl rfl rfl rfl ?_
  refine q_getv (v := (6, 1, 0)) (p2 := 4) rfl hH (by decide) rfl rfl ?_
  refine q_load (v := (6, 0, 0)) (p2 := 5) rfl rfl rfl rfl ?_
  refine q_getv (v := (0, 7, 0)) (p2 := 6) rfl hH (by decide) rfl rfl ?_
  refine q_callvE (xs := [(0, 7, 0), (6, 1, 0), (6, 471, 0)]) (p2 := 7) rfl rfl rfl rfl (x_rcv_s 471 hF.1) rfl (zc_fr_start_1 hF hB hT hKS hPS hN ht0 ht1 ht2 ht3 ht4 ht5 ht6) (Nat.le_refl _) (Nat.le_refl _) rfl (fun φ1 hR1 => ?_)
  obtain ⟨hs1_0, fr1⟩ := hR1
  refine q_const (p2 := 8) rfl rfl ?_
  refine q_store (loc2 := [(6, 0, 0), (0, 1, 0), (11, 0, 0)]) (p2 := 9) rfl rfl rfl rfl rfl ?_
  refine q_load (v := (0, 1, 0)) (p2 := 10) rfl rfl rfl rfl ?_
  refine q_const (p2 := 11) rfl rfl ?_
  refine q_icmp_s (p2 := 12) rfl (by decide) (by omega) (by omega) rfl (fun hb => absurd hb (show ¬ (2 < 1) by omega)) (fun _ => ?_)
  refine q_load (v := (6, 0, 0)) (p2 := 13) rfl rfl rfl rfl ?_
  have hm2 := (zq_H_at hH (fr1 0 (by decide)))
  refine q_getv (v := (6, 471, 0)) (p2 := 14) rfl hm2 (by decide) rfl rfl ?_
  refine q_getv (v := (0, 0, 0)) (p2 := 15) rfl hs1_0.1 (by decide) rfl rfl ?_
  refine q_if0_s (p2 := 16) rfl (by decide) (by omega) rfl (fun hb => absurd hb (show ¬ (¬ (0 = 0)) by omega)) (fun _ => ?_)
  refine q_load (v := (6, 0, 0)) (p2 := 17) rfl rfl rfl rfl ?_
  refine q_getv (v := (6, 471, 0)) (p2 := 18) rfl hm2 (by decide) rfl rfl ?_
  refine q_load (v := (0, 1, 0)) (p2 := 19) rfl rfl rfl rfl ?_
  refine q_const (p2 := 20) rfl rfl ?_
  refine q_icmp_s (p2 := 21) rfl (by decide) (by omega) (by omega) rfl (fun _ => ?_) (fun hb => absurd (show ¬ (1 = 2) by omega) hb)
  refine q_const (p2 := 24) rfl rfl ?_
  refine q_callKv (xs := [(0, 0, 0), (6, 471, 0)]) (p2 := 25) rfl rfl rfl rfl (x_rcv_s 471 hs1_0.1) rfl rfl ?_
  refine x_f_of rfl ?_
  refine q_load (v := (6, 471, 0)) (p2 := 1) rfl rfl rfl rfl ?_
  refine q_load (v := (0, 0, 0)) (p2 := 2) rfl rfl rfl rfl ?_
  refine q_putfE (v := (0, 0, 0)) (p2 := 3) rfl hs1_0.1 (by decide) rfl rfl (fun φ3 f3 hh3 hg3 ho3 fr3 => ?_)
  have hs3 := zq_F_put_471_5 hs1_0 hh3 hg3 ho3 fr3
  refine q_load (v := (6, 471, 0)) (p2 := 4) rfl rfl rfl rfl ?_
  refine q_const (p2 := 5) rfl rfl ?_
  refine q_putfE (v := (0, 0, 0)) (p2 := 6) rfl hs3.1 (by decide) rfl rfl (fun φ4 f4 hh4 hg4 ho4 fr4 => ?_)
  have hs4 := zq_F_put_471_4 hs3 hh4 hg4 ho4 fr4
  refine q_load (v := (6, 471, 0)) (p2 := 7) rfl rfl rfl rfl ?_
  refine q_const (p2 := 8) rfl rfl ?_
  refine q_putfE (v := (0, 0, 0)) (p2 := 9) rfl hs4.1 (by decide) rfl rfl (fun φ5 f5 hh5 hg5 ho5 fr5 => ?_)
  have hs5 := zq_F_put_471_12 hs4 hh5 hg5 ho5 fr5
  refine q_const (p2 := 10) rfl rfl ?_
  refine q_store (loc2 := [(6, 471, 0), (0, 0, 0), (0, 0, 0)]) (p2 := 11) rfl rfl rfl rfl rfl ?_
  refine q_load (v := (0, 0, 0)) (p2 := 12) rfl rfl rfl rfl ?_
  refine q_load (v := (6, 471, 0)) (p2 := 13) rfl rfl rfl rfl ?_
  refine q_getv (v := (0, 0, 0)) (p2 := 14) rfl hs5.1 (by decide) rfl rfl ?_
  refine q_icmp_s (p2 := 15) rfl (by decide) (by omega) (by omega) rfl (fun _ => ?_) (fun hb => absurd (show ¬ (0 < 0) by omega) hb)
  refine q_load (v := (6, 471, 0)) (p2 := 33) rfl rfl rfl rfl ?_
  have hm6 := (zq_tp_at hB ((fr5 1 (by decide)).trans ((fr4 1 (by decide)).trans ((fr3 1 (by decide)).trans (fr1 1 (by decide))))))
  have hm7 := (zq_T_at hT ((fr5 2 (by decide)).trans ((fr4 2 (by decide)).trans ((fr3 2 (by decide)).trans (fr1 2 (by decide))))) ((fr5 3 (by decide)).trans ((fr4 3 (by decide)).trans ((fr3 3 (by decide)).trans (fr1 3 (by decide))))) ((fr5 4 (by decide)).trans ((fr4 4 (by decide)).trans ((fr3 4 (by decide)).trans (fr1 4 (by decide))))) ((fr5 5 (by decide)).trans ((fr4 5 (by decide)).trans ((fr3 5 (by decide)).trans (fr1 5 (by decide))))) ((fr5 6 (by decide)).trans ((fr4 6 (by decide)).trans ((fr3 6 (by decide)).trans (fr1 6 (by decide))))))
  have hm8 := (x_KS_at2 hKS (fun j h1 h2 h3 h4 => ((fr5 j (by omega)).trans ((fr4 j (by omega)).trans ((fr3 j (by omega)).trans (fr1 j (by omega)))))))
  refine x_n_lt (fun hlt10 => ?_)
  have hm9 := (x_PS_at hPS (fun j hj hne => by have hj2 := x_some_lt hlt0 hne; exact ((fr5 j (by omega)).trans ((fr4 j (by omega)).trans ((fr3 j (by omega)).trans (fr1 j (by omega)))))))
  have hm11 := (zq_nm_at hN ((fr5 239 (by decide)).trans ((fr4 239 (by decide)).trans ((fr3 239 (by decide)).trans (fr1 239 (by decide))))) ((fr5 242 (by decide)).trans ((fr4 242 (by decide)).trans ((fr3 242 (by decide)).trans (fr1 242 (by decide))))) ((fr5 244 (by decide)).trans ((fr4 244 (by decide)).trans ((fr3 244 (by decide)).trans (fr1 244 (by decide))))))
  refine q_callv (xs := [(6, 471, 0)]) (p2 := 34) rfl rfl rfl rfl (x_rcv_s 471 hs5.1) rfl (zc_fr_blanks_2 hs5 hm6 hm7 hm8 hm9 hm11 ht0 ht1 ht2 ht3 ht4 ht5 ht6) (Nat.le_refl _) (Nat.le_refl _) rfl ?_
  refine q_ret rfl ⟨rfl, by omega, by omega, ?_⟩
  refine q_const (p2 := 26) rfl rfl ?_
  refine q_store (loc2 := [(6, 0, 0), (0, 1, 0), (0, 0, 0)]) (p2 := 27) rfl rfl rfl rfl rfl ?_
  refine q_load (v := (0, 0, 0)) (p2 := 28) rfl rfl rfl rfl ?_
  refine q_load (v := (6, 0, 0)) (p2 := 29) rfl rfl rfl rfl ?_
  have hm12 := (zq_H_at hm2 ((fr5 0 (by decide)).trans ((fr4 0 (by decide)).trans (fr3 0 (by decide)))))
  refine q_getv (v := (0, 7, 0)) (p2 := 30) rfl hm12 (by decide) rfl rfl ?_
  refine q_icmp_s (p2 := 31) rfl (by decide) (by omega) (by omega) rfl (fun hb => absurd hb (show ¬ (¬ (0 < 7)) by omega)) (fun _ => ?_)
  refine q_load (v := (6, 0, 0)) (p2 := 32) rfl rfl rfl rfl ?_
  refine q_getv (v := (6, 471, 0)) (p2 := 33) rfl hm12 (by decide) rfl rfl ?_
  refine q_callr (xs := [(6, 471, 0)]) (p2 := 34) rfl rfl rfl rfl (x_rcv_s 471 hs5.1) rfl (zc_fr_goesOn_4 hs5 hm6 hm7 hm8 hm9 hm11 ht0 ht1 ht2 ht3 ht4 ht5 ht6) (Nat.le_refl _) (Nat.le_refl _) rfl ?_
  refine q_if0_s (p2 := 35) rfl (by decide) (by omega) rfl (fun hb => absurd hb (show ¬ (1 = 0) by omega)) (fun _ => ?_)
  refine q_load (v := (6, 0, 0)) (p2 := 36) rfl rfl rfl rfl ?_
  refine q_getv (v := (6, 471, 0)) (p2 := 37) rfl hm12 (by decide) rfl rfl ?_
  refine q_callKv (xs := [(6, 471, 0)]) (p2 := 38) rfl rfl rfl rfl (x_rcv_s 471 hs5.1) rfl rfl ?_
  refine x_f_of rfl ?_
  refine q_load (v := (6, 471, 0)) (p2 := 1) rfl rfl rfl rfl ?_
  refine q_getv (v := (0, 0, 0)) (p2 := 2) rfl hs5.1 (by decide) rfl rfl ?_
  refine q_store (loc2 := [(6, 471, 0), (0, 0, 0), (11, 0, 0), (11, 0, 0)]) (p2 := 3) rfl rfl rfl rfl rfl ?_
  refine q_load (v := (6, 471, 0)) (p2 := 4) rfl rfl rfl rfl ?_
  refine q_callrE (xs := [(6, 471, 0)]) (p2 := 5) rfl rfl rfl rfl (x_rcv_s 471 hs5.1) rfl (zc_fr_reference_5 hs5 hm6 hm7 hm8 hm9 hm11 ht0 ht1 ht2 ht3 ht4 ht5 ht6) (Nat.le_refl _) (Nat.le_refl _) rfl (fun φ13 hR13 => ?_)
  obtain ⟨hs13_0, fr13⟩ := hR13
  refine q_store (loc2 := [(6, 471, 0), (0, 0, 0), (0, 1, 0), (11, 0, 0)]) (p2 := 6) rfl rfl rfl rfl rfl ?_
  refine q_load (v := (6, 471, 0)) (p2 := 7) rfl rfl rfl rfl ?_
  refine q_getv (v := (0, 0, 0)) (p2 := 8) rfl hs13_0.1 (by decide) rfl rfl ?_
  refine q_if0_s (p2 := 9) rfl (by decide) (by omega) rfl (fun _ => ?_) (fun hb => absurd (show 0 = 0 by omega) hb)
  refine q_load (v := (6, 471, 0)) (p2 := 15) rfl rfl rfl rfl ?_
  refine q_load (v := (0, 1, 0)) (p2 := 16) rfl rfl rfl rfl ?_
  have hm14 := (zq_tp_at hm6 (fr13 1 (by decide)))
  have hm15 := (zq_T_at hm7 (fr13 2 (by decide)) (fr13 3 (by decide)) (fr13 4 (by decide)) (fr13 5 (by decide)) (fr13 6 (by decide)))
  have hm16 := (x_KS_at2 hm8 (fun j h1 h2 h3 h4 => (fr13 j (by omega))))
  refine x_n_lt (fun hlt18 => ?_)
  have hm17 := (x_PS_at hm9 (fun j hj hne => by have hj2 := x_some_lt hlt10 hne; exact (fr13 j (by omega))))
  have hm19 := (zq_nm_at hm11 (fr13 239 (by decide)) (fr13 242 (by decide)) (fr13 244 (by decide)))
  refine q_callvE (xs := [(0, 1, 0), (6, 471, 0)]) (p2 := 17) rfl rfl rfl rfl (x_rcv_s 471 hs13_0.1) rfl (zc_fr_addEntry_9 hs13_0 hm14 hm15 hm16 hm17 hm19 ht0 ht1 ht2 ht3 ht4 ht5 ht6) (Nat.le_refl _) (Nat.le_refl _) rfl (fun φ20 hR20 => ?_)
  obtain ⟨hs20_0, fr20⟩ := hR20
  refine q_load (v := (6, 471, 0)) (p2 := 18) rfl rfl rfl rfl ?_
  refine q_const (p2 := 19) rfl rfl ?_
  refine q_putfE (v := (0, 0, 0)) (p2 := 20) rfl hs20_0.1 (by decide) rfl rfl (fun φ21 f21 hh21 hg21 ho21 fr21 => ?_)
  have hs21 := zq_F_put_471_13 hs20_0 hh21 hg21 ho21 fr21
  refine q_load (v := (6, 471, 0)) (p2 := 21) rfl rfl rfl rfl ?_
  refine q_const (p2 := 22) rfl rfl ?_
  have hm22 := (zq_tp_at hm14 ((fr21 1 (by decide)).trans (fr20 1 (by decide) (by decide) (by decide) (by decide))))
  have hm23 := (zq_T_at hm15 ((fr21 2 (by decide)).trans (fr20 2 (by decide) (by decide) (by decide) (by decide))) ((fr21 3 (by decide)).trans (fr20 3 (by decide) (by decide) (by decide) (by decide))) ((fr21 4 (by decide)).trans (fr20 4 (by decide) (by decide) (by decide) (by decide))) ((fr21 5 (by decide)).trans (fr20 5 (by decide) (by decide) (by decide) (by decide))) ((fr21 6 (by decide)).trans (fr20 6 (by decide) (by decide) (by decide) (by decide))))
  have hm24 := (x_KS_at2 hm16 (fun j h1 h2 h3 h4 => ((fr21 j (by omega)).trans (fr20 j (by omega) (by omega) (by omega) (by omega)))))
  refine x_n_lt (fun hlt26 => ?_)
  have hm25 := (x_PS_at hm17 (fun j hj hne => by have hj2 := x_some_lt hlt18 hne; exact ((fr21 j (by omega)).trans (fr20 j (by omega) (by omega) (by omega) (by omega)))))
  have hm27 := (zq_nm_at hm19 ((fr21 239 (by decide)).trans (fr20 239 (by decide) (by decide) (by decide) (by decide))) ((fr21 242 (by decide)).trans (fr20 242 (by decide) (by decide) (by decide) (by decide))) ((fr21 244 (by decide)).trans (fr20 244 (by decide) (by decide) (by decide) (by decide))))
  refine q_callvE (xs := [(0, 61, 0), (6, 471, 0)]) (p2 := 23) rfl rfl rfl rfl (x_rcv_s 471 hs21.1) rfl (zc_fr_sign_10 hs21 hm22 hm23 hm24 hm25 hm27 ht0 ht1 ht2 ht3 ht4 ht5 ht6) (Nat.le_refl _) (Nat.le_refl _) rfl (fun φ28 hR28 => ?_)
  obtain ⟨hs28_0, fr28⟩ := hR28
  refine q_load (v := (6, 471, 0)) (p2 := 24) rfl rfl rfl rfl ?_
  have hm29 := (zq_tp_at hm22 (fr28 1 (by decide)))
  have hm30 := (zq_T_at hm23 (fr28 2 (by decide)) (fr28 3 (by decide)) (fr28 4 (by decide)) (fr28 5 (by decide)) (fr28 6 (by decide)))
  have hm31 := (x_KS_at2 hm24 (fun j h1 h2 h3 h4 => (fr28 j (by omega))))
  refine x_n_lt (fun hlt33 => ?_)
  have hm32 := (x_PS_at hm25 (fun j hj hne => by have hj2 := x_some_lt hlt26 hne; exact (fr28 j (by omega))))
  have hm34 := (zq_nm_at hm27 (fr28 239 (by decide)) (fr28 242 (by decide)) (fr28 244 (by decide)))
  refine q_callr (xs := [(6, 471, 0)]) (p2 := 25) rfl rfl rfl rfl (x_rcv_s 471 hs28_0.1) rfl (zc_fr_peek_14 hs28_0 hm29 hm30 hm31 hm32 hm34 ht0 ht1 ht2 ht3 ht4 ht5 ht6) (Nat.le_refl _) (Nat.le_refl _) rfl ?_
  refine q_const (p2 := 26) rfl rfl ?_
  refine q_icmp_s (p2 := 27) rfl (by decide) (by omega) (by omega) rfl (fun _ => ?_) (fun hb => absurd (show ¬ (97 = 40) by omega) hb)
  refine q_load (v := (6, 471, 0)) (p2 := 56) rfl rfl rfl rfl ?_
  refine q_const (p2 := 57) rfl rfl ?_
  refine q_callvE (xs := [(0, 1, 0), (6, 471, 0)]) (p2 := 58) rfl rfl rfl rfl (x_rcv_s 471 hs28_0.1) rfl (zc_fr_form_15 hs28_0 hm29 hm30 hm31 hm32 hm34 ht0 ht1 ht2 ht3 ht4 ht5 ht6) (Nat.le_refl _) (Nat.le_refl _) rfl (fun φ35 hR35 => ?_)
  obtain ⟨hs35_0, fr35⟩ := hR35
  refine q_load (v := (6, 471, 0)) (p2 := 59) rfl rfl rfl rfl ?_
  refine q_const (p2 := 60) rfl rfl ?_
  have hm36 := (zq_tp_at hm29 (fr35 1 (by decide) (by decide) (by decide)))
  have hm37 := (zq_T_at hm30 (fr35 2 (by decide) (by decide) (by decide)) (fr35 3 (by decide) (by decide) (by decide)) (fr35 4 (by decide) (by decide) (by decide)) (fr35 5 (by decide) (by decide) (by decide)) (fr35 6 (by decide) (by decide) (by decide)))
  have hm38 := (x_KS_at2 hm31 (fun j h1 h2 h3 h4 => (fr35 j (by omega) (by omega) (by omega))))
  refine x_n_lt (fun hlt40 => ?_)
  have hm39 := (x_PS_at hm32 (fun j hj hne => by have hj2 := x_some_lt hlt33 hne; exact (fr35 j (by omega) (by omega) (by omega))))
  have hm41 := (zq_nm_at hm34 (fr35 239 (by decide) (by decide) (by decide)) (fr35 242 (by decide) (by decide) (by decide)) (fr35 244 (by decide) (by decide) (by decide)))
  refine q_callvE (xs := [(0, 59, 0), (6, 471, 0)]) (p2 := 61) rfl rfl rfl rfl (x_rcv_s 471 hs35_0.1) rfl (zc_fr_sign_27 hs35_0 hm36 hm37 hm38 hm39 hm41 ht0 ht1 ht2 ht3 ht4 ht5 ht6) (Nat.le_refl _) (Nat.le_refl _) rfl (fun φ42 hR42 => ?_)
  obtain ⟨hs42_0, fr42⟩ := hR42
  refine q_load (v := (6, 471, 0)) (p2 := 62) rfl rfl rfl rfl ?_
  refine q_dup (p2 := 63) rfl rfl rfl ?_
  refine q_getv (v := (0, 0, 0)) (p2 := 64) rfl hs42_0.1 (by decide) rfl rfl ?_
  refine q_const (p2 := 65) rfl rfl ?_
  refine q_iop (w := 0 + 1) (z := 1) (p2 := 66) rfl (xo_add 0 1) (by decide) rfl ?_
  refine q_putfE (v := (0, 1, 0)) (p2 := 67) rfl hs42_0.1 (by decide) rfl rfl (fun φ43 f43 hh43 hg43 ho43 fr43 => ?_)
  have hs43 := zq_F_put_471_12 hs42_0 hh43 hg43 ho43 fr43
  refine q_ret rfl ⟨rfl, by omega, by omega, ?_⟩
  refine q_iinc (z := 1) (loc2 := [(6, 0, 0), (0, 1, 0), (0, 1, 0)]) (p2 := 39) rfl rfl (by decide) rfl rfl ?_
  refine q_goto rfl ?_
  refine q_load (v := (0, 1, 0)) (p2 := 28) rfl rfl rfl rfl ?_
  refine q_load (v := (6, 0, 0)) (p2 := 29) rfl rfl rfl rfl ?_
  have hm44 := (zq_H_at hm12 ((fr43 0 (by decide)).trans ((fr42 0 (by decide)).trans ((fr35 0 (by decide) (by decide) (by decide)).trans ((fr28 0 (by decide)).trans ((fr21 0 (by decide)).trans ((fr20 0 (by decide) (by decide) (by decide) (by decide)).trans (fr13 0 (by decide)))))))))
  refine q_getv (v := (0, 7, 0)) (p2 := 30) rfl hm44 (by decide) rfl rfl ?_
  refine q_icmp_s (p2 := 31) rfl (by decide) (by omega) (by omega) rfl (fun hb => absurd hb (show ¬ (¬ (1 < 7)) by omega)) (fun _ => ?_)
  refine q_load (v := (6, 0, 0)) (p2 := 32) rfl rfl rfl rfl ?_
  refine q_getv (v := (6, 471, 0)) (p2 := 33) rfl hm44 (by decide) rfl rfl ?_
  have hm45 := (zq_tp_at hm36 ((fr43 1 (by decide)).trans (fr42 1 (by decide))))
  have hm46 := (zq_T_at hm37 ((fr43 2 (by decide)).trans (fr42 2 (by decide))) ((fr43 3 (by decide)).trans (fr42 3 (by decide))) ((fr43 4 (by decide)).trans (fr42 4 (by decide))) ((fr43 5 (by decide)).trans (fr42 5 (by decide))) ((fr43 6 (by decide)).trans (fr42 6 (by decide))))
  have hm47 := (x_KS_at2 hm38 (fun j h1 h2 h3 h4 => ((fr43 j (by omega)).trans (fr42 j (by omega)))))
  refine x_n_lt (fun hlt49 => ?_)
  have hm48 := (x_PS_at hm39 (fun j hj hne => by have hj2 := x_some_lt hlt40 hne; exact ((fr43 j (by omega)).trans (fr42 j (by omega)))))
  have hm50 := (zq_nm_at hm41 ((fr43 239 (by decide)).trans (fr42 239 (by decide))) ((fr43 242 (by decide)).trans (fr42 242 (by decide))) ((fr43 244 (by decide)).trans (fr42 244 (by decide))))
  refine q_callr (xs := [(6, 471, 0)]) (p2 := 34) rfl rfl rfl rfl (x_rcv_s 471 hs43.1) rfl (zc_fr_goesOn_30 hs43 hm45 hm46 hm47 hm48 hm50 ht0 ht1 ht2 ht3 ht4 ht5 ht6) (Nat.le_refl _) (Nat.le_refl _) rfl ?_
  refine q_if0_s (p2 := 35) rfl (by decide) (by omega) rfl (fun _ => ?_) (fun hb => absurd (show 0 = 0 by omega) hb)
  refine q_iinc (z := 2) (loc2 := [(6, 0, 0), (0, 2, 0), (0, 1, 0)]) (p2 := 41) rfl rfl (by decide) rfl rfl ?_
  refine q_goto rfl ?_
  refine q_load (v := (0, 2, 0)) (p2 := 10) rfl rfl rfl rfl ?_
  refine q_const (p2 := 11) rfl rfl ?_
  refine q_icmp_s (p2 := 12) rfl (by decide) (by omega) (by omega) rfl (fun hb => absurd hb (show ¬ (2 < 2) by omega)) (fun _ => ?_)
  refine q_load (v := (6, 0, 0)) (p2 := 13) rfl rfl rfl rfl ?_
  refine q_getv (v := (6, 471, 0)) (p2 := 14) rfl hm44 (by decide) rfl rfl ?_
  refine q_getv (v := (0, 0, 0)) (p2 := 15) rfl hs43.1 (by decide) rfl rfl ?_
  refine q_if0_s (p2 := 16) rfl (by decide) (by omega) rfl (fun hb => absurd hb (show ¬ (¬ (0 = 0)) by omega)) (fun _ => ?_)
  refine q_load (v := (6, 0, 0)) (p2 := 17) rfl rfl rfl rfl ?_
  refine q_getv (v := (6, 471, 0)) (p2 := 18) rfl hm44 (by decide) rfl rfl ?_
  refine q_load (v := (0, 2, 0)) (p2 := 19) rfl rfl rfl rfl ?_
  refine q_const (p2 := 20) rfl rfl ?_
  refine q_icmp_s (p2 := 21) rfl (by decide) (by omega) (by omega) rfl (fun hb => absurd hb (show ¬ (¬ (2 = 2)) by omega)) (fun _ => ?_)
  refine q_const (p2 := 22) rfl rfl ?_
  refine q_goto rfl ?_
  refine q_callKv (xs := [(0, 1, 0), (6, 471, 0)]) (p2 := 25) rfl rfl rfl rfl (x_rcv_s 471 hs43.1) rfl rfl ?_
  refine x_f_of rfl ?_
  refine q_load (v := (6, 471, 0)) (p2 := 1) rfl rfl rfl rfl ?_
  refine q_load (v := (0, 1, 0)) (p2 := 2) rfl rfl rfl rfl ?_
  refine q_putfE (v := (0, 1, 0)) (p2 := 3) rfl hs43.1 (by decide) rfl rfl (fun φ51 f51 hh51 hg51 ho51 fr51 => ?_)
  have hs51 := zq_F_put_471_5 hs43 hh51 hg51 ho51 fr51
  refine q_load (v := (6, 471, 0)) (p2 := 4) rfl rfl rfl rfl ?_
  refine q_const (p2 := 5) rfl rfl ?_
  refine q_putfE (v := (0, 0, 0)) (p2 := 6) rfl hs51.1 (by decide) rfl rfl (fun φ52 f52 hh52 hg52 ho52 fr52 => ?_)
  have hs52 := zq_F_put_471_4 hs51 hh52 hg52 ho52 fr52
  refine q_load (v := (6, 471, 0)) (p2 := 7) rfl rfl rfl rfl ?_
  refine q_const (p2 := 8) rfl rfl ?_
  refine q_putfE (v := (0, 0, 0)) (p2 := 9) rfl hs52.1 (by decide) rfl rfl (fun φ53 f53 hh53 hg53 ho53 fr53 => ?_)
  have hs53 := zq_F_put_471_12 hs52 hh53 hg53 ho53 fr53
  refine q_const (p2 := 10) rfl rfl ?_
  refine q_store (loc2 := [(6, 471, 0), (0, 1, 0), (0, 0, 0)]) (p2 := 11) rfl rfl rfl rfl rfl ?_
  refine q_load (v := (0, 0, 0)) (p2 := 12) rfl rfl rfl rfl ?_
  refine q_load (v := (6, 471, 0)) (p2 := 13) rfl rfl rfl rfl ?_
  refine q_getv (v := (0, 1, 0)) (p2 := 14) rfl hs53.1 (by decide) rfl rfl ?_
  refine q_icmp_s (p2 := 15) rfl (by decide) (by omega) (by omega) rfl (fun hb => absurd hb (show ¬ (¬ (0 < 1)) by omega)) (fun _ => ?_)
  refine q_load (v := (6, 471, 0)) (p2 := 16) rfl rfl rfl rfl ?_
  refine q_getv (v := (0, 1, 0)) (p2 := 17) rfl hs53.1 (by decide) rfl rfl ?_
  refine q_if0_s (p2 := 18) rfl (by decide) (by omega) rfl (fun hb => absurd hb (show ¬ (1 = 0) by omega)) (fun _ => ?_)
  refine q_load (v := (6, 471, 0)) (p2 := 19) rfl rfl rfl rfl ?_
  refine q_getv (v := (6, 7, 0)) (p2 := 20) rfl hs53.1 (by decide) rfl rfl ?_
  refine q_load (v := (6, 471, 0)) (p2 := 21) rfl rfl rfl rfl ?_
  refine q_getv (v := (6, 7, 0)) (p2 := 22) rfl hs53.1 (by decide) rfl rfl ?_
  refine x_n_lt (fun hlt55 => ?_)
  have hm54 := (x_PS_at hm48 (fun j hj hne => by have hj2 := x_some_lt hlt49 hne; exact ((fr53 j (by omega)).trans ((fr52 j (by omega)).trans (fr51 j (by omega))))))
  refine q_getv (v := (0, made, 0)) (p2 := 23) rfl hm54.1.choose_spec.1 (by decide) hm54.1.choose_spec.2.2.2.1 rfl ?_
  refine q_load (v := (0, 0, 0)) (p2 := 24) rfl rfl rfl rfl ?_
  refine q_iaddz (z := made) (p2 := 25) rfl (by omega) (by omega) rfl ?_
  refine q_load (v := (6, 471, 0)) (p2 := 26) rfl rfl rfl rfl ?_
  refine q_getv (v := (6, 474, 0)) (p2 := 27) rfl hs53.1 (by decide) rfl rfl ?_
  refine q_load (v := (0, 0, 0)) (p2 := 28) rfl rfl rfl rfl ?_
  refine q_aldT (tag := 0) (v := 1) (p2 := 29) rfl hs53.2.2.1 (by omega) (by omega) (x_s_eq) rfl ?_
  have hm56 := (x_LK_at2 hLK0 (fun j h1 h2 => ((fr53 j (by omega)).trans ((fr52 j (by omega)).trans ((fr51 j (by omega)).trans ((fr43 j (by omega)).trans ((fr42 j (by omega)).trans ((fr35 j (by omega) (by omega) (by omega)).trans ((fr28 j (by omega)).trans ((fr21 j (by omega)).trans ((fr20 j (by omega) (by omega) (by omega) (by omega)).trans ((fr13 j (by omega)).trans ((fr5 j (by omega)).trans ((fr4 j (by omega)).trans ((fr3 j (by omega)).trans (fr1 j (by omega)))))))))))))))))
  refine q_callvE (xs := [(0, 1, 0), (0, made, 0), (6, 7, 0)]) (p2 := 30) rfl rfl rfl rfl (x_rcv_s 7 hm54.1.choose_spec.1) rfl (e_announceP hm54 (by omega) (by omega)) (Nat.le_refl _) (Nat.le_refl _) rfl (fun φ57 hR57 => ?_)
  obtain ⟨hPS57, frn57⟩ := hR57
  refine x_n_lt (fun hlt58 => ?_)
  have hLZ57 := x_LK_cm (x := made) (c_ := 1) hm56 (by omega) (fun j h1 h2 => (frn57 j (by omega)))
  refine q_iinc (z := 1) (loc2 := [(6, 471, 0), (0, 1, 0), (0, 1, 0)]) (p2 := 31) rfl rfl (by decide) rfl rfl ?_
  refine q_goto rfl ?_
  refine q_load (v := (0, 1, 0)) (p2 := 12) rfl rfl rfl rfl ?_
  refine q_load (v := (6, 471, 0)) (p2 := 13) rfl rfl rfl rfl ?_
  have hm59 := (zq_F_at hs53 (frn57 471 (by omega)) (frn57 473 (by omega)) (frn57 474 (by omega)) (frn57 475 (by omega)) (frn57 476 (by omega)) (frn57 477 (by omega)))
  refine q_getv (v := (0, 1, 0)) (p2 := 14) rfl hm59.1 (by decide) rfl rfl ?_
  refine q_icmp_s (p2 := 15) rfl (by decide) (by omega) (by omega) rfl (fun _ => ?_) (fun hb => absurd (show ¬ (1 < 1) by omega) hb)
  refine q_load (v := (6, 471, 0)) (p2 := 33) rfl rfl rfl rfl ?_
  have hm60 := (zq_tp_at hm45 ((frn57 1 (by omega)).trans ((fr53 1 (by decide)).trans ((fr52 1 (by decide)).trans (fr51 1 (by decide))))))
  have hm61 := (zq_T_at hm46 ((frn57 2 (by omega)).trans ((fr53 2 (by decide)).trans ((fr52 2 (by decide)).trans (fr51 2 (by decide))))) ((frn57 3 (by omega)).trans ((fr53 3 (by decide)).trans ((fr52 3 (by decide)).trans (fr51 3 (by decide))))) ((frn57 4 (by omega)).trans ((fr53 4 (by decide)).trans ((fr52 4 (by decide)).trans (fr51 4 (by decide))))) ((frn57 5 (by omega)).trans ((fr53 5 (by decide)).trans ((fr52 5 (by decide)).trans (fr51 5 (by decide))))) ((frn57 6 (by omega)).trans ((fr53 6 (by decide)).trans ((fr52 6 (by decide)).trans (fr51 6 (by decide))))))
  have hm62 := (x_KS_at2 hm47 (fun j h1 h2 h3 h4 => ((frn57 j (by omega)).trans ((fr53 j (by omega)).trans ((fr52 j (by omega)).trans (fr51 j (by omega)))))))
  have hm63 := (zq_nm_at hm50 ((frn57 239 (by omega)).trans ((fr53 239 (by decide)).trans ((fr52 239 (by decide)).trans (fr51 239 (by decide))))) ((frn57 242 (by omega)).trans ((fr53 242 (by decide)).trans ((fr52 242 (by decide)).trans (fr51 242 (by decide))))) ((frn57 244 (by omega)).trans ((fr53 244 (by decide)).trans ((fr52 244 (by decide)).trans (fr51 244 (by decide))))))
  refine q_callv (xs := [(6, 471, 0)]) (p2 := 34) rfl rfl rfl rfl (x_rcv_s 471 hm59.1) rfl (zc_fr_blanks_31 hm59 hm60 hm61 hm62 hPS57 hm63 ht0 ht1 ht2 ht3 ht4 ht5 ht6) (Nat.le_refl _) (Nat.le_refl _) rfl ?_
  refine q_ret rfl ⟨rfl, by omega, by omega, ?_⟩
  refine q_const (p2 := 26) rfl rfl ?_
  refine q_store (loc2 := [(6, 0, 0), (0, 2, 0), (0, 0, 0)]) (p2 := 27) rfl rfl rfl rfl rfl ?_
  refine q_load (v := (0, 0, 0)) (p2 := 28) rfl rfl rfl rfl ?_
  refine q_load (v := (6, 0, 0)) (p2 := 29) rfl rfl rfl rfl ?_
  have hm64 := (zq_H_at hm44 ((frn57 0 (by omega)).trans ((fr53 0 (by decide)).trans ((fr52 0 (by decide)).trans (fr51 0 (by decide))))))
  refine q_getv (v := (0, 7, 0)) (p2 := 30) rfl hm64 (by decide) rfl rfl ?_
  refine q_icmp_s (p2 := 31) rfl (by decide) (by omega) (by omega) rfl (fun hb => absurd hb (show ¬ (¬ (0 < 7)) by omega)) (fun _ => ?_)
  refine q_load (v := (6, 0, 0)) (p2 := 32) rfl rfl rfl rfl ?_
  refine q_getv (v := (6, 471, 0)) (p2 := 33) rfl hm64 (by decide) rfl rfl ?_
  refine q_callr (xs := [(6, 471, 0)]) (p2 := 34) rfl rfl rfl rfl (x_rcv_s 471 hm59.1) rfl (zc_fr_goesOn_33 hm59 hm60 hm61 hm62 hPS57 hm63 ht0 ht1 ht2 ht3 ht4 ht5 ht6) (Nat.le_refl _) (Nat.le_refl _) rfl ?_
  refine q_if0_s (p2 := 35) rfl (by decide) (by omega) rfl (fun hb => absurd hb (show ¬ (1 = 0) by omega)) (fun _ => ?_)
  refine q_load (v := (6, 0, 0)) (p2 := 36) rfl rfl rfl rfl ?_
  refine q_getv (v := (6, 471, 0)) (p2 := 37) rfl hm64 (by decide) rfl rfl ?_
  refine q_callKv (xs := [(6, 471, 0)]) (p2 := 38) rfl rfl rfl rfl (x_rcv_s 471 hm59.1) rfl rfl ?_
  refine x_f_of rfl ?_
  refine q_load (v := (6, 471, 0)) (p2 := 1) rfl rfl rfl rfl ?_
  refine q_getv (v := (0, 0, 0)) (p2 := 2) rfl hm59.1 (by decide) rfl rfl ?_
  refine q_store (loc2 := [(6, 471, 0), (0, 0, 0), (11, 0, 0), (11, 0, 0)]) (p2 := 3) rfl rfl rfl rfl rfl ?_
  refine q_load (v := (6, 471, 0)) (p2 := 4) rfl rfl rfl rfl ?_
  refine q_callrE (xs := [(6, 471, 0)]) (p2 := 5) rfl rfl rfl rfl (x_rcv_s 471 hm59.1) rfl (zc_fr_reference_34 hm59 hm60 hm61 hm62 hPS57 hm63 ht0 ht1 ht2 ht3 ht4 ht5 ht6) (Nat.le_refl _) (Nat.le_refl _) rfl (fun φ65 hR65 => ?_)
  obtain ⟨hs65_0, fr65⟩ := hR65
  refine q_store (loc2 := [(6, 471, 0), (0, 0, 0), (0, 1, 0), (11, 0, 0)]) (p2 := 6) rfl rfl rfl rfl rfl ?_
  refine q_load (v := (6, 471, 0)) (p2 := 7) rfl rfl rfl rfl ?_
  refine q_getv (v := (0, 1, 0)) (p2 := 8) rfl hs65_0.1 (by decide) rfl rfl ?_
  refine q_if0_s (p2 := 9) rfl (by decide) (by omega) rfl (fun hb => absurd hb (show ¬ (1 = 0) by omega)) (fun _ => ?_)
  refine q_load (v := (6, 471, 0)) (p2 := 10) rfl rfl rfl rfl ?_
  refine q_load (v := (0, 0, 0)) (p2 := 11) rfl rfl rfl rfl ?_
  refine q_load (v := (0, 1, 0)) (p2 := 12) rfl rfl rfl rfl ?_
  refine q_callKv (xs := [(0, 1, 0), (0, 0, 0), (6, 471, 0)]) (p2 := 13) rfl rfl rfl rfl (x_rcv_s 471 hs65_0.1) rfl rfl ?_
  refine x_f_of rfl ?_
  refine q_load (v := (6, 471, 0)) (p2 := 1) rfl rfl rfl rfl ?_
  refine q_getv (v := (0, 0, 0)) (p2 := 2) rfl hs65_0.1 (by decide) rfl rfl ?_
  refine q_load (v := (6, 471, 0)) (p2 := 3) rfl rfl rfl rfl ?_
  refine q_getv (v := (0, 1, 0)) (p2 := 4) rfl hs65_0.1 (by decide) rfl rfl ?_
  refine q_icmp_s (p2 := 5) rfl (by decide) (by omega) (by omega) rfl (fun hb => absurd hb (show ¬ (¬ (0 < 1)) by omega)) (fun _ => ?_)
  refine q_load (v := (6, 471, 0)) (p2 := 6) rfl rfl rfl rfl ?_
  refine q_getv (v := (0, 0, 0)) (p2 := 7) rfl hs65_0.1 (by decide) rfl rfl ?_
  refine q_const (p2 := 8) rfl rfl ?_
  refine q_icmp_s (p2 := 9) rfl (by decide) (by omega) (by omega) rfl (fun _ => ?_) (fun hb => absurd (show 0 < 440 by omega) hb)
  refine q_load (v := (6, 471, 0)) (p2 := 11) rfl rfl rfl rfl ?_
  refine q_getv (v := (6, 475, 0)) (p2 := 12) rfl hs65_0.1 (by decide) rfl rfl ?_
  refine q_load (v := (6, 471, 0)) (p2 := 13) rfl rfl rfl rfl ?_
  refine q_getv (v := (0, 0, 0)) (p2 := 14) rfl hs65_0.1 (by decide) rfl rfl ?_
  refine q_aldT (tag := 0) (v := 1) (p2 := 15) rfl hs65_0.2.2.2.1 (by omega) (by omega) (x_s_eq) rfl ?_
  refine q_if0_s (p2 := 16) rfl (by decide) (by omega) rfl (fun hb => absurd hb (show ¬ (1 = 0) by omega)) (fun _ => ?_)
  refine q_load (v := (6, 471, 0)) (p2 := 17) rfl rfl rfl rfl ?_
  refine q_getv (v := (6, 7, 0)) (p2 := 18) rfl hs65_0.1 (by decide) rfl rfl ?_
  refine x_n_lt (fun hlt67 => ?_)
  have hm66 := (x_PS_at hPS57 (fun j hj hne => by have hj2 := x_some_lt hlt58 hne; exact (fr65 j (by omega))))
  refine q_getv (v := (6, 237, 0)) (p2 := 19) rfl hm66.1.choose_spec.1 (by decide) hm66.1.choose_spec.2.1 rfl ?_
  refine q_load (v := (6, 471, 0)) (p2 := 20) rfl rfl rfl rfl ?_
  refine q_getv (v := (6, 474, 0)) (p2 := 21) rfl hs65_0.1 (by decide) rfl rfl ?_
  refine q_load (v := (6, 471, 0)) (p2 := 22) rfl rfl rfl rfl ?_
  refine q_getv (v := (0, 0, 0)) (p2 := 23) rfl hs65_0.1 (by decide) rfl rfl ?_
  refine q_aldT (tag := 0) (v := 1) (p2 := 24) rfl hs65_0.2.2.1 (by omega) (by omega) (x_s_eq) rfl ?_
  have hm68 := (x_KS_at2 hm62 (fun j h1 h2 h3 h4 => (fr65 j (by omega))))
  have hm69 := (zq_OV_at hOV ((fr65 452 (by decide)).trans ((frn57 452 (by omega)).trans ((fr53 452 (by decide)).trans ((fr52 452 (by decide)).trans ((fr51 452 (by decide)).trans ((fr43 452 (by decide)).trans ((fr42 452 (by decide)).trans ((fr35 452 (by decide) (by decide) (by decide)).trans ((fr28 452 (by decide)).trans ((fr21 452 (by decide)).trans ((fr20 452 (by decide) (by decide) (by decide) (by decide)).trans ((fr13 452 (by decide)).trans ((fr5 452 (by decide)).trans ((fr4 452 (by decide)).trans ((fr3 452 (by decide)).trans (fr1 452 (by decide))))))))))))))))) ((fr65 453 (by decide)).trans ((frn57 453 (by omega)).trans ((fr53 453 (by decide)).trans ((fr52 453 (by decide)).trans ((fr51 453 (by decide)).trans ((fr43 453 (by decide)).trans ((fr42 453 (by decide)).trans ((fr35 453 (by decide) (by decide) (by decide)).trans ((fr28 453 (by decide)).trans ((fr21 453 (by decide)).trans ((fr20 453 (by decide) (by decide) (by decide) (by decide)).trans ((fr13 453 (by decide)).trans ((fr5 453 (by decide)).trans ((fr4 453 (by decide)).trans ((fr3 453 (by decide)).trans (fr1 453 (by decide))))))))))))))))))
  refine q_callr (xs := [(0, 1, 0), (6, 237, 0)]) (p2 := 25) rfl rfl rfl rfl (x_rcv_s 237 hm68.2.2.2.2.2.2.2.2.2.1.choose_spec.1) rfl (zc_s_reason_1 hm68.2.2.2.2.2.2.2.2.2 hm68.2.2.2.2.2.2.2.1 hm69 (hco 0 (by decide)) (hco 1 (by decide)) (hco 2 (by decide)) (hco 3 (by decide)) (hco 4 (by decide)) (hco 5 (by decide)) (hco 6 (by decide)) (hco 7 (by decide))) (Nat.le_refl _) (Nat.le_refl _) rfl ?_
  refine q_if0_s (p2 := 26) rfl (by decide) (by omega) rfl (fun _ => ?_) (fun hb => absurd (show ¬ (4 = 0) by omega) hb)
  refine q_const (p2 := 29) rfl rfl ?_
  refine q_store (loc2 := [(6, 471, 0), (0, 0, 0), (0, 1, 0), (0, 0, 0)]) (p2 := 30) rfl rfl rfl rfl rfl ?_
  refine q_load (v := (6, 471, 0)) (p2 := 31) rfl rfl rfl rfl ?_
  refine q_load (v := (0, 1, 0)) (p2 := 32) rfl rfl rfl rfl ?_
  have hm70 := (zq_tp_at hm60 (fr65 1 (by decide)))
  have hm71 := (zq_T_at hm61 (fr65 2 (by decide)) (fr65 3 (by decide)) (fr65 4 (by decide)) (fr65 5 (by decide)) (fr65 6 (by decide)))
  have hm72 := (zq_nm_at hm63 (fr65 239 (by decide)) (fr65 242 (by decide)) (fr65 244 (by decide)))
  refine q_callr (xs := [(0, 1, 0), (6, 471, 0)]) (p2 := 33) rfl rfl rfl rfl (x_rcv_s 471 hs65_0.1) rfl (zc_fr_entryOf_38 hs65_0 hm70 hm71 hm68 hm66 hm72 ht0 ht1 ht2 ht3 ht4 ht5 ht6) (Nat.le_refl _) (Nat.le_refl _) rfl ?_
  refine q_load (v := (6, 471, 0)) (p2 := 34) rfl rfl rfl rfl ?_
  refine q_getv (v := (0, 0, 0)) (p2 := 35) rfl hs65_0.1 (by decide) rfl rfl ?_
  refine q_icmp_s (p2 := 36) rfl (by decide) (by omega) (by omega) rfl (fun hb => absurd hb (show ¬ (0 < 0) by omega)) (fun _ => ?_)
  refine q_load (v := (0, 0, 0)) (p2 := 37) rfl rfl rfl rfl ?_
  refine q_if0_s (p2 := 38) rfl (by decide) (by omega) rfl (fun _ => ?_) (fun hb => absurd (show 0 = 0 by omega) hb)
  refine q_load (v := (6, 471, 0)) (p2 := 47) rfl rfl rfl rfl ?_
  refine q_const (p2 := 48) rfl rfl ?_
  refine q_load (v := (0, 0, 0)) (p2 := 49) rfl rfl rfl rfl ?_
  refine q_callvE (xs := [(0, 0, 0), (0, 2, 0), (6, 471, 0)]) (p2 := 50) rfl rfl rfl rfl (x_rcv_s 471 hs65_0.1) rfl (zc_fr_fail_39 hs65_0 hm70 hm71 hm68 hm66 hm72 ht0 ht1 ht2 ht3 ht4 ht5 ht6) (Nat.le_refl _) (Nat.le_refl _) rfl (fun φ73 hR73 => ?_)
  obtain ⟨hs73_0, fr73⟩ := hR73
  refine q_load (v := (6, 471, 0)) (p2 := 51) rfl rfl rfl rfl ?_
  refine q_getv (v := (6, 7, 0)) (p2 := 52) rfl hs73_0.1 (by decide) rfl rfl ?_
  refine q_load (v := (6, 471, 0)) (p2 := 53) rfl rfl rfl rfl ?_
  refine q_getv (v := (6, 7, 0)) (p2 := 54) rfl hs73_0.1 (by decide) rfl rfl ?_
  refine x_n_lt (fun hlt75 => ?_)
  have hm74 := (x_PS_at hm66 (fun j hj hne => by have hj2 := x_some_lt hlt67 hne; exact (fr73 j (by omega))))
  refine q_getv (v := (0, made, 0)) (p2 := 55) rfl hm74.1.choose_spec.1 (by decide) hm74.1.choose_spec.2.2.2.1 rfl ?_
  refine q_load (v := (6, 471, 0)) (p2 := 56) rfl rfl rfl rfl ?_
  refine q_getv (v := (0, 0, 0)) (p2 := 57) rfl hs73_0.1 (by decide) rfl rfl ?_
  refine q_iaddz (z := made) (p2 := 58) rfl (by omega) (by omega) rfl ?_
  have hm76 := (x_LK_at2 hLZ57 (fun j h1 h2 => ((fr73 j (by omega)).trans (fr65 j (by omega)))))
  have hm77 := (x_SP_at hSP (fun j hj hne => by have hj2 := x_some_lt hlt0 hne; exact ((fr73 j (by omega)).trans ((fr65 j (by omega)).trans ((frn57 j (by omega)).trans ((fr53 j (by omega)).trans ((fr52 j (by omega)).trans ((fr51 j (by omega)).trans ((fr43 j (by omega)).trans ((fr42 j (by omega)).trans ((fr35 j (by omega) (by omega) (by omega)).trans ((fr28 j (by omega)).trans ((fr21 j (by omega)).trans ((fr20 j (by omega) (by omega) (by omega) (by omega)).trans ((fr13 j (by omega)).trans ((fr5 j (by omega)).trans ((fr4 j (by omega)).trans ((fr3 j (by omega)).trans (fr1 j (by omega))))))))))))))))))))
  refine q_callvE (xs := [(0, made, 0), (6, 7, 0)]) (p2 := 59) rfl rfl rfl rfl (x_rcv_s 7 hm74.1.choose_spec.1) rfl (e_emptyP hm74 (by omega)) (Nat.le_refl _) (Nat.le_refl _) rfl (fun φ78 hR78 => ?_)
  obtain ⟨hPS78, frn78⟩ := hR78
  have hPZ78 : x_PS φ78 A B made sv svm 1 (x_s comb made 1) (x_em made hm) := hPS78
  refine x_n_lt (fun hlt79 => ?_)
  have hLZ78 := x_LK_st1 (made2 := made) (comb2 := (x_s comb made 1)) (hm2 := (x_em made hm)) hm76 (fun j h1 h2 => (frn78 j (by omega) (by omega)))
  refine q_ret rfl ⟨rfl, by omega, by omega, ?_⟩
  refine q_goto rfl ?_
  refine q_load (v := (6, 471, 0)) (p2 := 18) rfl rfl rfl rfl ?_
  refine q_const (p2 := 19) rfl rfl ?_
  have hm80 := (zq_F_at hs73_0 (frn78 471 (by omega) (by omega)) (frn78 473 (by omega) (by omega)) (frn78 474 (by omega) (by omega)) (frn78 475 (by omega) (by omega)) (frn78 476 (by omega) (by omega)) (frn78 477 (by omega) (by omega)))
  refine q_putfE (v := (0, 0, 0)) (p2 := 20) rfl hm80.1 (by decide) rfl rfl (fun φ81 f81 hh81 hg81 ho81 fr81 => ?_)
  have hs81 := zq_F_put_471_13 hm80 hh81 hg81 ho81 fr81
  refine q_load (v := (6, 471, 0)) (p2 := 21) rfl rfl rfl rfl ?_
  refine q_const (p2 := 22) rfl rfl ?_
  have hm82 := (zq_tp_at hm70 ((fr81 1 (by decide)).trans ((frn78 1 (by omega) (by omega)).trans (fr73 1 (by decide)))))
  have hm83 := (zq_T_at hm71 ((fr81 2 (by decide)).trans ((frn78 2 (by omega) (by omega)).trans (fr73 2 (by decide)))) ((fr81 3 (by decide)).trans ((frn78 3 (by omega) (by omega)).trans (fr73 3 (by decide)))) ((fr81 4 (by decide)).trans ((frn78 4 (by omega) (by omega)).trans (fr73 4 (by decide)))) ((fr81 5 (by decide)).trans ((frn78 5 (by omega) (by omega)).trans (fr73 5 (by decide)))) ((fr81 6 (by decide)).trans ((frn78 6 (by omega) (by omega)).trans (fr73 6 (by decide)))))
  have hm84 := (x_KS_at2 hm68 (fun j h1 h2 h3 h4 => ((fr81 j (by omega)).trans ((frn78 j (by omega) (by omega)).trans (fr73 j (by omega))))))
  refine x_n_lt (fun hlt86 => ?_)
  have hm85 := (x_PS_at hPZ78 (fun j hj hne => by have hj2 := x_some_lt hlt79 hne; exact (fr81 j (by omega))))
  have hm87 := (zq_nm_at hm72 ((fr81 239 (by decide)).trans ((frn78 239 (by omega) (by omega)).trans (fr73 239 (by decide)))) ((fr81 242 (by decide)).trans ((frn78 242 (by omega) (by omega)).trans (fr73 242 (by decide)))) ((fr81 244 (by decide)).trans ((frn78 244 (by omega) (by omega)).trans (fr73 244 (by decide)))))
  refine q_callv (xs := [(0, 61, 0), (6, 471, 0)]) (p2 := 23) rfl rfl rfl rfl (x_rcv_s 471 hs81.1) rfl (zc_fr_sign_40 hs81 hm82 hm83 hm84 hm85 hm87 ht0 ht1 ht2 ht3 ht4 ht5 ht6) (Nat.le_refl _) (Nat.le_refl _) rfl ?_
  refine q_load (v := (6, 471, 0)) (p2 := 24) rfl rfl rfl rfl ?_
  refine q_callr (xs := [(6, 471, 0)]) (p2 := 25) rfl rfl rfl rfl (x_rcv_s 471 hs81.1) rfl (zc_fr_peek_42 hs81 hm82 hm83 hm84 hm85 hm87 ht0 ht1 ht2 ht3 ht4 ht5 ht6) (Nat.le_refl _) (Nat.le_refl _) rfl ?_
  refine q_const (p2 := 26) rfl rfl ?_
  refine q_icmp_s (p2 := 27) rfl (by decide) (by omega) (by omega) rfl (fun _ => ?_) (fun hb => absurd (show ¬ (61 = 40) by omega) hb)
  refine q_load (v := (6, 471, 0)) (p2 := 56) rfl rfl rfl rfl ?_
  refine q_const (p2 := 57) rfl rfl ?_
  refine q_callvE (xs := [(0, 1, 0), (6, 471, 0)]) (p2 := 58) rfl rfl rfl rfl (x_rcv_s 471 hs81.1) rfl (zc_fr_form_43 hs81 hm82 hm83 hm84 hm85 hm87 ht0 ht1 ht2 ht3 ht4 ht5 ht6) (Nat.le_refl _) (Nat.le_refl _) rfl (fun φ88 hR88 => ?_)
  obtain ⟨hs88_0, fr88⟩ := hR88
  refine q_load (v := (6, 471, 0)) (p2 := 59) rfl rfl rfl rfl ?_
  refine q_const (p2 := 60) rfl rfl ?_
  have hm89 := (zq_tp_at hm82 (fr88 1 (by decide)))
  have hm90 := (zq_T_at hm83 (fr88 2 (by decide)) (fr88 3 (by decide)) (fr88 4 (by decide)) (fr88 5 (by decide)) (fr88 6 (by decide)))
  have hm91 := (x_KS_at2 hm84 (fun j h1 h2 h3 h4 => (fr88 j (by omega))))
  refine x_n_lt (fun hlt93 => ?_)
  have hm92 := (x_PS_at hm85 (fun j hj hne => by have hj2 := x_some_lt hlt86 hne; exact (fr88 j (by omega))))
  have hm94 := (zq_nm_at hm87 (fr88 239 (by decide)) (fr88 242 (by decide)) (fr88 244 (by decide)))
  refine q_callv (xs := [(0, 59, 0), (6, 471, 0)]) (p2 := 61) rfl rfl rfl rfl (x_rcv_s 471 hs88_0.1) rfl (zc_fr_sign_50 hs88_0 hm89 hm90 hm91 hm92 hm94 ht0 ht1 ht2 ht3 ht4 ht5 ht6) (Nat.le_refl _) (Nat.le_refl _) rfl ?_
  refine q_load (v := (6, 471, 0)) (p2 := 62) rfl rfl rfl rfl ?_
  refine q_dup (p2 := 63) rfl rfl rfl ?_
  refine q_getv (v := (0, 0, 0)) (p2 := 64) rfl hs88_0.1 (by decide) rfl rfl ?_
  refine q_const (p2 := 65) rfl rfl ?_
  refine q_iop (w := 0 + 1) (z := 1) (p2 := 66) rfl (xo_add 0 1) (by decide) rfl ?_
  refine q_putfE (v := (0, 1, 0)) (p2 := 67) rfl hs88_0.1 (by decide) rfl rfl (fun φ95 f95 hh95 hg95 ho95 fr95 => ?_)
  have hs95 := zq_F_put_471_12 hs88_0 hh95 hg95 ho95 fr95
  refine q_ret rfl ⟨rfl, by omega, by omega, ?_⟩
  refine q_iinc (z := 1) (loc2 := [(6, 0, 0), (0, 2, 0), (0, 1, 0)]) (p2 := 39) rfl rfl (by decide) rfl rfl ?_
  refine q_goto rfl ?_
  refine q_load (v := (0, 1, 0)) (p2 := 28) rfl rfl rfl rfl ?_
  refine q_load (v := (6, 0, 0)) (p2 := 29) rfl rfl rfl rfl ?_
  have hm96 := (zq_H_at hm64 ((fr95 0 (by decide)).trans ((fr88 0 (by decide)).trans ((fr81 0 (by decide)).trans ((frn78 0 (by omega) (by omega)).trans ((fr73 0 (by decide)).trans (fr65 0 (by decide))))))))
  refine q_getv (v := (0, 7, 0)) (p2 := 30) rfl hm96 (by decide) rfl rfl ?_
  refine q_icmp_s (p2 := 31) rfl (by decide) (by omega) (by omega) rfl (fun hb => absurd hb (show ¬ (¬ (1 < 7)) by omega)) (fun _ => ?_)
  refine q_load (v := (6, 0, 0)) (p2 := 32) rfl rfl rfl rfl ?_
  refine q_getv (v := (6, 471, 0)) (p2 := 33) rfl hm96 (by decide) rfl rfl ?_
  have hm97 := (zq_tp_at hm89 (fr95 1 (by decide)))
  have hm98 := (zq_T_at hm90 (fr95 2 (by decide)) (fr95 3 (by decide)) (fr95 4 (by decide)) (fr95 5 (by decide)) (fr95 6 (by decide)))
  have hm99 := (x_KS_at2 hm91 (fun j h1 h2 h3 h4 => (fr95 j (by omega))))
  refine x_n_lt (fun hlt101 => ?_)
  have hm100 := (x_PS_at hm92 (fun j hj hne => by have hj2 := x_some_lt hlt93 hne; exact (fr95 j (by omega))))
  have hm102 := (zq_nm_at hm94 (fr95 239 (by decide)) (fr95 242 (by decide)) (fr95 244 (by decide)))
  refine q_callr (xs := [(6, 471, 0)]) (p2 := 34) rfl rfl rfl rfl (x_rcv_s 471 hs95.1) rfl (zc_fr_goesOn_51 hs95 hm97 hm98 hm99 hm100 hm102 ht0 ht1 ht2 ht3 ht4 ht5 ht6) (Nat.le_refl _) (Nat.le_refl _) rfl ?_
  refine q_if0_s (p2 := 35) rfl (by decide) (by omega) rfl (fun _ => ?_) (fun hb => absurd (show 0 = 0 by omega) hb)
  refine q_iinc (z := 3) (loc2 := [(6, 0, 0), (0, 3, 0), (0, 1, 0)]) (p2 := 41) rfl rfl (by decide) rfl rfl ?_
  refine q_goto rfl ?_
  refine q_load (v := (0, 3, 0)) (p2 := 10) rfl rfl rfl rfl ?_
  refine q_const (p2 := 11) rfl rfl ?_
  refine q_icmp_s (p2 := 12) rfl (by decide) (by omega) (by omega) rfl (fun _ => ?_) (fun hb => absurd (show 2 < 3 by omega) hb)
  refine q_load (v := (6, 0, 0)) (p2 := 43) rfl rfl rfl rfl ?_
  refine q_const (p2 := 44) rfl rfl ?_
  refine q_putfE (v := (0, 0, 0)) (p2 := 45) rfl hm96 (by decide) rfl rfl (fun φ103 f103 hh103 hg103 ho103 fr103 => ?_)
  have hs103 := zq_H_put_0_1 hm96 hh103 hg103 ho103 fr103
  refine q_load (v := (6, 0, 0)) (p2 := 46) rfl rfl rfl rfl ?_
  refine q_load (v := (6, 0, 0)) (p2 := 47) rfl rfl rfl rfl ?_
  refine q_getv (v := (6, 471, 0)) (p2 := 48) rfl hs103 (by decide) rfl rfl ?_
  have hm104 := (zq_F_at hs95 (fr103 471 (by decide)) (fr103 473 (by decide)) (fr103 474 (by decide)) (fr103 475 (by decide)) (fr103 476 (by decide)) (fr103 477 (by decide)))
  refine q_getv (v := (0, 2, 0)) (p2 := 49) rfl hm104.1 (by decide) rfl rfl ?_
  refine q_putfE (v := (0, 2, 0)) (p2 := 50) rfl hs103 (by decide) rfl rfl (fun φ105 f105 hh105 hg105 ho105 fr105 => ?_)
  have hs105 := zq_H_put_0_13 hs103 hh105 hg105 ho105 fr105
  refine q_load (v := (6, 0, 0)) (p2 := 51) rfl rfl rfl rfl ?_
  refine q_getv (v := (6, 471, 0)) (p2 := 52) rfl hs105 (by decide) rfl rfl ?_
  have hm106 := (zq_F_at hm104 (fr105 471 (by decide)) (fr105 473 (by decide)) (fr105 474 (by decide)) (fr105 475 (by decide)) (fr105 476 (by decide)) (fr105 477 (by decide)))
  have hm107 := (zq_tp_at hm97 ((fr105 1 (by decide)).trans (fr103 1 (by decide))))
  have hm108 := (zq_T_at hm98 ((fr105 2 (by decide)).trans (fr103 2 (by decide))) ((fr105 3 (by decide)).trans (fr103 3 (by decide))) ((fr105 4 (by decide)).trans (fr103 4 (by decide))) ((fr105 5 (by decide)).trans (fr103 5 (by decide))) ((fr105 6 (by decide)).trans (fr103 6 (by decide))))
  have hm109 := (x_KS_at2 hm99 (fun j h1 h2 h3 h4 => ((fr105 j (by omega)).trans (fr103 j (by omega)))))
  refine x_n_lt (fun hlt111 => ?_)
  have hm110 := (x_PS_at hm100 (fun j hj hne => by have hj2 := x_some_lt hlt101 hne; exact ((fr105 j (by omega)).trans (fr103 j (by omega)))))
  have hm112 := (zq_nm_at hm102 ((fr105 239 (by decide)).trans (fr103 239 (by decide))) ((fr105 242 (by decide)).trans (fr103 242 (by decide))) ((fr105 244 (by decide)).trans (fr103 244 (by decide))))
  refine q_callr (xs := [(6, 471, 0)]) (p2 := 53) rfl rfl rfl rfl (x_rcv_s 471 hm106.1) rfl (zc_fr_finish_52 hm106 hm107 hm108 hm109 hm110 hm112 ht0 ht1 ht2 ht3 ht4 ht5 ht6) (Nat.le_refl _) (Nat.le_refl _) rfl ?_
  have hm113 := (zEJ_at hEJ (fun j h1 h2 => ((fr105 j (by omega)).trans ((fr103 j (by omega)).trans ((fr95 j (by omega)).trans ((fr88 j (by omega)).trans ((fr81 j (by omega)).trans ((frn78 j (by omega) (by omega)).trans ((fr73 j (by omega)).trans ((fr65 j (by omega)).trans ((frn57 j (by omega)).trans ((fr53 j (by omega)).trans ((fr52 j (by omega)).trans ((fr51 j (by omega)).trans ((fr43 j (by omega)).trans ((fr42 j (by omega)).trans ((fr35 j (by omega) (by omega) (by omega)).trans ((fr28 j (by omega)).trans ((fr21 j (by omega)).trans ((fr20 j (by omega) (by omega) (by omega) (by omega)).trans ((fr13 j (by omega)).trans ((fr5 j (by omega)).trans ((fr4 j (by omega)).trans ((fr3 j (by omega)).trans (fr1 j (by omega))))))))))))))))))))))))))
  have hm114 := (x_LK_at2 hLZ78 (fun j h1 h2 => ((fr105 j (by omega)).trans ((fr103 j (by omega)).trans ((fr95 j (by omega)).trans ((fr88 j (by omega)).trans (fr81 j (by omega))))))))
  have hm115 := (x_SP_at hm77 (fun j hj hne => by have hj2 := x_some_lt hlt75 hne; exact ((fr105 j (by omega)).trans ((fr103 j (by omega)).trans ((fr95 j (by omega)).trans ((fr88 j (by omega)).trans ((fr81 j (by omega)).trans (frn78 j (by omega) (by omega)))))))))
  have hm116 := (zq_V5_at hV5 ((fr105 485 (by decide)).trans ((fr103 485 (by decide)).trans ((fr95 485 (by decide)).trans ((fr88 485 (by decide)).trans ((fr81 485 (by decide)).trans ((frn78 485 (by omega) (by omega)).trans ((fr73 485 (by decide)).trans ((fr65 485 (by decide)).trans ((frn57 485 (by omega)).trans ((fr53 485 (by decide)).trans ((fr52 485 (by decide)).trans ((fr51 485 (by decide)).trans ((fr43 485 (by decide)).trans ((fr42 485 (by decide)).trans ((fr35 485 (by decide) (by decide) (by decide)).trans ((fr28 485 (by decide)).trans ((fr21 485 (by decide)).trans ((fr20 485 (by decide) (by decide) (by decide) (by decide)).trans ((fr13 485 (by decide)).trans ((fr5 485 (by decide)).trans ((fr4 485 (by decide)).trans ((fr3 485 (by decide)).trans (fr1 485 (by decide)))))))))))))))))))))))))
  have hm117 := (zq_SL_at hSL ((fr105 482 (by decide)).trans ((fr103 482 (by decide)).trans ((fr95 482 (by decide)).trans ((fr88 482 (by decide)).trans ((fr81 482 (by decide)).trans ((frn78 482 (by omega) (by omega)).trans ((fr73 482 (by decide)).trans ((fr65 482 (by decide)).trans ((frn57 482 (by omega)).trans ((fr53 482 (by decide)).trans ((fr52 482 (by decide)).trans ((fr51 482 (by decide)).trans ((fr43 482 (by decide)).trans ((fr42 482 (by decide)).trans ((fr35 482 (by decide) (by decide) (by decide)).trans ((fr28 482 (by decide)).trans ((fr21 482 (by decide)).trans ((fr20 482 (by decide) (by decide) (by decide) (by decide)).trans ((fr13 482 (by decide)).trans ((fr5 482 (by decide)).trans ((fr4 482 (by decide)).trans ((fr3 482 (by decide)).trans (fr1 482 (by decide)))))))))))))))))))))))))
  have hm118 := (zq_RW_at hRW ((fr105 483 (by decide)).trans ((fr103 483 (by decide)).trans ((fr95 483 (by decide)).trans ((fr88 483 (by decide)).trans ((fr81 483 (by decide)).trans ((frn78 483 (by omega) (by omega)).trans ((fr73 483 (by decide)).trans ((fr65 483 (by decide)).trans ((frn57 483 (by omega)).trans ((fr53 483 (by decide)).trans ((fr52 483 (by decide)).trans ((fr51 483 (by decide)).trans ((fr43 483 (by decide)).trans ((fr42 483 (by decide)).trans ((fr35 483 (by decide) (by decide) (by decide)).trans ((fr28 483 (by decide)).trans ((fr21 483 (by decide)).trans ((fr20 483 (by decide) (by decide) (by decide) (by decide)).trans ((fr13 483 (by decide)).trans ((fr5 483 (by decide)).trans ((fr4 483 (by decide)).trans ((fr3 483 (by decide)).trans (fr1 483 (by decide)))))))))))))))))))))))))
  have hm119 := (zq_J_at hJ ((fr105 468 (by decide)).trans ((fr103 468 (by decide)).trans ((fr95 468 (by decide)).trans ((fr88 468 (by decide)).trans ((fr81 468 (by decide)).trans ((frn78 468 (by omega) (by omega)).trans ((fr73 468 (by decide)).trans ((fr65 468 (by decide)).trans ((frn57 468 (by omega)).trans ((fr53 468 (by decide)).trans ((fr52 468 (by decide)).trans ((fr51 468 (by decide)).trans ((fr43 468 (by decide)).trans ((fr42 468 (by decide)).trans ((fr35 468 (by decide) (by decide) (by decide)).trans ((fr28 468 (by decide)).trans ((fr21 468 (by decide)).trans ((fr20 468 (by decide) (by decide) (by decide) (by decide)).trans ((fr13 468 (by decide)).trans ((fr5 468 (by decide)).trans ((fr4 468 (by decide)).trans ((fr3 468 (by decide)).trans (fr1 468 (by decide)))))))))))))))))))))))) ((fr105 469 (by decide)).trans ((fr103 469 (by decide)).trans ((fr95 469 (by decide)).trans ((fr88 469 (by decide)).trans ((fr81 469 (by decide)).trans ((frn78 469 (by omega) (by omega)).trans ((fr73 469 (by decide)).trans ((fr65 469 (by decide)).trans ((frn57 469 (by omega)).trans ((fr53 469 (by decide)).trans ((fr52 469 (by decide)).trans ((fr51 469 (by decide)).trans ((fr43 469 (by decide)).trans ((fr42 469 (by decide)).trans ((fr35 469 (by decide) (by decide) (by decide)).trans ((fr28 469 (by decide)).trans ((fr21 469 (by decide)).trans ((fr20 469 (by decide) (by decide) (by decide) (by decide)).trans ((fr13 469 (by decide)).trans ((fr5 469 (by decide)).trans ((fr4 469 (by decide)).trans ((fr3 469 (by decide)).trans (fr1 469 (by decide)))))))))))))))))))))))) ((fr105 470 (by decide)).trans ((fr103 470 (by decide)).trans ((fr95 470 (by decide)).trans ((fr88 470 (by decide)).trans ((fr81 470 (by decide)).trans ((frn78 470 (by omega) (by omega)).trans ((fr73 470 (by decide)).trans ((fr65 470 (by decide)).trans ((frn57 470 (by omega)).trans ((fr53 470 (by decide)).trans ((fr52 470 (by decide)).trans ((fr51 470 (by decide)).trans ((fr43 470 (by decide)).trans ((fr42 470 (by decide)).trans ((fr35 470 (by decide) (by decide) (by decide)).trans ((fr28 470 (by decide)).trans ((fr21 470 (by decide)).trans ((fr20 470 (by decide) (by decide) (by decide) (by decide)).trans ((fr13 470 (by decide)).trans ((fr5 470 (by decide)).trans ((fr4 470 (by decide)).trans ((fr3 470 (by decide)).trans (fr1 470 (by decide)))))))))))))))))))))))))
  have hm120 := (zWJ_at hWJ (fun j h1 h2 => ((fr105 j (by omega)).trans ((fr103 j (by omega)).trans ((fr95 j (by omega)).trans ((fr88 j (by omega)).trans ((fr81 j (by omega)).trans ((frn78 j (by omega) (by omega)).trans ((fr73 j (by omega)).trans ((fr65 j (by omega)).trans ((frn57 j (by omega)).trans ((fr53 j (by omega)).trans ((fr52 j (by omega)).trans ((fr51 j (by omega)).trans ((fr43 j (by omega)).trans ((fr42 j (by omega)).trans ((fr35 j (by omega) (by omega) (by omega)).trans ((fr28 j (by omega)).trans ((fr21 j (by omega)).trans ((fr20 j (by omega) (by omega) (by omega) (by omega)).trans ((fr13 j (by omega)).trans ((fr5 j (by omega)).trans ((fr4 j (by omega)).trans ((fr3 j (by omega)).trans (fr1 j (by omega))))))))))))))))))))))))))
  have hm121 := (zq_OV_at hm69 ((fr105 452 (by decide)).trans ((fr103 452 (by decide)).trans ((fr95 452 (by decide)).trans ((fr88 452 (by decide)).trans ((fr81 452 (by decide)).trans ((frn78 452 (by omega) (by omega)).trans (fr73 452 (by decide)))))))) ((fr105 453 (by decide)).trans ((fr103 453 (by decide)).trans ((fr95 453 (by decide)).trans ((fr88 453 (by decide)).trans ((fr81 453 (by decide)).trans ((frn78 453 (by omega) (by omega)).trans (fr73 453 (by decide)))))))))
  exact q_retv (v := (0, 4294967286, 0)) rfl rfl (⟨rfl, ⟨by omega, by omega⟩, ⟨by omega, by omega⟩, rfl, ⟨⟨_, _, hs105, (x_hw_at hhw (fun j hj hne => by have hj2 := x_some_lt hlt0 hne; exact ((fr105 j (by omega)).trans ((fr103 j (by omega)).trans ((fr95 j (by omega)).trans ((fr88 j (by omega)).trans ((fr81 j (by omega)).trans ((frn78 j (by omega) (by omega)).trans ((fr73 j (by omega)).trans ((fr65 j (by omega)).trans ((frn57 j (by omega)).trans ((fr53 j (by omega)).trans ((fr52 j (by omega)).trans ((fr51 j (by omega)).trans ((fr43 j (by omega)).trans ((fr42 j (by omega)).trans ((fr35 j (by omega) (by omega) (by omega)).trans ((fr28 j (by omega)).trans ((fr21 j (by omega)).trans ((fr20 j (by omega) (by omega) (by omega) (by omega)).trans ((fr13 j (by omega)).trans ((fr5 j (by omega)).trans ((fr4 j (by omega)).trans ((fr3 j (by omega)).trans (fr1 j (by omega))))))))))))))))))))))))))⟩, hm107, ⟨_, _, _, _, _, _, _, _, _, _, _, _, _, _, hm108⟩, hm113, hm112, ⟨_, ⟨_, _, _, _, _, _, _, _, _, _, hm109⟩, hco⟩, ⟨_, _, _, hm110, hm114⟩, hm115, hm116, ⟨_, hm117⟩, hm118, hm119, ⟨_, _, _, _, _, _, _, _, _, _, _, _, _, _, _, _, _, _, hm106, (Or.inl rfl)⟩, hm120, ⟨_, _, hm121, hovn, hovh⟩⟩⟩)
theorem zc_fr_peek_54 {d n sl : Nat} {φ : FH} {A : Nat} {B : Nat} {K : Nat → Nat} {P : Nat → Nat} {V : Nat → Nat} {at_ : Nat} {co : Nat → Nat} {comb : Nat → Nat} {cur : Nat} {fa : Nat} {fbi : Nat} {fcl : Nat → Nat} {fco : Nat → Nat} {ffp : Nat} {fki : Nat} {fl : Nat → Nat} {fnu : Nat → Nat} {fp : Nat} {fr_ : Nat} {fso : Nat → Nat} {ftc : Nat} {ftf : Nat} {ftn : Nat → Nat} {hm : Nat → MV} {lo : Nat → Nat} {mi : Nat} {mm : Nat} {no : Nat} {op : Nat} {pc_ : Nat} {pl : Nat} {re : Nat → Nat} {rs : Nat → Nat} {s9 : Nat} {se : Nat → Nat} {sf : Nat} {sp : Nat} {st : Nat → Nat} {sv : Nat} {svm : Nat} {top_ : Nat} {tot : Nat} {tp : Nat → Nat} {va : Nat} (hF : zq_F φ 1 7 0 1 0 ffp 1 0 1 fki fbi ftc ftf (x_s fnu 0 1) (x_s (x_s fco 0 0) 0 1) (x_s (x_s fso 0 1) 0 1) fcl ftn) (hB : zq_tp φ tp) (hT : zq_T φ tot at_ cur pl va fa fp sf sp no op K P V) (hKS : x_KS φ top_ fr_ pc_ mm mi st lo re rs fl se co) (hPS : x_PS φ A B 40 sv svm s9 (x_s comb 40 1) hm) (hN : zq_nm φ) (hc0 : tp 0 = 35) (hc1 : tp 1 = 49) (hc2 : tp 2 = 61) (hc3 : tp 3 = 97) (hc4 : tp 4 = 40) (hc5 : tp 5 = 41) (hc6 : tp 6 = 59) : x_f x_P (d + 1) 138 [(6, 471, 0)] φ n sl (x_r φ n sl (0, 35, 0)) := by
  refine x_f_of rfl ?_
  refine x_n_lt (fun hlt0 => ?_)
  refine q_load (v := (6, 471, 0)) (p2 := 1) rfl rfl rfl rfl ?_
  refine q_getv (v := (0, 0, 0)) (p2 := 2) rfl hF.1 (by decide) rfl rfl ?_
  refine q_if0_s (p2 := 3) rfl (by decide) (by omega) rfl (fun hb => absurd hb (show ¬ (0 < 0) by omega)) (fun _ => ?_)
  refine q_load (v := (6, 471, 0)) (p2 := 4) rfl rfl rfl rfl ?_
  refine q_getv (v := (0, 0, 0)) (p2 := 5) rfl hF.1 (by decide) rfl rfl ?_
  refine q_load (v := (6, 471, 0)) (p2 := 6) rfl rfl rfl rfl ?_
  refine q_getv (v := (0, 7, 0)) (p2 := 7) rfl hF.1 (by decide) rfl rfl ?_
  refine q_icmp_s (p2 := 8) rfl (by decide) (by omega) (by omega) rfl (fun hb => absurd hb (show ¬ (¬ (0 < 7)) by omega)) (fun _ => ?_)
  refine q_load (v := (6, 471, 0)) (p2 := 9) rfl rfl rfl rfl ?_
  refine q_getv (v := (0, 0, 0)) (p2 := 10) rfl hF.1 (by decide) rfl rfl ?_
  refine q_load (v := (6, 471, 0)) (p2 := 11) rfl rfl rfl rfl ?_
  refine q_getv (v := (6, 1, 0)) (p2 := 12) rfl hF.1 (by decide) rfl rfl ?_
  refine q_alen (p2 := 13) rfl hB rfl (by omega) rfl ?_
  refine q_icmp_s (p2 := 14) rfl (by decide) (by omega) (by omega) rfl (fun hb => absurd hb (show ¬ (¬ (0 < 3000)) by omega)) (fun _ => ?_)
  refine q_load (v := (6, 471, 0)) (p2 := 15) rfl rfl rfl rfl ?_
  refine q_getv (v := (6, 1, 0)) (p2 := 16) rfl hF.1 (by decide) rfl rfl ?_
  refine q_load (v := (6, 471, 0)) (p2 := 17) rfl rfl rfl rfl ?_
  refine q_getv (v := (0, 0, 0)) (p2 := 18) rfl hF.1 (by decide) rfl rfl ?_
  refine q_aldT (tag := 0) (v := 35) (p2 := 19) rfl hB (by omega) (by omega) hc0 rfl ?_
  refine q_const (p2 := 20) rfl rfl ?_
  refine q_iop (w := 35 &&& 255) (z := 35) (p2 := 21) rfl (xo_and 35 255) (by decide) rfl ?_
  refine q_goto rfl ?_
  exact q_retv (v := (0, 35, 0)) rfl rfl (⟨rfl, rfl, rfl, rfl, rfl⟩)
theorem zc_fr_blanks_53 {d n sl : Nat} {φ : FH} {A : Nat} {B : Nat} {K : Nat → Nat} {P : Nat → Nat} {V : Nat → Nat} {at_ : Nat} {co : Nat → Nat} {comb : Nat → Nat} {cur : Nat} {fa : Nat} {fbi : Nat} {fcl : Nat → Nat} {fco : Nat → Nat} {ffp : Nat} {fki : Nat} {fl : Nat → Nat} {fnu : Nat → Nat} {fp : Nat} {fr_ : Nat} {fso : Nat → Nat} {ftc : Nat} {ftf : Nat} {ftn : Nat → Nat} {hm : Nat → MV} {lo : Nat → Nat} {mi : Nat} {mm : Nat} {no : Nat} {op : Nat} {pc_ : Nat} {pl : Nat} {re : Nat → Nat} {rs : Nat → Nat} {s9 : Nat} {se : Nat → Nat} {sf : Nat} {sp : Nat} {st : Nat → Nat} {sv : Nat} {svm : Nat} {top_ : Nat} {tot : Nat} {tp : Nat → Nat} {va : Nat} (hF : zq_F φ 1 7 0 1 0 ffp 1 0 1 fki fbi ftc ftf (x_s fnu 0 1) (x_s (x_s fco 0 0) 0 1) (x_s (x_s fso 0 1) 0 1) fcl ftn) (hB : zq_tp φ tp) (hT : zq_T φ tot at_ cur pl va fa fp sf sp no op K P V) (hKS : x_KS φ top_ fr_ pc_ mm mi st lo re rs fl se co) (hPS : x_PS φ A B 40 sv svm s9 (x_s comb 40 1) hm) (hN : zq_nm φ) (hc0 : tp 0 = 35) (hc1 : tp 1 = 49) (hc2 : tp 2 = 61) (hc3 : tp 3 = 97) (hc4 : tp 4 = 40) (hc5 : tp 5 = 41) (hc6 : tp 6 = 59) : x_f x_P (d + 2) 133 [(6, 471, 0), (11, 0, 0)] φ n sl (x_v φ n sl) := by
  refine x_f_of rfl ?_
  refine x_n_lt (fun hlt0 => ?_)
  refine q_const (p2 := 1) rfl rfl ?_
  refine q_store (loc2 := [(6, 471, 0), (0, 0, 0)]) (p2 := 2) rfl rfl rfl rfl rfl ?_
  refine q_load (v := (0, 0, 0)) (p2 := 3) rfl rfl rfl rfl ?_
  refine q_load (v := (6, 471, 0)) (p2 := 4) rfl rfl rfl rfl ?_
  refine q_getv (v := (0, 7, 0)) (p2 := 5) rfl hF.1 (by decide) rfl rfl ?_
  refine q_icmp_s (p2 := 6) rfl (by decide) (by omega) (by omega) rfl (fun hb => absurd hb (show ¬ (¬ (0 < 7)) by omega)) (fun _ => ?_)
  refine q_load (v := (6, 471, 0)) (p2 := 7) rfl rfl rfl rfl ?_
  refine q_callr (xs := [(6, 471, 0)]) (p2 := 8) rfl rfl rfl rfl (x_rcv_s 471 hF.1) rfl (zc_fr_peek_54 hF hB hT hKS hPS hN hc0 hc1 hc2 hc3 hc4 hc5 hc6) (Nat.le_refl _) (Nat.le_refl _) rfl ?_
  refine q_callr (xs := [(0, 35, 0)]) (p2 := 9) rfl rfl rfl rfl (fun _ _ => rfl) rfl (zc_a_87_35 ) (Nat.le_refl _) (Nat.le_refl _) rfl ?_
  refine q_if0_s (p2 := 10) rfl (by decide) (by omega) rfl (fun _ => ?_) (fun hb => absurd (show 0 = 0 by omega) hb)
  exact q_ret rfl (⟨rfl, rfl, rfl, rfl⟩)
theorem zc_fr_goesOn_55 {d n sl : Nat} {φ : FH} {A : Nat} {B : Nat} {K : Nat → Nat} {P : Nat → Nat} {V : Nat → Nat} {at_ : Nat} {co : Nat → Nat} {comb : Nat → Nat} {cur : Nat} {fa : Nat} {fbi : Nat} {fcl : Nat → Nat} {fco : Nat → Nat} {ffp : Nat} {fki : Nat} {fl : Nat → Nat} {fnu : Nat → Nat} {fp : Nat} {fr_ : Nat} {fso : Nat → Nat} {ftc : Nat} {ftf : Nat} {ftn : Nat → Nat} {hm : Nat → MV} {lo : Nat → Nat} {mi : Nat} {mm : Nat} {no : Nat} {op : Nat} {pc_ : Nat} {pl : Nat} {re : Nat → Nat} {rs : Nat → Nat} {s9 : Nat} {se : Nat → Nat} {sf : Nat} {sp : Nat} {st : Nat → Nat} {sv : Nat} {svm : Nat} {top_ : Nat} {tot : Nat} {tp : Nat → Nat} {va : Nat} (hF : zq_F φ 1 7 0 1 0 ffp 1 0 1 fki fbi ftc ftf (x_s fnu 0 1) (x_s (x_s fco 0 0) 0 1) (x_s (x_s fso 0 1) 0 1) fcl ftn) (hB : zq_tp φ tp) (hT : zq_T φ tot at_ cur pl va fa fp sf sp no op K P V) (hKS : x_KS φ top_ fr_ pc_ mm mi st lo re rs fl se co) (hPS : x_PS φ A B 40 sv svm s9 (x_s comb 40 1) hm) (hN : zq_nm φ) (hc0 : tp 0 = 35) (hc1 : tp 1 = 49) (hc2 : tp 2 = 61) (hc3 : tp 3 = 97) (hc4 : tp 4 = 40) (hc5 : tp 5 = 41) (hc6 : tp 6 = 59) : x_f x_P (d + 1) 83 [(6, 471, 0)] φ n sl (x_r φ n sl (0, 1, 0)) := by
  refine x_f_of rfl ?_
  refine x_n_lt (fun hlt0 => ?_)
  refine q_load (v := (6, 471, 0)) (p2 := 1) rfl rfl rfl rfl ?_
  refine q_getv (v := (0, 0, 0)) (p2 := 2) rfl hF.1 (by decide) rfl rfl ?_
  refine q_if0_s (p2 := 3) rfl (by decide) (by omega) rfl (fun hb => absurd hb (show ¬ (¬ (0 = 0)) by omega)) (fun _ => ?_)
  refine q_load (v := (6, 471, 0)) (p2 := 4) rfl rfl rfl rfl ?_
  refine q_getv (v := (0, 0, 0)) (p2 := 5) rfl hF.1 (by decide) rfl rfl ?_
  refine q_load (v := (6, 471, 0)) (p2 := 6) rfl rfl rfl rfl ?_
  refine q_getv (v := (0, 7, 0)) (p2 := 7) rfl hF.1 (by decide) rfl rfl ?_
  refine q_icmp_s (p2 := 8) rfl (by decide) (by omega) (by omega) rfl (fun hb => absurd hb (show ¬ (¬ (0 < 7)) by omega)) (fun _ => ?_)
  refine q_const (p2 := 9) rfl rfl ?_
  refine q_goto rfl ?_
  exact q_retv (v := (0, 1, 0)) rfl rfl (⟨rfl, rfl, rfl, rfl, rfl⟩)
theorem zc_fr_expect_57 {d n sl : Nat} {φ : FH} {A : Nat} {B : Nat} {K : Nat → Nat} {P : Nat → Nat} {V : Nat → Nat} {at_ : Nat} {co : Nat → Nat} {comb : Nat → Nat} {cur : Nat} {fa : Nat} {fbi : Nat} {fcl : Nat → Nat} {fco : Nat → Nat} {ffp : Nat} {fki : Nat} {fl : Nat → Nat} {fnu : Nat → Nat} {fp : Nat} {fr_ : Nat} {fso : Nat → Nat} {ftc : Nat} {ftf : Nat} {ftn : Nat → Nat} {hm : Nat → MV} {lo : Nat → Nat} {mi : Nat} {mm : Nat} {no : Nat} {op : Nat} {pc_ : Nat} {pl : Nat} {re : Nat → Nat} {rs : Nat → Nat} {s9 : Nat} {se : Nat → Nat} {sf : Nat} {sp : Nat} {st : Nat → Nat} {sv : Nat} {svm : Nat} {top_ : Nat} {tot : Nat} {tp : Nat → Nat} {va : Nat} (hF : zq_F φ 1 7 0 1 0 ffp 1 0 1 fki fbi ftc ftf (x_s fnu 0 1) (x_s (x_s fco 0 0) 0 1) (x_s (x_s fso 0 1) 0 1) fcl ftn) (hB : zq_tp φ tp) (hT : zq_T φ tot at_ cur pl va fa fp sf sp no op K P V) (hKS : x_KS φ top_ fr_ pc_ mm mi st lo re rs fl se co) (hPS : x_PS φ A B 40 sv svm s9 (x_s comb 40 1) hm) (hN : zq_nm φ) (hc0 : tp 0 = 35) (hc1 : tp 1 = 49) (hc2 : tp 2 = 61) (hc3 : tp 3 = 97) (hc4 : tp 4 = 40) (hc5 : tp 5 = 41) (hc6 : tp 6 = 59) : x_f x_P (d + 2) 213 [(6, 471, 0), (0, 35, 0)] φ n sl (x_vR n sl (fun φ2 => zq_F φ2 1 7 1 1 0 ffp 1 0 1 fki fbi ftc ftf (x_s fnu 0 1) (x_s (x_s fco 0 0) 0 1) (x_s (x_s fso 0 1) 0 1) fcl ftn ∧ ∀ j, j ≠ 471 → φ2 j = φ j)) := by
  refine x_f_of rfl ?_
  refine x_n_lt (fun hlt0 => ?_)
  refine q_load (v := (6, 471, 0)) (p2 := 1) rfl rfl rfl rfl ?_
  refine q_callr (xs := [(6, 471, 0)]) (p2 := 2) rfl rfl rfl rfl (x_rcv_s 471 hF.1) rfl (zc_fr_peek_54 hF hB hT hKS hPS hN hc0 hc1 hc2 hc3 hc4 hc5 hc6) (Nat.le_refl _) (Nat.le_refl _) rfl ?_
  refine q_load (v := (0, 35, 0)) (p2 := 3) rfl rfl rfl rfl ?_
  refine q_icmp_s (p2 := 4) rfl (by decide) (by omega) (by omega) rfl (fun _ => ?_) (fun hb => absurd (show 35 = 35 by omega) hb)
  refine q_load (v := (6, 471, 0)) (p2 := 11) rfl rfl rfl rfl ?_
  refine q_getv (v := (0, 0, 0)) (p2 := 12) rfl hF.1 (by decide) rfl rfl ?_
  refine q_if0_s (p2 := 13) rfl (by decide) (by omega) rfl (fun hb => absurd hb (show ¬ (¬ (0 = 0)) by omega)) (fun _ => ?_)
  refine q_load (v := (6, 471, 0)) (p2 := 14) rfl rfl rfl rfl ?_
  refine q_dup (p2 := 15) rfl rfl rfl ?_
  refine q_getv (v := (0, 0, 0)) (p2 := 16) rfl hF.1 (by decide) rfl rfl ?_
  refine q_const (p2 := 17) rfl rfl ?_
  refine q_iop (w := 0 + 1) (z := 1) (p2 := 18) rfl (xo_add 0 1) (by decide) rfl ?_
  refine q_putfE (v := (0, 1, 0)) (p2 := 19) rfl hF.1 (by decide) rfl rfl (fun φ1 f1 hh1 hg1 ho1 fr1 => ?_)
  have hs1 := zq_F_put_471_4 hF hh1 hg1 ho1 fr1
  exact q_ret rfl (⟨rfl, rfl, rfl, hs1, fun j hj0 => (fr1 j (by omega))⟩)
theorem zc_fr_peek_58 {d n sl : Nat} {φ : FH} {A : Nat} {B : Nat} {K : Nat → Nat} {P : Nat → Nat} {V : Nat → Nat} {at_ : Nat} {co : Nat → Nat} {comb : Nat → Nat} {cur : Nat} {fa : Nat} {fbi : Nat} {fcl : Nat → Nat} {fco : Nat → Nat} {ffp : Nat} {fki : Nat} {fl : Nat → Nat} {fnu : Nat → Nat} {fp : Nat} {fr_ : Nat} {fso : Nat → Nat} {ftc : Nat} {ftf : Nat} {ftn : Nat → Nat} {hm : Nat → MV} {lo : Nat → Nat} {mi : Nat} {mm : Nat} {no : Nat} {op : Nat} {pc_ : Nat} {pl : Nat} {re : Nat → Nat} {rs : Nat → Nat} {s9 : Nat} {se : Nat → Nat} {sf : Nat} {sp : Nat} {st : Nat → Nat} {sv : Nat} {svm : Nat} {top_ : Nat} {tot : Nat} {tp : Nat → Nat} {va : Nat} (hF : zq_F φ 1 7 1 1 0 ffp 1 0 1 fki fbi ftc ftf (x_s fnu 0 1) (x_s (x_s fco 0 0) 0 1) (x_s (x_s fso 0 1) 0 1) fcl ftn) (hB : zq_tp φ tp) (hT : zq_T φ tot at_ cur pl va fa fp sf sp no op K P V) (hKS : x_KS φ top_ fr_ pc_ mm mi st lo re rs fl se co) (hPS : x_PS φ A B 40 sv svm s9 (x_s comb 40 1) hm) (hN : zq_nm φ) (hc0 : tp 0 = 35) (hc1 : tp 1 = 49) (hc2 : tp 2 = 61) (hc3 : tp 3 = 97) (hc4 : tp 4 = 40) (hc5 : tp 5 = 41) (hc6 : tp 6 = 59) : x_f x_P (d + 1) 138 [(6, 471, 0)] φ n sl (x_r φ n sl (0, 49, 0)) := by
  refine x_f_of rfl ?_
  refine x_n_lt (fun hlt0 => ?_)
  refine q_load (v := (6, 471, 0)) (p2 := 1) rfl rfl rfl rfl ?_
  refine q_getv (v := (0, 1, 0)) (p2 := 2) rfl hF.1 (by decide) rfl rfl ?_
  refine q_if0_s (p2 := 3) rfl (by decide) (by omega) rfl (fun hb => absurd hb (show ¬ (1 < 0) by omega)) (fun _ => ?_)
  refine q_load (v := (6, 471, 0)) (p2 := 4) rfl rfl rfl rfl ?_
  refine q_getv (v := (0, 1, 0)) (p2 := 5) rfl hF.1 (by decide) rfl rfl ?_
  refine q_load (v := (6, 471, 0)) (p2 := 6) rfl rfl rfl rfl ?_
  refine q_getv (v := (0, 7, 0)) (p2 := 7) rfl hF.1 (by decide) rfl rfl ?_
  refine q_icmp_s (p2 := 8) rfl (by decide) (by omega) (by omega) rfl (fun hb => absurd hb (show ¬ (¬ (1 < 7)) by omega)) (fun _ => ?_)
  refine q_load (v := (6, 471, 0)) (p2 := 9) rfl rfl rfl rfl ?_
  refine q_getv (v := (0, 1, 0)) (p2 := 10) rfl hF.1 (by decide) rfl rfl ?_
  refine q_load (v := (6, 471, 0)) (p2 := 11) rfl rfl rfl rfl ?_
  refine q_getv (v := (6, 1, 0)) (p2 := 12) rfl hF.1 (by decide) rfl rfl ?_
  refine q_alen (p2 := 13) rfl hB rfl (by omega) rfl ?_
  refine q_icmp_s (p2 := 14) rfl (by decide) (by omega) (by omega) rfl (fun hb => absurd hb (show ¬ (¬ (1 < 3000)) by omega)) (fun _ => ?_)
  refine q_load (v := (6, 471, 0)) (p2 := 15) rfl rfl rfl rfl ?_
  refine q_getv (v := (6, 1, 0)) (p2 := 16) rfl hF.1 (by decide) rfl rfl ?_
  refine q_load (v := (6, 471, 0)) (p2 := 17) rfl rfl rfl rfl ?_
  refine q_getv (v := (0, 1, 0)) (p2 := 18) rfl hF.1 (by decide) rfl rfl ?_
  refine q_aldT (tag := 0) (v := 49) (p2 := 19) rfl hB (by omega) (by omega) hc1 rfl ?_
  refine q_const (p2 := 20) rfl rfl ?_
  refine q_iop (w := 49 &&& 255) (z := 49) (p2 := 21) rfl (xo_and 49 255) (by decide) rfl ?_
  refine q_goto rfl ?_
  exact q_retv (v := (0, 49, 0)) rfl rfl (⟨rfl, rfl, rfl, rfl, rfl⟩)
theorem zc_fr_peek_59 {d n sl : Nat} {φ : FH} {A : Nat} {B : Nat} {K : Nat → Nat} {P : Nat → Nat} {V : Nat → Nat} {at_ : Nat} {co : Nat → Nat} {comb : Nat → Nat} {cur : Nat} {fa : Nat} {fbi : Nat} {fcl : Nat → Nat} {fco : Nat → Nat} {ffp : Nat} {fki : Nat} {fl : Nat → Nat} {fnu : Nat → Nat} {fp : Nat} {fr_ : Nat} {fso : Nat → Nat} {ftc : Nat} {ftf : Nat} {ftn : Nat → Nat} {hm : Nat → MV} {lo : Nat → Nat} {mi : Nat} {mm : Nat} {no : Nat} {op : Nat} {pc_ : Nat} {pl : Nat} {re : Nat → Nat} {rs : Nat → Nat} {s9 : Nat} {se : Nat → Nat} {sf : Nat} {sp : Nat} {st : Nat → Nat} {sv : Nat} {svm : Nat} {top_ : Nat} {tot : Nat} {tp : Nat → Nat} {va : Nat} (hF : zq_F φ 1 7 2 1 0 ffp 1 0 1 fki fbi ftc ftf (x_s fnu 0 1) (x_s (x_s fco 0 0) 0 1) (x_s (x_s fso 0 1) 0 1) fcl ftn) (hB : zq_tp φ tp) (hT : zq_T φ tot at_ cur pl va fa fp sf sp no op K P V) (hKS : x_KS φ top_ fr_ pc_ mm mi st lo re rs fl se co) (hPS : x_PS φ A B 40 sv svm s9 (x_s comb 40 1) hm) (hN : zq_nm φ) (hc0 : tp 0 = 35) (hc1 : tp 1 = 49) (hc2 : tp 2 = 61) (hc3 : tp 3 = 97) (hc4 : tp 4 = 40) (hc5 : tp 5 = 41) (hc6 : tp 6 = 59) : x_f x_P (d + 1) 138 [(6, 471, 0)] φ n sl (x_r φ n sl (0, 61, 0)) := by
  refine x_f_of rfl ?_
  refine x_n_lt (fun hlt0 => ?_)
  refine q_load (v := (6, 471, 0)) (p2 := 1) rfl rfl rfl rfl ?_
  refine q_getv (v := (0, 2, 0)) (p2 := 2) rfl hF.1 (by decide) rfl rfl ?_
  refine q_if0_s (p2 := 3) rfl (by decide) (by omega) rfl (fun hb => absurd hb (show ¬ (2 < 0) by omega)) (fun _ => ?_)
  refine q_load (v := (6, 471, 0)) (p2 := 4) rfl rfl rfl rfl ?_
  refine q_getv (v := (0, 2, 0)) (p2 := 5) rfl hF.1 (by decide) rfl rfl ?_
  refine q_load (v := (6, 471, 0)) (p2 := 6) rfl rfl rfl rfl ?_
  refine q_getv (v := (0, 7, 0)) (p2 := 7) rfl hF.1 (by decide) rfl rfl ?_
  refine q_icmp_s (p2 := 8) rfl (by decide) (by omega) (by omega) rfl (fun hb => absurd hb (show ¬ (¬ (2 < 7)) by omega)) (fun _ => ?_)
  refine q_load (v := (6, 471, 0)) (p2 := 9) rfl rfl rfl rfl ?_
  refine q_getv (v := (0, 2, 0)) (p2 := 10) rfl hF.1 (by decide) rfl rfl ?_
  refine q_load (v := (6, 471, 0)) (p2 := 11) rfl rfl rfl rfl ?_
  refine q_getv (v := (6, 1, 0)) (p2 := 12) rfl hF.1 (by decide) rfl rfl ?_
  refine q_alen (p2 := 13) rfl hB rfl (by omega) rfl ?_
  refine q_icmp_s (p2 := 14) rfl (by decide) (by omega) (by omega) rfl (fun hb => absurd hb (show ¬ (¬ (2 < 3000)) by omega)) (fun _ => ?_)
  refine q_load (v := (6, 471, 0)) (p2 := 15) rfl rfl rfl rfl ?_
  refine q_getv (v := (6, 1, 0)) (p2 := 16) rfl hF.1 (by decide) rfl rfl ?_
  refine q_load (v := (6, 471, 0)) (p2 := 17) rfl rfl rfl rfl ?_
  refine q_getv (v := (0, 2, 0)) (p2 := 18) rfl hF.1 (by decide) rfl rfl ?_
  refine q_aldT (tag := 0) (v := 61) (p2 := 19) rfl hB (by omega) (by omega) hc2 rfl ?_
  refine q_const (p2 := 20) rfl rfl ?_
  refine q_iop (w := 61 &&& 255) (z := 61) (p2 := 21) rfl (xo_and 61 255) (by decide) rfl ?_
  refine q_goto rfl ?_
  exact q_retv (v := (0, 61, 0)) rfl rfl (⟨rfl, rfl, rfl, rfl, rfl⟩)
theorem zc_fr_reference_56 {d n sl : Nat} {φ : FH} {A : Nat} {B : Nat} {K : Nat → Nat} {P : Nat → Nat} {V : Nat → Nat} {at_ : Nat} {co : Nat → Nat} {comb : Nat → Nat} {cur : Nat} {fa : Nat} {fbi : Nat} {fcl : Nat → Nat} {fco : Nat → Nat} {ffp : Nat} {fki : Nat} {fl : Nat → Nat} {fnu : Nat → Nat} {fp : Nat} {fr_ : Nat} {fso : Nat → Nat} {ftc : Nat} {ftf : Nat} {ftn : Nat → Nat} {hm : Nat → MV} {lo : Nat → Nat} {mi : Nat} {mm : Nat} {no : Nat} {op : Nat} {pc_ : Nat} {pl : Nat} {re : Nat → Nat} {rs : Nat → Nat} {s9 : Nat} {se : Nat → Nat} {sf : Nat} {sp : Nat} {st : Nat → Nat} {sv : Nat} {svm : Nat} {top_ : Nat} {tot : Nat} {tp : Nat → Nat} {va : Nat} (hF : zq_F φ 1 7 0 1 0 ffp 1 0 1 fki fbi ftc ftf (x_s fnu 0 1) (x_s (x_s fco 0 0) 0 1) (x_s (x_s fso 0 1) 0 1) fcl ftn) (hB : zq_tp φ tp) (hT : zq_T φ tot at_ cur pl va fa fp sf sp no op K P V) (hKS : x_KS φ top_ fr_ pc_ mm mi st lo re rs fl se co) (hPS : x_PS φ A B 40 sv svm s9 (x_s comb 40 1) hm) (hN : zq_nm φ) (hc0 : tp 0 = 35) (hc1 : tp 1 = 49) (hc2 : tp 2 = 61) (hc3 : tp 3 = 97) (hc4 : tp 4 = 40) (hc5 : tp 5 = 41) (hc6 : tp 6 = 59) : x_f x_P (d + 3) 134 [(6, 471, 0), (11, 0, 0), (11, 0, 0), (11, 0, 0)] φ n sl (x_rR (0, 1, 0) n sl (fun φ2 => zq_F φ2 1 7 2 1 0 ffp 1 0 1 fki fbi ftc ftf (x_s fnu 0 1) (x_s (x_s fco 0 0) 0 1) (x_s (x_s fso 0 1) 0 1) fcl ftn ∧ ∀ j, j ≠ 471 → φ2 j = φ j)) := by
  refine x_f_of rfl ?_
  refine x_n_lt (fun hlt0 => ?_)
  refine q_load (v := (6, 471, 0)) (p2 := 1) rfl rfl rfl rfl ?_
  refine q_const (p2 := 2) rfl rfl ?_
  refine q_callvE (xs := [(0, 35, 0), (6, 471, 0)]) (p2 := 3) rfl rfl rfl rfl (x_rcv_s 471 hF.1) rfl (zc_fr_expect_57 hF hB hT hKS hPS hN hc0 hc1 hc2 hc3 hc4 hc5 hc6) (Nat.le_refl _) (Nat.le_refl _) rfl (fun φ1 hR1 => ?_)
  obtain ⟨hs1_0, fr1⟩ := hR1
  refine q_load (v := (6, 471, 0)) (p2 := 4) rfl rfl rfl rfl ?_
  refine q_getv (v := (0, 1, 0)) (p2 := 5) rfl hs1_0.1 (by decide) rfl rfl ?_
  refine q_store (loc2 := [(6, 471, 0), (0, 1, 0), (11, 0, 0), (11, 0, 0)]) (p2 := 6) rfl rfl rfl rfl rfl ?_
  refine q_const (p2 := 7) rfl rfl ?_
  refine q_store (loc2 := [(6, 471, 0), (0, 1, 0), (0, 0, 0), (11, 0, 0)]) (p2 := 8) rfl rfl rfl rfl rfl ?_
  refine q_const (p2 := 9) rfl rfl ?_
  refine q_store (loc2 := [(6, 471, 0), (0, 1, 0), (0, 0, 0), (0, 0, 0)]) (p2 := 10) rfl rfl rfl rfl rfl ?_
  refine q_load (v := (0, 0, 0)) (p2 := 11) rfl rfl rfl rfl ?_
  refine q_load (v := (6, 471, 0)) (p2 := 12) rfl rfl rfl rfl ?_
  refine q_getv (v := (0, 7, 0)) (p2 := 13) rfl hs1_0.1 (by decide) rfl rfl ?_
  refine q_icmp_s (p2 := 14) rfl (by decide) (by omega) (by omega) rfl (fun hb => absurd hb (show ¬ (¬ (0 < 7)) by omega)) (fun _ => ?_)
  refine q_load (v := (6, 471, 0)) (p2 := 15) rfl rfl rfl rfl ?_
  refine q_getv (v := (0, 0, 0)) (p2 := 16) rfl hs1_0.1 (by decide) rfl rfl ?_
  refine q_if0_s (p2 := 17) rfl (by decide) (by omega) rfl (fun hb => absurd hb (show ¬ (¬ (0 = 0)) by omega)) (fun _ => ?_)
  refine q_load (v := (6, 471, 0)) (p2 := 18) rfl rfl rfl rfl ?_
  have hm2 := (zq_tp_at hB (fr1 1 (by decide)))
  have hm3 := (zq_T_at hT (fr1 2 (by decide)) (fr1 3 (by decide)) (fr1 4 (by decide)) (fr1 5 (by decide)) (fr1 6 (by decide)))
  have hm4 := (x_KS_at2 hKS (fun j h1 h2 h3 h4 => (fr1 j (by omega))))
  refine x_n_lt (fun hlt6 => ?_)
  have hm5 := (x_PS_at hPS (fun j hj hne => by have hj2 := x_some_lt hlt0 hne; exact (fr1 j (by omega))))
  have hm7 := (zq_nm_at hN (fr1 239 (by decide)) (fr1 242 (by decide)) (fr1 244 (by decide)))
  refine q_callr (xs := [(6, 471, 0)]) (p2 := 19) rfl rfl rfl rfl (x_rcv_s 471 hs1_0.1) rfl (zc_fr_peek_58 hs1_0 hm2 hm3 hm4 hm5 hm7 hc0 hc1 hc2 hc3 hc4 hc5 hc6) (Nat.le_refl _) (Nat.le_refl _) rfl ?_
  refine q_callr (xs := [(0, 49, 0)]) (p2 := 20) rfl rfl rfl rfl (fun _ _ => rfl) rfl (zc_dg_isDigit (by omega)) (Nat.le_refl _) (Nat.le_refl _) rfl ?_
  refine q_if0_s (p2 := 21) rfl (by decide) (by omega) rfl (fun hb => absurd hb (show ¬ (1 = 0) by omega)) (fun _ => ?_)
  refine q_load (v := (6, 471, 0)) (p2 := 22) rfl rfl rfl rfl ?_
  refine q_getv (v := (0, 1, 0)) (p2 := 23) rfl hs1_0.1 (by decide) rfl rfl ?_
  refine q_load (v := (0, 1, 0)) (p2 := 24) rfl rfl rfl rfl ?_
  refine q_iop (w := 1 + (4294967296 - 1 % 4294967296)) (z := 0) (p2 := 25) rfl (xo_sub 1 1) (by decide) rfl ?_
  refine q_const (p2 := 26) rfl rfl ?_
  refine q_icmp_s (p2 := 27) rfl (by decide) (by omega) (by omega) rfl (fun hb => absurd hb (show ¬ (¬ (0 < 4)) by omega)) (fun _ => ?_)
  refine q_load (v := (0, 0, 0)) (p2 := 28) rfl rfl rfl rfl ?_
  refine q_const (p2 := 29) rfl rfl ?_
  refine q_iop (w := 0 * 10) (z := 0) (p2 := 30) rfl (xo_mul 0 10) (by decide) rfl ?_
  refine q_load (v := (6, 471, 0)) (p2 := 31) rfl rfl rfl rfl ?_
  refine q_callr (xs := [(6, 471, 0)]) (p2 := 32) rfl rfl rfl rfl (x_rcv_s 471 hs1_0.1) rfl (zc_fr_peek_58 hs1_0 hm2 hm3 hm4 hm5 hm7 hc0 hc1 hc2 hc3 hc4 hc5 hc6) (Nat.le_refl _) (Nat.le_refl _) rfl ?_
  refine q_iop (w := 0 + 49) (z := 49) (p2 := 33) rfl (xo_add 0 49) (by decide) rfl ?_
  refine q_const (p2 := 34) rfl rfl ?_
  refine q_iop (w := 49 + (4294967296 - 48 % 4294967296)) (z := 1) (p2 := 35) rfl (xo_sub 49 48) (by decide) rfl ?_
  refine q_goto rfl ?_
  refine q_store (loc2 := [(6, 471, 0), (0, 1, 0), (0, 1, 0), (0, 0, 0)]) (p2 := 38) rfl rfl rfl rfl rfl ?_
  refine q_load (v := (6, 471, 0)) (p2 := 39) rfl rfl rfl rfl ?_
  refine q_dup (p2 := 40) rfl rfl rfl ?_
  refine q_getv (v := (0, 1, 0)) (p2 := 41) rfl hs1_0.1 (by decide) rfl rfl ?_
  refine q_const (p2 := 42) rfl rfl ?_
  refine q_iop (w := 1 + 1) (z := 2) (p2 := 43) rfl (xo_add 1 1) (by decide) rfl ?_
  refine q_putfE (v := (0, 2, 0)) (p2 := 44) rfl hs1_0.1 (by decide) rfl rfl (fun φ8 f8 hh8 hg8 ho8 fr8 => ?_)
  have hs8 := zq_F_put_471_4 hs1_0 hh8 hg8 ho8 fr8
  refine q_iinc (z := 1) (loc2 := [(6, 471, 0), (0, 1, 0), (0, 1, 0), (0, 1, 0)]) (p2 := 45) rfl rfl (by decide) rfl rfl ?_
  refine q_goto rfl ?_
  refine q_load (v := (0, 1, 0)) (p2 := 11) rfl rfl rfl rfl ?_
  refine q_load (v := (6, 471, 0)) (p2 := 12) rfl rfl rfl rfl ?_
  refine q_getv (v := (0, 7, 0)) (p2 := 13) rfl hs8.1 (by decide) rfl rfl ?_
  refine q_icmp_s (p2 := 14) rfl (by decide) (by omega) (by omega) rfl (fun hb => absurd hb (show ¬ (¬ (1 < 7)) by omega)) (fun _ => ?_)
  refine q_load (v := (6, 471, 0)) (p2 := 15) rfl rfl rfl rfl ?_
  refine q_getv (v := (0, 0, 0)) (p2 := 16) rfl hs8.1 (by decide) rfl rfl ?_
  refine q_if0_s (p2 := 17) rfl (by decide) (by omega) rfl (fun hb => absurd hb (show ¬ (¬ (0 = 0)) by omega)) (fun _ => ?_)
  refine q_load (v := (6, 471, 0)) (p2 := 18) rfl rfl rfl rfl ?_
  have hm9 := (zq_tp_at hm2 (fr8 1 (by decide)))
  have hm10 := (zq_T_at hm3 (fr8 2 (by decide)) (fr8 3 (by decide)) (fr8 4 (by decide)) (fr8 5 (by decide)) (fr8 6 (by decide)))
  have hm11 := (x_KS_at2 hm4 (fun j h1 h2 h3 h4 => (fr8 j (by omega))))
  refine x_n_lt (fun hlt13 => ?_)
  have hm12 := (x_PS_at hm5 (fun j hj hne => by have hj2 := x_some_lt hlt6 hne; exact (fr8 j (by omega))))
  have hm14 := (zq_nm_at hm7 (fr8 239 (by decide)) (fr8 242 (by decide)) (fr8 244 (by decide)))
  refine q_callr (xs := [(6, 471, 0)]) (p2 := 19) rfl rfl rfl rfl (x_rcv_s 471 hs8.1) rfl (zc_fr_peek_59 hs8 hm9 hm10 hm11 hm12 hm14 hc0 hc1 hc2 hc3 hc4 hc5 hc6) (Nat.le_refl _) (Nat.le_refl _) rfl ?_
  refine q_callr (xs := [(0, 61, 0)]) (p2 := 20) rfl rfl rfl rfl (fun _ _ => rfl) rfl (zc_a_143_61 ) (Nat.le_refl _) (Nat.le_refl _) rfl ?_
  refine q_if0_s (p2 := 21) rfl (by decide) (by omega) rfl (fun _ => ?_) (fun hb => absurd (show 0 = 0 by omega) hb)
  refine q_load (v := (6, 471, 0)) (p2 := 47) rfl rfl rfl rfl ?_
  refine q_getv (v := (0, 2, 0)) (p2 := 48) rfl hs8.1 (by decide) rfl rfl ?_
  refine q_load (v := (0, 1, 0)) (p2 := 49) rfl rfl rfl rfl ?_
  refine q_icmp_s (p2 := 50) rfl (by decide) (by omega) (by omega) rfl (fun _ => ?_) (fun hb => absurd (show ¬ (2 = 1) by omega) hb)
  refine q_load (v := (6, 471, 0)) (p2 := 57) rfl rfl rfl rfl ?_
  refine q_getv (v := (0, 2, 0)) (p2 := 58) rfl hs8.1 (by decide) rfl rfl ?_
  refine q_load (v := (0, 1, 0)) (p2 := 59) rfl rfl rfl rfl ?_
  refine q_iop (w := 2 + (4294967296 - 1 % 4294967296)) (z := 1) (p2 := 60) rfl (xo_sub 2 1) (by decide) rfl ?_
  refine q_const (p2 := 61) rfl rfl ?_
  refine q_icmp_s (p2 := 62) rfl (by decide) (by omega) (by omega) rfl (fun _ => ?_) (fun hb => absurd (show ¬ (4 < 1) by omega) hb)
  refine q_load (v := (0, 1, 0)) (p2 := 67) rfl rfl rfl rfl ?_
  exact q_retv (v := (0, 1, 0)) rfl rfl (⟨rfl, rfl, rfl, rfl, hs8, fun j hj0 => ((fr8 j (by omega)).trans (fr1 j (by omega)))⟩)
theorem zc_fr_entryOf_60 {d n sl : Nat} {φ : FH} {A : Nat} {B : Nat} {K : Nat → Nat} {P : Nat → Nat} {V : Nat → Nat} {at_ : Nat} {co : Nat → Nat} {comb : Nat → Nat} {cur : Nat} {fa : Nat} {fbi : Nat} {fcl : Nat → Nat} {fco : Nat → Nat} {ffp : Nat} {fki : Nat} {fl : Nat → Nat} {fnu : Nat → Nat} {fp : Nat} {fr_ : Nat} {fso : Nat → Nat} {ftc : Nat} {ftf : Nat} {ftn : Nat → Nat} {hm : Nat → MV} {lo : Nat → Nat} {mi : Nat} {mm : Nat} {no : Nat} {op : Nat} {pc_ : Nat} {pl : Nat} {re : Nat → Nat} {rs : Nat → Nat} {s9 : Nat} {se : Nat → Nat} {sf : Nat} {sp : Nat} {st : Nat → Nat} {sv : Nat} {svm : Nat} {top_ : Nat} {tot : Nat} {tp : Nat → Nat} {va : Nat} (hF : zq_F φ 1 7 2 1 0 ffp 1 0 1 fki fbi ftc ftf (x_s fnu 0 1) (x_s (x_s fco 0 0) 0 1) (x_s (x_s fso 0 1) 0 1) fcl ftn) (hB : zq_tp φ tp) (hT : zq_T φ tot at_ cur pl va fa fp sf sp no op K P V) (hKS : x_KS φ top_ fr_ pc_ mm mi st lo re rs fl se co) (hPS : x_PS φ A B 40 sv svm s9 (x_s comb 40 1) hm) (hN : zq_nm φ) (hc0 : tp 0 = 35) (hc1 : tp 1 = 49) (hc2 : tp 2 = 61) (hc3 : tp 3 = 97) (hc4 : tp 4 = 40) (hc5 : tp 5 = 41) (hc6 : tp 6 = 59) : x_f x_P (d + 1) 215 [(6, 471, 0), (0, 1, 0), (11, 0, 0)] φ n sl (x_r φ n sl (0, 0, 0)) := by
  refine x_f_of rfl ?_
  refine x_n_lt (fun hlt0 => ?_)
  refine q_const (p2 := 1) rfl rfl ?_
  refine q_store (loc2 := [(6, 471, 0), (0, 1, 0), (0, 0, 0)]) (p2 := 2) rfl rfl rfl rfl rfl ?_
  refine q_load (v := (0, 0, 0)) (p2 := 3) rfl rfl rfl rfl ?_
  refine q_load (v := (6, 471, 0)) (p2 := 4) rfl rfl rfl rfl ?_
  refine q_getv (v := (0, 1, 0)) (p2 := 5) rfl hF.1 (by decide) rfl rfl ?_
  refine q_icmp_s (p2 := 6) rfl (by decide) (by omega) (by omega) rfl (fun hb => absurd hb (show ¬ (¬ (0 < 1)) by omega)) (fun _ => ?_)
  refine q_load (v := (0, 0, 0)) (p2 := 7) rfl rfl rfl rfl ?_
  refine q_const (p2 := 8) rfl rfl ?_
  refine q_icmp_s (p2 := 9) rfl (by decide) (by omega) (by omega) rfl (fun hb => absurd hb (show ¬ (¬ (0 < 440)) by omega)) (fun _ => ?_)
  refine q_load (v := (6, 471, 0)) (p2 := 10) rfl rfl rfl rfl ?_
  refine q_getv (v := (6, 473, 0)) (p2 := 11) rfl hF.1 (by decide) rfl rfl ?_
  refine q_load (v := (0, 0, 0)) (p2 := 12) rfl rfl rfl rfl ?_
  refine q_aldT (tag := 0) (v := 1) (p2 := 13) rfl hF.2.1 (by omega) (by omega) (x_s_eq) rfl ?_
  refine q_load (v := (0, 1, 0)) (p2 := 14) rfl rfl rfl rfl ?_
  refine q_icmp_s (p2 := 15) rfl (by decide) (by omega) (by omega) rfl (fun hb => absurd hb (show ¬ (¬ (1 = 1)) by omega)) (fun _ => ?_)
  refine q_load (v := (0, 0, 0)) (p2 := 16) rfl rfl rfl rfl ?_
  exact q_retv (v := (0, 0, 0)) rfl rfl (⟨rfl, rfl, rfl, rfl, rfl⟩)
theorem zc_fr_fail_61 {d n sl : Nat} {φ : FH} {A : Nat} {B : Nat} {K : Nat → Nat} {P : Nat → Nat} {V : Nat → Nat} {at_ : Nat} {co : Nat → Nat} {comb : Nat → Nat} {cur : Nat} {fa : Nat} {fbi : Nat} {fcl : Nat → Nat} {fco : Nat → Nat} {ffp : Nat} {fki : Nat} {fl : Nat → Nat} {fnu : Nat → Nat} {fp : Nat} {fr_ : Nat} {fso : Nat → Nat} {ftc : Nat} {ftf : Nat} {ftn : Nat → Nat} {hm : Nat → MV} {lo : Nat → Nat} {mi : Nat} {mm : Nat} {no : Nat} {op : Nat} {pc_ : Nat} {pl : Nat} {re : Nat → Nat} {rs : Nat → Nat} {s9 : Nat} {se : Nat → Nat} {sf : Nat} {sp : Nat} {st : Nat → Nat} {sv : Nat} {svm : Nat} {top_ : Nat} {tot : Nat} {tp : Nat → Nat} {va : Nat} (hF : zq_F φ 1 7 2 1 0 ffp 1 0 1 fki fbi ftc ftf (x_s fnu 0 1) (x_s (x_s fco 0 0) 0 1) (x_s (x_s fso 0 1) 0 1) fcl ftn) (hB : zq_tp φ tp) (hT : zq_T φ tot at_ cur pl va fa fp sf sp no op K P V) (hKS : x_KS φ top_ fr_ pc_ mm mi st lo re rs fl se co) (hPS : x_PS φ A B 40 sv svm s9 (x_s comb 40 1) hm) (hN : zq_nm φ) (hc0 : tp 0 = 35) (hc1 : tp 1 = 49) (hc2 : tp 2 = 61) (hc3 : tp 3 = 97) (hc4 : tp 4 = 40) (hc5 : tp 5 = 41) (hc6 : tp 6 = 59) : x_f x_P (d + 1) 214 [(6, 471, 0), (0, 2, 0), (0, 0, 0)] φ n sl (x_vR n sl (fun φ2 => zq_F φ2 1 7 2 1 2 0 1 0 1 fki fbi ftc ftf (x_s fnu 0 1) (x_s (x_s fco 0 0) 0 1) (x_s (x_s fso 0 1) 0 1) fcl ftn ∧ ∀ j, j ≠ 471 → φ2 j = φ j)) := by
  refine x_f_of rfl ?_
  refine x_n_lt (fun hlt0 => ?_)
  refine q_load (v := (6, 471, 0)) (p2 := 1) rfl rfl rfl rfl ?_
  refine q_getv (v := (0, 0, 0)) (p2 := 2) rfl hF.1 (by decide) rfl rfl ?_
  refine q_if0_s (p2 := 3) rfl (by decide) (by omega) rfl (fun hb => absurd hb (show ¬ (¬ (0 = 0)) by omega)) (fun _ => ?_)
  refine q_load (v := (6, 471, 0)) (p2 := 4) rfl rfl rfl rfl ?_
  refine q_load (v := (0, 2, 0)) (p2 := 5) rfl rfl rfl rfl ?_
  refine q_putfE (v := (0, 2, 0)) (p2 := 6) rfl hF.1 (by decide) rfl rfl (fun φ1 f1 hh1 hg1 ho1 fr1 => ?_)
  have hs1 := zq_F_put_471_6 hF hh1 hg1 ho1 fr1
  refine q_load (v := (6, 471, 0)) (p2 := 7) rfl rfl rfl rfl ?_
  refine q_load (v := (0, 0, 0)) (p2 := 8) rfl rfl rfl rfl ?_
  refine q_putfE (v := (0, 0, 0)) (p2 := 9) rfl hs1.1 (by decide) rfl rfl (fun φ2 f2 hh2 hg2 ho2 fr2 => ?_)
  have hs2 := zq_F_put_471_7 hs1 hh2 hg2 ho2 fr2
  exact q_ret rfl (⟨rfl, rfl, rfl, hs2, fun j hj0 => ((fr2 j (by omega)).trans (fr1 j (by omega)))⟩)
theorem zc_fr_peek_64 {d n sl : Nat} {φ : FH} {A : Nat} {B : Nat} {K : Nat → Nat} {P : Nat → Nat} {V : Nat → Nat} {at_ : Nat} {co : Nat → Nat} {comb : Nat → Nat} {cur : Nat} {fa : Nat} {fbi : Nat} {fcl : Nat → Nat} {fco : Nat → Nat} {fki : Nat} {fl : Nat → Nat} {fnu : Nat → Nat} {fp : Nat} {fr_ : Nat} {fso : Nat → Nat} {ftc : Nat} {ftf : Nat} {ftn : Nat → Nat} {hm : Nat → MV} {lo : Nat → Nat} {mi : Nat} {mm : Nat} {no : Nat} {op : Nat} {pc_ : Nat} {pl : Nat} {re : Nat → Nat} {rs : Nat → Nat} {s9 : Nat} {se : Nat → Nat} {sf : Nat} {sp : Nat} {st : Nat → Nat} {sv : Nat} {svm : Nat} {top_ : Nat} {tot : Nat} {tp : Nat → Nat} {va : Nat} (hF : zq_F φ 1 7 2 1 2 0 1 0 0 fki fbi ftc ftf (x_s fnu 0 1) (x_s (x_s fco 0 0) 0 1) (x_s (x_s fso 0 1) 0 1) fcl ftn) (hB : zq_tp φ tp) (hT : zq_T φ tot at_ cur pl va fa fp sf sp no op K P V) (hKS : x_KS φ top_ fr_ pc_ mm mi st lo re rs fl se co) (hPS : x_PS φ A B 40 sv svm s9 (x_s comb 40 1) hm) (hN : zq_nm φ) (hc0 : tp 0 = 35) (hc1 : tp 1 = 49) (hc2 : tp 2 = 61) (hc3 : tp 3 = 97) (hc4 : tp 4 = 40) (hc5 : tp 5 = 41) (hc6 : tp 6 = 59) : x_f x_P (d + 1) 138 [(6, 471, 0)] φ n sl (x_r φ n sl (0, 61, 0)) := by
  refine x_f_of rfl ?_
  refine x_n_lt (fun hlt0 => ?_)
  refine q_load (v := (6, 471, 0)) (p2 := 1) rfl rfl rfl rfl ?_
  refine q_getv (v := (0, 2, 0)) (p2 := 2) rfl hF.1 (by decide) rfl rfl ?_
  refine q_if0_s (p2 := 3) rfl (by decide) (by omega) rfl (fun hb => absurd hb (show ¬ (2 < 0) by omega)) (fun _ => ?_)
  refine q_load (v := (6, 471, 0)) (p2 := 4) rfl rfl rfl rfl ?_
  refine q_getv (v := (0, 2, 0)) (p2 := 5) rfl hF.1 (by decide) rfl rfl ?_
  refine q_load (v := (6, 471, 0)) (p2 := 6) rfl rfl rfl rfl ?_
  refine q_getv (v := (0, 7, 0)) (p2 := 7) rfl hF.1 (by decide) rfl rfl ?_
  refine q_icmp_s (p2 := 8) rfl (by decide) (by omega) (by omega) rfl (fun hb => absurd hb (show ¬ (¬ (2 < 7)) by omega)) (fun _ => ?_)
  refine q_load (v := (6, 471, 0)) (p2 := 9) rfl rfl rfl rfl ?_
  refine q_getv (v := (0, 2, 0)) (p2 := 10) rfl hF.1 (by decide) rfl rfl ?_
  refine q_load (v := (6, 471, 0)) (p2 := 11) rfl rfl rfl rfl ?_
  refine q_getv (v := (6, 1, 0)) (p2 := 12) rfl hF.1 (by decide) rfl rfl ?_
  refine q_alen (p2 := 13) rfl hB rfl (by omega) rfl ?_
  refine q_icmp_s (p2 := 14) rfl (by decide) (by omega) (by omega) rfl (fun hb => absurd hb (show ¬ (¬ (2 < 3000)) by omega)) (fun _ => ?_)
  refine q_load (v := (6, 471, 0)) (p2 := 15) rfl rfl rfl rfl ?_
  refine q_getv (v := (6, 1, 0)) (p2 := 16) rfl hF.1 (by decide) rfl rfl ?_
  refine q_load (v := (6, 471, 0)) (p2 := 17) rfl rfl rfl rfl ?_
  refine q_getv (v := (0, 2, 0)) (p2 := 18) rfl hF.1 (by decide) rfl rfl ?_
  refine q_aldT (tag := 0) (v := 61) (p2 := 19) rfl hB (by omega) (by omega) hc2 rfl ?_
  refine q_const (p2 := 20) rfl rfl ?_
  refine q_iop (w := 61 &&& 255) (z := 61) (p2 := 21) rfl (xo_and 61 255) (by decide) rfl ?_
  refine q_goto rfl ?_
  exact q_retv (v := (0, 61, 0)) rfl rfl (⟨rfl, rfl, rfl, rfl, rfl⟩)
theorem zc_fr_blanks_63 {d n sl : Nat} {φ : FH} {A : Nat} {B : Nat} {K : Nat → Nat} {P : Nat → Nat} {V : Nat → Nat} {at_ : Nat} {co : Nat → Nat} {comb : Nat → Nat} {cur : Nat} {fa : Nat} {fbi : Nat} {fcl : Nat → Nat} {fco : Nat → Nat} {fki : Nat} {fl : Nat → Nat} {fnu : Nat → Nat} {fp : Nat} {fr_ : Nat} {fso : Nat → Nat} {ftc : Nat} {ftf : Nat} {ftn : Nat → Nat} {hm : Nat → MV} {lo : Nat → Nat} {mi : Nat} {mm : Nat} {no : Nat} {op : Nat} {pc_ : Nat} {pl : Nat} {re : Nat → Nat} {rs : Nat → Nat} {s9 : Nat} {se : Nat → Nat} {sf : Nat} {sp : Nat} {st : Nat → Nat} {sv : Nat} {svm : Nat} {top_ : Nat} {tot : Nat} {tp : Nat → Nat} {va : Nat} (hF : zq_F φ 1 7 2 1 2 0 1 0 0 fki fbi ftc ftf (x_s fnu 0 1) (x_s (x_s fco 0 0) 0 1) (x_s (x_s fso 0 1) 0 1) fcl ftn) (hB : zq_tp φ tp) (hT : zq_T φ tot at_ cur pl va fa fp sf sp no op K P V) (hKS : x_KS φ top_ fr_ pc_ mm mi st lo re rs fl se co) (hPS : x_PS φ A B 40 sv svm s9 (x_s comb 40 1) hm) (hN : zq_nm φ) (hc0 : tp 0 = 35) (hc1 : tp 1 = 49) (hc2 : tp 2 = 61) (hc3 : tp 3 = 97) (hc4 : tp 4 = 40) (hc5 : tp 5 = 41) (hc6 : tp 6 = 59) : x_f x_P (d + 2) 133 [(6, 471, 0), (11, 0, 0)] φ n sl (x_v φ n sl) := by
  refine x_f_of rfl ?_
  refine x_n_lt (fun hlt0 => ?_)
  refine q_const (p2 := 1) rfl rfl ?_
  refine q_store (loc2 := [(6, 471, 0), (0, 0, 0)]) (p2 := 2) rfl rfl rfl rfl rfl ?_
  refine q_load (v := (0, 0, 0)) (p2 := 3) rfl rfl rfl rfl ?_
  refine q_load (v := (6, 471, 0)) (p2 := 4) rfl rfl rfl rfl ?_
  refine q_getv (v := (0, 7, 0)) (p2 := 5) rfl hF.1 (by decide) rfl rfl ?_
  refine q_icmp_s (p2 := 6) rfl (by decide) (by omega) (by omega) rfl (fun hb => absurd hb (show ¬ (¬ (0 < 7)) by omega)) (fun _ => ?_)
  refine q_load (v := (6, 471, 0)) (p2 := 7) rfl rfl rfl rfl ?_
  refine q_callr (xs := [(6, 471, 0)]) (p2 := 8) rfl rfl rfl rfl (x_rcv_s 471 hF.1) rfl (zc_fr_peek_64 hF hB hT hKS hPS hN hc0 hc1 hc2 hc3 hc4 hc5 hc6) (Nat.le_refl _) (Nat.le_refl _) rfl ?_
  refine q_callr (xs := [(0, 61, 0)]) (p2 := 9) rfl rfl rfl rfl (fun _ _ => rfl) rfl (zc_a_87_61 ) (Nat.le_refl _) (Nat.le_refl _) rfl ?_
  refine q_if0_s (p2 := 10) rfl (by decide) (by omega) rfl (fun _ => ?_) (fun hb => absurd (show 0 = 0 by omega) hb)
  exact q_ret rfl (⟨rfl, rfl, rfl, rfl⟩)
theorem zc_fr_sign_62 {d n sl : Nat} {φ : FH} {A : Nat} {B : Nat} {K : Nat → Nat} {P : Nat → Nat} {V : Nat → Nat} {at_ : Nat} {co : Nat → Nat} {comb : Nat → Nat} {cur : Nat} {fa : Nat} {fbi : Nat} {fcl : Nat → Nat} {fco : Nat → Nat} {fki : Nat} {fl : Nat → Nat} {fnu : Nat → Nat} {fp : Nat} {fr_ : Nat} {fso : Nat → Nat} {ftc : Nat} {ftf : Nat} {ftn : Nat → Nat} {hm : Nat → MV} {lo : Nat → Nat} {mi : Nat} {mm : Nat} {no : Nat} {op : Nat} {pc_ : Nat} {pl : Nat} {re : Nat → Nat} {rs : Nat → Nat} {s9 : Nat} {se : Nat → Nat} {sf : Nat} {sp : Nat} {st : Nat → Nat} {sv : Nat} {svm : Nat} {top_ : Nat} {tot : Nat} {tp : Nat → Nat} {va : Nat} (hF : zq_F φ 1 7 2 1 2 0 1 0 0 fki fbi ftc ftf (x_s fnu 0 1) (x_s (x_s fco 0 0) 0 1) (x_s (x_s fso 0 1) 0 1) fcl ftn) (hB : zq_tp φ tp) (hT : zq_T φ tot at_ cur pl va fa fp sf sp no op K P V) (hKS : x_KS φ top_ fr_ pc_ mm mi st lo re rs fl se co) (hPS : x_PS φ A B 40 sv svm s9 (x_s comb 40 1) hm) (hN : zq_nm φ) (hc0 : tp 0 = 35) (hc1 : tp 1 = 49) (hc2 : tp 2 = 61) (hc3 : tp 3 = 97) (hc4 : tp 4 = 40) (hc5 : tp 5 = 41) (hc6 : tp 6 = 59) : x_f x_P (d + 3) 137 [(6, 471, 0), (0, 61, 0)] φ n sl (x_v φ n sl) := by
  refine x_f_of rfl ?_
  refine x_n_lt (fun hlt0 => ?_)
  refine q_load (v := (6, 471, 0)) (p2 := 1) rfl rfl rfl rfl ?_
  refine q_callv (xs := [(6, 471, 0)]) (p2 := 2) rfl rfl rfl rfl (x_rcv_s 471 hF.1) rfl (zc_fr_blanks_63 hF hB hT hKS hPS hN hc0 hc1 hc2 hc3 hc4 hc5 hc6) (Nat.le_refl _) (Nat.le_refl _) rfl ?_
  refine q_load (v := (6, 471, 0)) (p2 := 3) rfl rfl rfl rfl ?_
  refine q_callr (xs := [(6, 471, 0)]) (p2 := 4) rfl rfl rfl rfl (x_rcv_s 471 hF.1) rfl (zc_fr_peek_64 hF hB hT hKS hPS hN hc0 hc1 hc2 hc3 hc4 hc5 hc6) (Nat.le_refl _) (Nat.le_refl _) rfl ?_
  refine q_load (v := (0, 61, 0)) (p2 := 5) rfl rfl rfl rfl ?_
  refine q_icmp_s (p2 := 6) rfl (by decide) (by omega) (by omega) rfl (fun _ => ?_) (fun hb => absurd (show 61 = 61 by omega) hb)
  refine q_load (v := (6, 471, 0)) (p2 := 13) rfl rfl rfl rfl ?_
  refine q_getv (v := (0, 2, 0)) (p2 := 14) rfl hF.1 (by decide) rfl rfl ?_
  refine q_if0_s (p2 := 15) rfl (by decide) (by omega) rfl (fun _ => ?_) (fun hb => absurd (show ¬ (2 = 0) by omega) hb)
  refine q_load (v := (6, 471, 0)) (p2 := 22) rfl rfl rfl rfl ?_
  refine q_callv (xs := [(6, 471, 0)]) (p2 := 23) rfl rfl rfl rfl (x_rcv_s 471 hF.1) rfl (zc_fr_blanks_63 hF hB hT hKS hPS hN hc0 hc1 hc2 hc3 hc4 hc5 hc6) (Nat.le_refl _) (Nat.le_refl _) rfl ?_
  exact q_ret rfl (⟨rfl, rfl, rfl, rfl⟩)
theorem zc_fr_fail_67 {d n sl : Nat} {φ : FH} {A : Nat} {B : Nat} {K : Nat → Nat} {P : Nat → Nat} {V : Nat → Nat} {at_ : Nat} {co : Nat → Nat} {comb : Nat → Nat} {cur : Nat} {fa : Nat} {fbi : Nat} {fcl : Nat → Nat} {fco : Nat → Nat} {fki : Nat} {fl : Nat → Nat} {fnu : Nat → Nat} {fp : Nat} {fr_ : Nat} {fso : Nat → Nat} {ftc : Nat} {ftf : Nat} {ftn : Nat → Nat} {hm : Nat → MV} {lo : Nat → Nat} {mi : Nat} {mm : Nat} {no : Nat} {op : Nat} {pc_ : Nat} {pl : Nat} {re : Nat → Nat} {rs : Nat → Nat} {s9 : Nat} {se : Nat → Nat} {sf : Nat} {sp : Nat} {st : Nat → Nat} {sv : Nat} {svm : Nat} {top_ : Nat} {tot : Nat} {tp : Nat → Nat} {va : Nat} (hF : zq_F φ 1 7 2 1 2 0 1 0 0 fki fbi ftc ftf (x_s fnu 0 1) (x_s (x_s fco 0 0) 0 1) (x_s (x_s fso 0 1) 0 1) fcl ftn) (hB : zq_tp φ tp) (hT : zq_T φ tot at_ cur pl va fa fp sf sp no op K P V) (hKS : x_KS φ top_ fr_ pc_ mm mi st lo re rs fl se co) (hPS : x_PS φ A B 40 sv svm s9 (x_s comb 40 1) hm) (hN : zq_nm φ) (hc0 : tp 0 = 35) (hc1 : tp 1 = 49) (hc2 : tp 2 = 61) (hc3 : tp 3 = 97) (hc4 : tp 4 = 40) (hc5 : tp 5 = 41) (hc6 : tp 6 = 59) : x_f x_P (d + 1) 214 [(6, 471, 0), (0, 1, 0), (0, 2, 0)] φ n sl (x_v φ n sl) := by
  refine x_f_of rfl ?_
  refine x_n_lt (fun hlt0 => ?_)
  refine q_load (v := (6, 471, 0)) (p2 := 1) rfl rfl rfl rfl ?_
  refine q_getv (v := (0, 2, 0)) (p2 := 2) rfl hF.1 (by decide) rfl rfl ?_
  refine q_if0_s (p2 := 3) rfl (by decide) (by omega) rfl (fun _ => ?_) (fun hb => absurd (show ¬ (2 = 0) by omega) hb)
  exact q_ret rfl (⟨rfl, rfl, rfl, rfl⟩)
theorem zc_fr_word_66 {d n sl : Nat} {φ : FH} {A : Nat} {B : Nat} {K : Nat → Nat} {P : Nat → Nat} {V : Nat → Nat} {at_ : Nat} {co : Nat → Nat} {comb : Nat → Nat} {cur : Nat} {fa : Nat} {fbi : Nat} {fcl : Nat → Nat} {fco : Nat → Nat} {fki : Nat} {fl : Nat → Nat} {fnu : Nat → Nat} {fp : Nat} {fr_ : Nat} {fso : Nat → Nat} {ftc : Nat} {ftf : Nat} {ftn : Nat → Nat} {hm : Nat → MV} {lo : Nat → Nat} {mi : Nat} {mm : Nat} {no : Nat} {op : Nat} {pc_ : Nat} {pl : Nat} {re : Nat → Nat} {rs : Nat → Nat} {s9 : Nat} {se : Nat → Nat} {sf : Nat} {sp : Nat} {st : Nat → Nat} {sv : Nat} {svm : Nat} {top_ : Nat} {tot : Nat} {tp : Nat → Nat} {va : Nat} (hF : zq_F φ 1 7 2 1 2 0 1 0 0 fki fbi ftc ftf (x_s fnu 0 1) (x_s (x_s fco 0 0) 0 1) (x_s (x_s fso 0 1) 0 1) fcl ftn) (hB : zq_tp φ tp) (hT : zq_T φ tot at_ cur pl va fa fp sf sp no op K P V) (hKS : x_KS φ top_ fr_ pc_ mm mi st lo re rs fl se co) (hPS : x_PS φ A B 40 sv svm s9 (x_s comb 40 1) hm) (hN : zq_nm φ) (hc0 : tp 0 = 35) (hc1 : tp 1 = 49) (hc2 : tp 2 = 61) (hc3 : tp 3 = 97) (hc4 : tp 4 = 40) (hc5 : tp 5 = 41) (hc6 : tp 6 = 59) : x_f x_P (d + 2) 216 [(6, 471, 0), (11, 0, 0), (11, 0, 0), (11, 0, 0)] φ n sl (x_r φ n sl (2, 0, 0)) := by
  refine x_f_of rfl ?_
  refine x_n_lt (fun hlt0 => ?_)
  refine q_const (p2 := 1) rfl rfl ?_
  refine q_store2 (loc2 := [(6, 471, 0), (2, 0, 0), (11, 0, 0), (11, 0, 0)]) (p2 := 2) rfl rfl rfl rfl rfl ?_
  refine q_load (v := (6, 471, 0)) (p2 := 3) rfl rfl rfl rfl ?_
  refine q_callr (xs := [(6, 471, 0)]) (p2 := 4) rfl rfl rfl rfl (x_rcv_s 471 hF.1) rfl (zc_fr_peek_64 hF hB hT hKS hPS hN hc0 hc1 hc2 hc3 hc4 hc5 hc6) (Nat.le_refl _) (Nat.le_refl _) rfl ?_
  refine q_callr (xs := [(0, 61, 0)]) (p2 := 5) rfl rfl rfl rfl (fun _ _ => rfl) rfl (zc_a_141_61 ) (Nat.le_refl _) (Nat.le_refl _) rfl ?_
  refine q_if0_s (p2 := 6) rfl (by decide) (by omega) rfl (fun hb => absurd hb (show ¬ (¬ (0 = 0)) by omega)) (fun _ => ?_)
  refine q_load (v := (6, 471, 0)) (p2 := 7) rfl rfl rfl rfl ?_
  refine q_const (p2 := 8) rfl rfl ?_
  refine q_load (v := (6, 471, 0)) (p2 := 9) rfl rfl rfl rfl ?_
  refine q_getv (v := (0, 2, 0)) (p2 := 10) rfl hF.1 (by decide) rfl rfl ?_
  refine q_callv (xs := [(0, 2, 0), (0, 1, 0), (6, 471, 0)]) (p2 := 11) rfl rfl rfl rfl (x_rcv_s 471 hF.1) rfl (zc_fr_fail_67 hF hB hT hKS hPS hN hc0 hc1 hc2 hc3 hc4 hc5 hc6) (Nat.le_refl _) (Nat.le_refl _) rfl ?_
  refine q_const (p2 := 12) rfl rfl ?_
  refine q_store (loc2 := [(6, 471, 0), (2, 0, 0), (11, 0, 0), (0, 0, 0)]) (p2 := 13) rfl rfl rfl rfl rfl ?_
  refine q_load (v := (0, 0, 0)) (p2 := 14) rfl rfl rfl rfl ?_
  refine q_const (p2 := 15) rfl rfl ?_
  refine q_icmp_s (p2 := 16) rfl (by decide) (by omega) (by omega) rfl (fun hb => absurd hb (show ¬ (¬ (0 < 12)) by omega)) (fun _ => ?_)
  refine q_load (v := (6, 471, 0)) (p2 := 17) rfl rfl rfl rfl ?_
  refine q_getv (v := (0, 2, 0)) (p2 := 18) rfl hF.1 (by decide) rfl rfl ?_
  refine q_if0_s (p2 := 19) rfl (by decide) (by omega) rfl (fun _ => ?_) (fun hb => absurd (show ¬ (2 = 0) by omega) hb)
  refine q_load (v := (6, 471, 0)) (p2 := 41) rfl rfl rfl rfl ?_
  refine q_getv (v := (6, 2, 0)) (p2 := 42) rfl hF.1 (by decide) rfl rfl ?_
  refine q_load (v := (2, 0, 0)) (p2 := 43) rfl rfl rfl rfl ?_
  refine q_callr (xs := [(2, 0, 0), (6, 2, 0)]) (p2 := 44) rfl rfl rfl rfl (x_rcv_s 2 hT.1) rfl (zc_kw_0 hT) (Nat.le_refl _) (Nat.le_refl _) rfl ?_
  refine q_const (p2 := 45) rfl rfl ?_
  refine q_icmp_s (p2 := 46) rfl (by decide) (by omega) (by omega) rfl (fun _ => ?_) (fun hb => absurd (show 1 = 1 by omega) hb)
  refine q_load (v := (2, 0, 0)) (p2 := 52) rfl rfl rfl rfl ?_
  exact q_retv (v := (2, 0, 0)) rfl rfl (⟨rfl, rfl, rfl, rfl, rfl⟩)
theorem zc_fr_fail_68 {d n sl : Nat} {φ : FH} {A : Nat} {B : Nat} {K : Nat → Nat} {P : Nat → Nat} {V : Nat → Nat} {at_ : Nat} {co : Nat → Nat} {comb : Nat → Nat} {cur : Nat} {fa : Nat} {fbi : Nat} {fcl : Nat → Nat} {fco : Nat → Nat} {fki : Nat} {fl : Nat → Nat} {fnu : Nat → Nat} {fp : Nat} {fr_ : Nat} {fso : Nat → Nat} {ftc : Nat} {ftf : Nat} {ftn : Nat → Nat} {hm : Nat → MV} {lo : Nat → Nat} {mi : Nat} {mm : Nat} {no : Nat} {op : Nat} {pc_ : Nat} {pl : Nat} {re : Nat → Nat} {rs : Nat → Nat} {s9 : Nat} {se : Nat → Nat} {sf : Nat} {sp : Nat} {st : Nat → Nat} {sv : Nat} {svm : Nat} {top_ : Nat} {tot : Nat} {tp : Nat → Nat} {va : Nat} (hF : zq_F φ 1 7 2 1 2 0 1 0 0 fki fbi ftc ftf (x_s fnu 0 1) (x_s (x_s fco 0 0) 0 1) (x_s (x_s fso 0 1) 0 1) fcl ftn) (hB : zq_tp φ tp) (hT : zq_T φ tot at_ cur pl va fa fp sf sp no op K P V) (hKS : x_KS φ top_ fr_ pc_ mm mi st lo re rs fl se co) (hPS : x_PS φ A B 40 sv svm s9 (x_s comb 40 1) hm) (hN : zq_nm φ) (hc0 : tp 0 = 35) (hc1 : tp 1 = 49) (hc2 : tp 2 = 61) (hc3 : tp 3 = 97) (hc4 : tp 4 = 40) (hc5 : tp 5 = 41) (hc6 : tp 6 = 59) : x_f x_P (d + 1) 214 [(6, 471, 0), (0, 2, 0), (0, 2, 0)] φ n sl (x_v φ n sl) := by
  refine x_f_of rfl ?_
  refine x_n_lt (fun hlt0 => ?_)
  refine q_load (v := (6, 471, 0)) (p2 := 1) rfl rfl rfl rfl ?_
  refine q_getv (v := (0, 2, 0)) (p2 := 2) rfl hF.1 (by decide) rfl rfl ?_
  refine q_if0_s (p2 := 3) rfl (by decide) (by omega) rfl (fun _ => ?_) (fun hb => absurd (show ¬ (2 = 0) by omega) hb)
  exact q_ret rfl (⟨rfl, rfl, rfl, rfl⟩)
theorem zc_fr_sign_69 {d n sl : Nat} {φ : FH} {A : Nat} {B : Nat} {K : Nat → Nat} {P : Nat → Nat} {V : Nat → Nat} {at_ : Nat} {co : Nat → Nat} {comb : Nat → Nat} {cur : Nat} {fa : Nat} {fbi : Nat} {fcl : Nat → Nat} {fco : Nat → Nat} {fki : Nat} {fl : Nat → Nat} {fnu : Nat → Nat} {fp : Nat} {fr_ : Nat} {fso : Nat → Nat} {ftc : Nat} {ftf : Nat} {ftn : Nat → Nat} {hm : Nat → MV} {lo : Nat → Nat} {mi : Nat} {mm : Nat} {no : Nat} {op : Nat} {pc_ : Nat} {pl : Nat} {re : Nat → Nat} {rs : Nat → Nat} {s9 : Nat} {se : Nat → Nat} {sf : Nat} {sp : Nat} {st : Nat → Nat} {sv : Nat} {svm : Nat} {top_ : Nat} {tot : Nat} {tp : Nat → Nat} {va : Nat} (hF : zq_F φ 1 7 2 1 2 0 1 0 0 fki fbi ftc ftf (x_s fnu 0 1) (x_s (x_s fco 0 0) 0 1) (x_s (x_s fso 0 1) 0 1) fcl ftn) (hB : zq_tp φ tp) (hT : zq_T φ tot at_ cur pl va fa fp sf sp no op K P V) (hKS : x_KS φ top_ fr_ pc_ mm mi st lo re rs fl se co) (hPS : x_PS φ A B 40 sv svm s9 (x_s comb 40 1) hm) (hN : zq_nm φ) (hc0 : tp 0 = 35) (hc1 : tp 1 = 49) (hc2 : tp 2 = 61) (hc3 : tp 3 = 97) (hc4 : tp 4 = 40) (hc5 : tp 5 = 41) (hc6 : tp 6 = 59) : x_f x_P (d + 3) 137 [(6, 471, 0), (0, 40, 0)] φ n sl (x_v φ n sl) := by
  refine x_f_of rfl ?_
  refine x_n_lt (fun hlt0 => ?_)
  refine q_load (v := (6, 471, 0)) (p2 := 1) rfl rfl rfl rfl ?_
  refine q_callv (xs := [(6, 471, 0)]) (p2 := 2) rfl rfl rfl rfl (x_rcv_s 471 hF.1) rfl (zc_fr_blanks_63 hF hB hT hKS hPS hN hc0 hc1 hc2 hc3 hc4 hc5 hc6) (Nat.le_refl _) (Nat.le_refl _) rfl ?_
  refine q_load (v := (6, 471, 0)) (p2 := 3) rfl rfl rfl rfl ?_
  refine q_callr (xs := [(6, 471, 0)]) (p2 := 4) rfl rfl rfl rfl (x_rcv_s 471 hF.1) rfl (zc_fr_peek_64 hF hB hT hKS hPS hN hc0 hc1 hc2 hc3 hc4 hc5 hc6) (Nat.le_refl _) (Nat.le_refl _) rfl ?_
  refine q_load (v := (0, 40, 0)) (p2 := 5) rfl rfl rfl rfl ?_
  refine q_icmp_s (p2 := 6) rfl (by decide) (by omega) (by omega) rfl (fun hb => absurd hb (show ¬ (61 = 40) by omega)) (fun _ => ?_)
  refine q_load (v := (6, 471, 0)) (p2 := 7) rfl rfl rfl rfl ?_
  refine q_const (p2 := 8) rfl rfl ?_
  refine q_load (v := (6, 471, 0)) (p2 := 9) rfl rfl rfl rfl ?_
  refine q_getv (v := (0, 2, 0)) (p2 := 10) rfl hF.1 (by decide) rfl rfl ?_
  refine q_callv (xs := [(0, 2, 0), (0, 1, 0), (6, 471, 0)]) (p2 := 11) rfl rfl rfl rfl (x_rcv_s 471 hF.1) rfl (zc_fr_fail_67 hF hB hT hKS hPS hN hc0 hc1 hc2 hc3 hc4 hc5 hc6) (Nat.le_refl _) (Nat.le_refl _) rfl ?_
  refine q_goto rfl ?_
  refine q_load (v := (6, 471, 0)) (p2 := 22) rfl rfl rfl rfl ?_
  refine q_callv (xs := [(6, 471, 0)]) (p2 := 23) rfl rfl rfl rfl (x_rcv_s 471 hF.1) rfl (zc_fr_blanks_63 hF hB hT hKS hPS hN hc0 hc1 hc2 hc3 hc4 hc5 hc6) (Nat.le_refl _) (Nat.le_refl _) rfl ?_
  exact q_ret rfl (⟨rfl, rfl, rfl, rfl⟩)
theorem zc_fr_sign_70 {d n sl : Nat} {φ : FH} {A : Nat} {B : Nat} {K : Nat → Nat} {P : Nat → Nat} {V : Nat → Nat} {at_ : Nat} {co : Nat → Nat} {comb : Nat → Nat} {cur : Nat} {fa : Nat} {fbi : Nat} {fcl : Nat → Nat} {fco : Nat → Nat} {fki : Nat} {fl : Nat → Nat} {fnu : Nat → Nat} {fp : Nat} {fr_ : Nat} {fso : Nat → Nat} {ftc : Nat} {ftf : Nat} {ftn : Nat → Nat} {hm : Nat → MV} {lo : Nat → Nat} {mi : Nat} {mm : Nat} {no : Nat} {op : Nat} {pc_ : Nat} {pl : Nat} {re : Nat → Nat} {rs : Nat → Nat} {s9 : Nat} {se : Nat → Nat} {sf : Nat} {sp : Nat} {st : Nat → Nat} {sv : Nat} {svm : Nat} {top_ : Nat} {tot : Nat} {tp : Nat → Nat} {va : Nat} (hF : zq_F φ 1 7 2 1 2 0 1 0 0 fki fbi ftc ftf (x_s fnu 0 1) (x_s (x_s fco 0 0) 0 1) (x_s (x_s fso 0 1) 0 1) fcl ftn) (hB : zq_tp φ tp) (hT : zq_T φ tot at_ cur pl va fa fp sf sp no op K P V) (hKS : x_KS φ top_ fr_ pc_ mm mi st lo re rs fl se co) (hPS : x_PS φ A B 40 sv svm s9 (x_s comb 40 1) hm) (hN : zq_nm φ) (hc0 : tp 0 = 35) (hc1 : tp 1 = 49) (hc2 : tp 2 = 61) (hc3 : tp 3 = 97) (hc4 : tp 4 = 40) (hc5 : tp 5 = 41) (hc6 : tp 6 = 59) : x_f x_P (d + 3) 137 [(6, 471, 0), (0, 41, 0)] φ n sl (x_v φ n sl) := by
  refine x_f_of rfl ?_
  refine x_n_lt (fun hlt0 => ?_)
  refine q_load (v := (6, 471, 0)) (p2 := 1) rfl rfl rfl rfl ?_
  refine q_callv (xs := [(6, 471, 0)]) (p2 := 2) rfl rfl rfl rfl (x_rcv_s 471 hF.1) rfl (zc_fr_blanks_63 hF hB hT hKS hPS hN hc0 hc1 hc2 hc3 hc4 hc5 hc6) (Nat.le_refl _) (Nat.le_refl _) rfl ?_
  refine q_load (v := (6, 471, 0)) (p2 := 3) rfl rfl rfl rfl ?_
  refine q_callr (xs := [(6, 471, 0)]) (p2 := 4) rfl rfl rfl rfl (x_rcv_s 471 hF.1) rfl (zc_fr_peek_64 hF hB hT hKS hPS hN hc0 hc1 hc2 hc3 hc4 hc5 hc6) (Nat.le_refl _) (Nat.le_refl _) rfl ?_
  refine q_load (v := (0, 41, 0)) (p2 := 5) rfl rfl rfl rfl ?_
  refine q_icmp_s (p2 := 6) rfl (by decide) (by omega) (by omega) rfl (fun hb => absurd hb (show ¬ (61 = 41) by omega)) (fun _ => ?_)
  refine q_load (v := (6, 471, 0)) (p2 := 7) rfl rfl rfl rfl ?_
  refine q_const (p2 := 8) rfl rfl ?_
  refine q_load (v := (6, 471, 0)) (p2 := 9) rfl rfl rfl rfl ?_
  refine q_getv (v := (0, 2, 0)) (p2 := 10) rfl hF.1 (by decide) rfl rfl ?_
  refine q_callv (xs := [(0, 2, 0), (0, 1, 0), (6, 471, 0)]) (p2 := 11) rfl rfl rfl rfl (x_rcv_s 471 hF.1) rfl (zc_fr_fail_67 hF hB hT hKS hPS hN hc0 hc1 hc2 hc3 hc4 hc5 hc6) (Nat.le_refl _) (Nat.le_refl _) rfl ?_
  refine q_goto rfl ?_
  refine q_load (v := (6, 471, 0)) (p2 := 22) rfl rfl rfl rfl ?_
  refine q_callv (xs := [(6, 471, 0)]) (p2 := 23) rfl rfl rfl rfl (x_rcv_s 471 hF.1) rfl (zc_fr_blanks_63 hF hB hT hKS hPS hN hc0 hc1 hc2 hc3 hc4 hc5 hc6) (Nat.le_refl _) (Nat.le_refl _) rfl ?_
  exact q_ret rfl (⟨rfl, rfl, rfl, rfl⟩)
theorem zc_fr_form_65 {d n sl : Nat} {φ : FH} {A : Nat} {B : Nat} {K : Nat → Nat} {P : Nat → Nat} {V : Nat → Nat} {at_ : Nat} {co : Nat → Nat} {comb : Nat → Nat} {cur : Nat} {fa : Nat} {fbi : Nat} {fcl : Nat → Nat} {fco : Nat → Nat} {fki : Nat} {fl : Nat → Nat} {fnu : Nat → Nat} {fp : Nat} {fr_ : Nat} {fso : Nat → Nat} {ftc : Nat} {ftf : Nat} {ftn : Nat → Nat} {hm : Nat → MV} {lo : Nat → Nat} {mi : Nat} {mm : Nat} {no : Nat} {op : Nat} {pc_ : Nat} {pl : Nat} {re : Nat → Nat} {rs : Nat → Nat} {s9 : Nat} {se : Nat → Nat} {sf : Nat} {sp : Nat} {st : Nat → Nat} {sv : Nat} {svm : Nat} {top_ : Nat} {tot : Nat} {tp : Nat → Nat} {va : Nat} (hF : zq_F φ 1 7 2 1 2 0 1 0 0 fki fbi ftc ftf (x_s fnu 0 1) (x_s (x_s fco 0 0) 0 1) (x_s (x_s fso 0 1) 0 1) fcl ftn) (hB : zq_tp φ tp) (hT : zq_T φ tot at_ cur pl va fa fp sf sp no op K P V) (hKS : x_KS φ top_ fr_ pc_ mm mi st lo re rs fl se co) (hPS : x_PS φ A B 40 sv svm s9 (x_s comb 40 1) hm) (hN : zq_nm φ) (hc0 : tp 0 = 35) (hc1 : tp 1 = 49) (hc2 : tp 2 = 61) (hc3 : tp 3 = 97) (hc4 : tp 4 = 40) (hc5 : tp 5 = 41) (hc6 : tp 6 = 59) : x_f x_P (d + 4) 139 [(6, 471, 0), (0, 1, 0), (11, 0, 0), (11, 0, 0), (11, 0, 0), (11, 0, 0), (11, 0, 0), (11, 0, 0), (11, 0, 0), (11, 0, 0)] φ n sl (x_vR n sl (fun φ2 => zq_F φ2 1 7 2 1 2 0 1 0 0 fki fbi ftc ftf (x_s fnu 0 1) (x_s (x_s fco 0 0) 0 1) (x_s (x_s fso 0 1) 0 1) fcl ftn ∧ ∀ j, j ≠ 471 → φ2 j = φ j)) := by
  refine x_f_of rfl ?_
  refine x_n_lt (fun hlt0 => ?_)
  refine q_load (v := (6, 471, 0)) (p2 := 1) rfl rfl rfl rfl ?_
  refine q_getv (v := (0, 2, 0)) (p2 := 2) rfl hF.1 (by decide) rfl rfl ?_
  refine q_store (loc2 := [(6, 471, 0), (0, 1, 0), (0, 2, 0), (11, 0, 0), (11, 0, 0), (11, 0, 0), (11, 0, 0), (11, 0, 0), (11, 0, 0), (11, 0, 0)]) (p2 := 3) rfl rfl rfl rfl rfl ?_
  refine q_load (v := (6, 471, 0)) (p2 := 4) rfl rfl rfl rfl ?_
  refine q_getv (v := (6, 7, 0)) (p2 := 5) rfl hF.1 (by decide) rfl rfl ?_
  refine q_getv (v := (6, 237, 0)) (p2 := 6) rfl hPS.1.choose_spec.1 (by decide) hPS.1.choose_spec.2.1 rfl ?_
  refine q_const (p2 := 7) rfl rfl ?_
  refine q_load (v := (6, 471, 0)) (p2 := 8) rfl rfl rfl rfl ?_
  refine q_callr (xs := [(6, 471, 0)]) (p2 := 9) rfl rfl rfl rfl (x_rcv_s 471 hF.1) rfl (zc_fr_word_66 hF hB hT hKS hPS hN hc0 hc1 hc2 hc3 hc4 hc5 hc6) (Nat.le_refl _) (Nat.le_refl _) rfl ?_
  refine q_callr (xs := [(2, 0, 0), (0, 2, 0), (6, 237, 0)]) (p2 := 10) rfl rfl rfl rfl (x_rcv_s 237 hKS.2.2.2.2.2.2.2.2.2.1.choose_spec.1) rfl (zc_s_find2_0 hKS.2.2.2.2.2.2.2.2.2 hN) (Nat.le_refl _) (Nat.le_refl _) rfl ?_
  refine q_store (loc2 := [(6, 471, 0), (0, 1, 0), (0, 2, 0), (0, 4294967293, 0), (11, 0, 0), (11, 0, 0), (11, 0, 0), (11, 0, 0), (11, 0, 0), (11, 0, 0)]) (p2 := 11) rfl rfl rfl rfl rfl ?_
  refine q_load (v := (0, 4294967293, 0)) (p2 := 12) rfl rfl rfl rfl ?_
  refine q_if0 (p2 := 13) rfl (by decide) rfl (fun hb => absurd hb (show ¬ (¬ (2147483645 < 2147483648)) by decide)) (fun _ => ?_)
  refine q_const (p2 := 14) rfl rfl ?_
  refine q_goto rfl ?_
  refine q_store (loc2 := [(6, 471, 0), (0, 1, 0), (0, 2, 0), (0, 4294967293, 0), (0, 0, 0), (11, 0, 0), (11, 0, 0), (11, 0, 0), (11, 0, 0), (11, 0, 0)]) (p2 := 19) rfl rfl rfl rfl rfl ?_
  refine q_load (v := (0, 4294967293, 0)) (p2 := 20) rfl rfl rfl rfl ?_
  refine q_if0 (p2 := 21) rfl (by decide) rfl (fun _ => ?_) (fun hb => absurd (show 2147483645 < 2147483648 by decide) hb)
  refine q_const (p2 := 29) rfl rfl ?_
  refine q_store (loc2 := [(6, 471, 0), (0, 1, 0), (0, 2, 0), (0, 4294967293, 0), (0, 0, 0), (0, 0, 0), (11, 0, 0), (11, 0, 0), (11, 0, 0), (11, 0, 0)]) (p2 := 30) rfl rfl rfl rfl rfl ?_
  refine q_load (v := (0, 1, 0)) (p2 := 31) rfl rfl rfl rfl ?_
  refine q_if0_s (p2 := 32) rfl (by decide) (by omega) rfl (fun hb => absurd hb (show ¬ (1 = 0) by omega)) (fun _ => ?_)
  refine q_load (v := (0, 4294967293, 0)) (p2 := 33) rfl rfl rfl rfl ?_
  refine q_if0 (p2 := 34) rfl (by decide) rfl (fun _ => ?_) (fun hb => absurd (show 2147483645 < 2147483648 by decide) hb)
  refine q_load (v := (0, 0, 0)) (p2 := 46) rfl rfl rfl rfl ?_
  refine q_store (loc2 := [(6, 471, 0), (0, 1, 0), (0, 2, 0), (0, 4294967293, 0), (0, 0, 0), (0, 0, 0), (0, 0, 0), (11, 0, 0), (11, 0, 0), (11, 0, 0)]) (p2 := 47) rfl rfl rfl rfl rfl ?_
  refine q_load (v := (6, 471, 0)) (p2 := 48) rfl rfl rfl rfl ?_
  refine q_dup (p2 := 49) rfl rfl rfl ?_
  refine q_getv (v := (0, 0, 0)) (p2 := 50) rfl hF.1 (by decide) rfl rfl ?_
  refine q_load (v := (0, 0, 0)) (p2 := 51) rfl rfl rfl rfl ?_
  refine q_iop (w := 0 ||| 0) (z := 0) (p2 := 52) rfl (xo_or 0 0) (by decide) rfl ?_
  refine q_putfE (v := (0, 0, 0)) (p2 := 53) rfl hF.1 (by decide) rfl rfl (fun φ1 f1 hh1 hg1 ho1 fr1 => ?_)
  have hs1 := zq_F_put_471_13 hF hh1 hg1 ho1 fr1
  refine q_load (v := (6, 471, 0)) (p2 := 54) rfl rfl rfl rfl ?_
  refine q_getv (v := (0, 1, 0)) (p2 := 55) rfl hs1.1 (by decide) rfl rfl ?_
  refine q_if0_s (p2 := 56) rfl (by decide) (by omega) rfl (fun hb => absurd hb (show ¬ (1 = 0) by omega)) (fun _ => ?_)
  refine q_load (v := (0, 0, 0)) (p2 := 57) rfl rfl rfl rfl ?_
  refine q_if0_s (p2 := 58) rfl (by decide) (by omega) rfl (fun hb => absurd hb (show ¬ (¬ (0 = 0)) by omega)) (fun _ => ?_)
  refine q_load (v := (6, 471, 0)) (p2 := 59) rfl rfl rfl rfl ?_
  refine q_const (p2 := 60) rfl rfl ?_
  refine q_load (v := (0, 2, 0)) (p2 := 61) rfl rfl rfl rfl ?_
  have hm2 := (zq_tp_at hB (fr1 1 (by decide)))
  have hm3 := (zq_T_at hT (fr1 2 (by decide)) (fr1 3 (by decide)) (fr1 4 (by decide)) (fr1 5 (by decide)) (fr1 6 (by decide)))
  have hm4 := (x_KS_at2 hKS (fun j h1 h2 h3 h4 => (fr1 j (by omega))))
  refine x_n_lt (fun hlt6 => ?_)
  have hm5 := (x_PS_at hPS (fun j hj hne => by have hj2 := x_some_lt hlt0 hne; exact (fr1 j (by omega))))
  have hm7 := (zq_nm_at hN (fr1 239 (by decide)) (fr1 242 (by decide)) (fr1 244 (by decide)))
  refine q_callv (xs := [(0, 2, 0), (0, 2, 0), (6, 471, 0)]) (p2 := 62) rfl rfl rfl rfl (x_rcv_s 471 hs1.1) rfl (zc_fr_fail_68 hs1 hm2 hm3 hm4 hm5 hm7 hc0 hc1 hc2 hc3 hc4 hc5 hc6) (Nat.le_refl _) (Nat.le_refl _) rfl ?_
  refine q_goto rfl ?_
  refine q_load (v := (6, 471, 0)) (p2 := 96) rfl rfl rfl rfl ?_
  refine q_const (p2 := 97) rfl rfl ?_
  refine q_callv (xs := [(0, 40, 0), (6, 471, 0)]) (p2 := 98) rfl rfl rfl rfl (x_rcv_s 471 hs1.1) rfl (zc_fr_sign_69 hs1 hm2 hm3 hm4 hm5 hm7 hc0 hc1 hc2 hc3 hc4 hc5 hc6) (Nat.le_refl _) (Nat.le_refl _) rfl ?_
  refine q_load (v := (6, 471, 0)) (p2 := 99) rfl rfl rfl rfl ?_
  refine q_getv (v := (6, 7, 0)) (p2 := 100) rfl hs1.1 (by decide) rfl rfl ?_
  refine q_getv (v := (6, 237, 0)) (p2 := 101) rfl hm5.1.choose_spec.1 (by decide) hm5.1.choose_spec.2.1 rfl ?_
  refine q_const (p2 := 102) rfl rfl ?_
  refine q_load (v := (0, 0, 0)) (p2 := 103) rfl rfl rfl rfl ?_
  refine q_callr (xs := [(0, 0, 0), (0, 0, 0), (6, 237, 0)]) (p2 := 104) rfl rfl rfl rfl (x_rcv_s 237 hm4.2.2.2.2.2.2.2.2.2.1.choose_spec.1) rfl (zc_fs_explicitFrom_48 hm4.2.2.2.2.2.2.2.2.2) (Nat.le_refl _) (Nat.le_refl _) rfl ?_
  refine q_store (loc2 := [(6, 471, 0), (0, 1, 0), (0, 2, 0), (0, 4294967293, 0), (0, 0, 0), (0, 0, 0), (0, 0, 0), (0, 4294967293, 0), (11, 0, 0), (11, 0, 0)]) (p2 := 105) rfl rfl rfl rfl rfl ?_
  refine q_const (p2 := 106) rfl rfl ?_
  refine q_store (loc2 := [(6, 471, 0), (0, 1, 0), (0, 2, 0), (0, 4294967293, 0), (0, 0, 0), (0, 0, 0), (0, 0, 0), (0, 4294967293, 0), (0, 0, 0), (11, 0, 0)]) (p2 := 107) rfl rfl rfl rfl rfl ?_
  refine q_const (p2 := 108) rfl rfl ?_
  refine q_store (loc2 := [(6, 471, 0), (0, 1, 0), (0, 2, 0), (0, 4294967293, 0), (0, 0, 0), (0, 0, 0), (0, 0, 0), (0, 4294967293, 0), (0, 0, 0), (0, 0, 0)]) (p2 := 109) rfl rfl rfl rfl rfl ?_
  refine q_load (v := (0, 0, 0)) (p2 := 110) rfl rfl rfl rfl ?_
  refine q_load (v := (6, 471, 0)) (p2 := 111) rfl rfl rfl rfl ?_
  refine q_getv (v := (0, 7, 0)) (p2 := 112) rfl hs1.1 (by decide) rfl rfl ?_
  refine q_icmp_s (p2 := 113) rfl (by decide) (by omega) (by omega) rfl (fun hb => absurd hb (show ¬ (¬ (0 < 7)) by omega)) (fun _ => ?_)
  refine q_load (v := (6, 471, 0)) (p2 := 114) rfl rfl rfl rfl ?_
  refine q_getv (v := (0, 2, 0)) (p2 := 115) rfl hs1.1 (by decide) rfl rfl ?_
  refine q_if0_s (p2 := 116) rfl (by decide) (by omega) rfl (fun _ => ?_) (fun hb => absurd (show ¬ (2 = 0) by omega) hb)
  refine q_load (v := (6, 471, 0)) (p2 := 161) rfl rfl rfl rfl ?_
  refine q_getv (v := (0, 1, 0)) (p2 := 162) rfl hs1.1 (by decide) rfl rfl ?_
  refine q_if0_s (p2 := 163) rfl (by decide) (by omega) rfl (fun hb => absurd hb (show ¬ (1 = 0) by omega)) (fun _ => ?_)
  refine q_load (v := (6, 471, 0)) (p2 := 164) rfl rfl rfl rfl ?_
  refine q_callr (xs := [(6, 471, 0)]) (p2 := 165) rfl rfl rfl rfl (x_rcv_s 471 hs1.1) rfl (zc_fr_peek_64 hs1 hm2 hm3 hm4 hm5 hm7 hc0 hc1 hc2 hc3 hc4 hc5 hc6) (Nat.le_refl _) (Nat.le_refl _) rfl ?_
  refine q_const (p2 := 166) rfl rfl ?_
  refine q_icmp_s (p2 := 167) rfl (by decide) (by omega) (by omega) rfl (fun _ => ?_) (fun hb => absurd (show ¬ (61 = 41) by omega) hb)
  refine q_load (v := (6, 471, 0)) (p2 := 177) rfl rfl rfl rfl ?_
  refine q_const (p2 := 178) rfl rfl ?_
  refine q_callv (xs := [(0, 41, 0), (6, 471, 0)]) (p2 := 179) rfl rfl rfl rfl (x_rcv_s 471 hs1.1) rfl (zc_fr_sign_70 hs1 hm2 hm3 hm4 hm5 hm7 hc0 hc1 hc2 hc3 hc4 hc5 hc6) (Nat.le_refl _) (Nat.le_refl _) rfl ?_
  exact q_ret rfl (⟨rfl, rfl, rfl, hs1, fun j hj0 => (fr1 j (by omega))⟩)
theorem zc_fr_sign_71 {d n sl : Nat} {φ : FH} {A : Nat} {B : Nat} {K : Nat → Nat} {P : Nat → Nat} {V : Nat → Nat} {at_ : Nat} {co : Nat → Nat} {comb : Nat → Nat} {cur : Nat} {fa : Nat} {fbi : Nat} {fcl : Nat → Nat} {fco : Nat → Nat} {fki : Nat} {fl : Nat → Nat} {fnu : Nat → Nat} {fp : Nat} {fr_ : Nat} {fso : Nat → Nat} {ftc : Nat} {ftf : Nat} {ftn : Nat → Nat} {hm : Nat → MV} {lo : Nat → Nat} {mi : Nat} {mm : Nat} {no : Nat} {op : Nat} {pc_ : Nat} {pl : Nat} {re : Nat → Nat} {rs : Nat → Nat} {s9 : Nat} {se : Nat → Nat} {sf : Nat} {sp : Nat} {st : Nat → Nat} {sv : Nat} {svm : Nat} {top_ : Nat} {tot : Nat} {tp : Nat → Nat} {va : Nat} (hF : zq_F φ 1 7 2 1 2 0 1 0 0 fki fbi ftc ftf (x_s fnu 0 1) (x_s (x_s fco 0 0) 0 1) (x_s (x_s fso 0 1) 0 1) fcl ftn) (hB : zq_tp φ tp) (hT : zq_T φ tot at_ cur pl va fa fp sf sp no op K P V) (hKS : x_KS φ top_ fr_ pc_ mm mi st lo re rs fl se co) (hPS : x_PS φ A B 40 sv svm s9 (x_s comb 40 1) hm) (hN : zq_nm φ) (hc0 : tp 0 = 35) (hc1 : tp 1 = 49) (hc2 : tp 2 = 61) (hc3 : tp 3 = 97) (hc4 : tp 4 = 40) (hc5 : tp 5 = 41) (hc6 : tp 6 = 59) : x_f x_P (d + 3) 137 [(6, 471, 0), (0, 59, 0)] φ n sl (x_v φ n sl) := by
  refine x_f_of rfl ?_
  refine x_n_lt (fun hlt0 => ?_)
  refine q_load (v := (6, 471, 0)) (p2 := 1) rfl rfl rfl rfl ?_
  refine q_callv (xs := [(6, 471, 0)]) (p2 := 2) rfl rfl rfl rfl (x_rcv_s 471 hF.1) rfl (zc_fr_blanks_63 hF hB hT hKS hPS hN hc0 hc1 hc2 hc3 hc4 hc5 hc6) (Nat.le_refl _) (Nat.le_refl _) rfl ?_
  refine q_load (v := (6, 471, 0)) (p2 := 3) rfl rfl rfl rfl ?_
  refine q_callr (xs := [(6, 471, 0)]) (p2 := 4) rfl rfl rfl rfl (x_rcv_s 471 hF.1) rfl (zc_fr_peek_64 hF hB hT hKS hPS hN hc0 hc1 hc2 hc3 hc4 hc5 hc6) (Nat.le_refl _) (Nat.le_refl _) rfl ?_
  refine q_load (v := (0, 59, 0)) (p2 := 5) rfl rfl rfl rfl ?_
  refine q_icmp_s (p2 := 6) rfl (by decide) (by omega) (by omega) rfl (fun hb => absurd hb (show ¬ (61 = 59) by omega)) (fun _ => ?_)
  refine q_load (v := (6, 471, 0)) (p2 := 7) rfl rfl rfl rfl ?_
  refine q_const (p2 := 8) rfl rfl ?_
  refine q_load (v := (6, 471, 0)) (p2 := 9) rfl rfl rfl rfl ?_
  refine q_getv (v := (0, 2, 0)) (p2 := 10) rfl hF.1 (by decide) rfl rfl ?_
  refine q_callv (xs := [(0, 2, 0), (0, 1, 0), (6, 471, 0)]) (p2 := 11) rfl rfl rfl rfl (x_rcv_s 471 hF.1) rfl (zc_fr_fail_67 hF hB hT hKS hPS hN hc0 hc1 hc2 hc3 hc4 hc5 hc6) (Nat.le_refl _) (Nat.le_refl _) rfl ?_
  refine q_goto rfl ?_
  refine q_load (v := (6, 471, 0)) (p2 := 22) rfl rfl rfl rfl ?_
  refine q_callv (xs := [(6, 471, 0)]) (p2 := 23) rfl rfl rfl rfl (x_rcv_s 471 hF.1) rfl (zc_fr_blanks_63 hF hB hT hKS hPS hN hc0 hc1 hc2 hc3 hc4 hc5 hc6) (Nat.le_refl _) (Nat.le_refl _) rfl ?_
  exact q_ret rfl (⟨rfl, rfl, rfl, rfl⟩)
theorem zc_fr_goesOn_72 {d n sl : Nat} {φ : FH} {A : Nat} {B : Nat} {K : Nat → Nat} {P : Nat → Nat} {V : Nat → Nat} {at_ : Nat} {co : Nat → Nat} {comb : Nat → Nat} {cur : Nat} {fa : Nat} {fbi : Nat} {fcl : Nat → Nat} {fco : Nat → Nat} {fki : Nat} {fl : Nat → Nat} {fnu : Nat → Nat} {fp : Nat} {fr_ : Nat} {fso : Nat → Nat} {ftc : Nat} {ftf : Nat} {ftn : Nat → Nat} {hm : Nat → MV} {lo : Nat → Nat} {mi : Nat} {mm : Nat} {no : Nat} {op : Nat} {pc_ : Nat} {pl : Nat} {re : Nat → Nat} {rs : Nat → Nat} {s9 : Nat} {se : Nat → Nat} {sf : Nat} {sp : Nat} {st : Nat → Nat} {sv : Nat} {svm : Nat} {top_ : Nat} {tot : Nat} {tp : Nat → Nat} {va : Nat} (hF : zq_F φ 1 7 2 1 2 0 1 1 0 fki fbi ftc ftf (x_s fnu 0 1) (x_s (x_s fco 0 0) 0 1) (x_s (x_s fso 0 1) 0 1) fcl ftn) (hB : zq_tp φ tp) (hT : zq_T φ tot at_ cur pl va fa fp sf sp no op K P V) (hKS : x_KS φ top_ fr_ pc_ mm mi st lo re rs fl se co) (hPS : x_PS φ A B 40 sv svm s9 (x_s comb 40 1) hm) (hN : zq_nm φ) (hc0 : tp 0 = 35) (hc1 : tp 1 = 49) (hc2 : tp 2 = 61) (hc3 : tp 3 = 97) (hc4 : tp 4 = 40) (hc5 : tp 5 = 41) (hc6 : tp 6 = 59) : x_f x_P (d + 1) 83 [(6, 471, 0)] φ n sl (x_r φ n sl (0, 0, 0)) := by
  refine x_f_of rfl ?_
  refine x_n_lt (fun hlt0 => ?_)
  refine q_load (v := (6, 471, 0)) (p2 := 1) rfl rfl rfl rfl ?_
  refine q_getv (v := (0, 2, 0)) (p2 := 2) rfl hF.1 (by decide) rfl rfl ?_
  refine q_if0_s (p2 := 3) rfl (by decide) (by omega) rfl (fun _ => ?_) (fun hb => absurd (show ¬ (2 = 0) by omega) hb)
  refine q_const (p2 := 11) rfl rfl ?_
  exact q_retv (v := (0, 0, 0)) rfl rfl (⟨rfl, rfl, rfl, rfl, rfl⟩)
theorem zc_fr_finish_73 {d n sl : Nat} {φ : FH} {A : Nat} {B : Nat} {K : Nat → Nat} {P : Nat → Nat} {V : Nat → Nat} {at_ : Nat} {co : Nat → Nat} {comb : Nat → Nat} {cur : Nat} {fa : Nat} {fbi : Nat} {fcl : Nat → Nat} {fco : Nat → Nat} {fki : Nat} {fl : Nat → Nat} {fnu : Nat → Nat} {fp : Nat} {fr_ : Nat} {fso : Nat → Nat} {ftc : Nat} {ftf : Nat} {ftn : Nat → Nat} {hm : Nat → MV} {lo : Nat → Nat} {mi : Nat} {mm : Nat} {no : Nat} {op : Nat} {pc_ : Nat} {pl : Nat} {re : Nat → Nat} {rs : Nat → Nat} {s9 : Nat} {se : Nat → Nat} {sf : Nat} {sp : Nat} {st : Nat → Nat} {sv : Nat} {svm : Nat} {top_ : Nat} {tot : Nat} {tp : Nat → Nat} {va : Nat} (hF : zq_F φ 1 7 2 1 2 0 1 1 0 fki fbi ftc ftf (x_s fnu 0 1) (x_s (x_s fco 0 0) 0 1) (x_s (x_s fso 0 1) 0 1) fcl ftn) (hB : zq_tp φ tp) (hT : zq_T φ tot at_ cur pl va fa fp sf sp no op K P V) (hKS : x_KS φ top_ fr_ pc_ mm mi st lo re rs fl se co) (hPS : x_PS φ A B 40 sv svm s9 (x_s comb 40 1) hm) (hN : zq_nm φ) (hc0 : tp 0 = 35) (hc1 : tp 1 = 49) (hc2 : tp 2 = 61) (hc3 : tp 3 = 97) (hc4 : tp 4 = 40) (hc5 : tp 5 = 41) (hc6 : tp 6 = 59) : x_f x_P (d + 1) 85 [(6, 471, 0)] φ n sl (x_r φ n sl (0, 4294967286, 0)) := by
  refine x_f_of rfl ?_
  refine x_n_lt (fun hlt0 => ?_)
  refine q_load (v := (6, 471, 0)) (p2 := 1) rfl rfl rfl rfl ?_
  refine q_getv (v := (0, 2, 0)) (p2 := 2) rfl hF.1 (by decide) rfl rfl ?_
  refine q_if0_s (p2 := 3) rfl (by decide) (by omega) rfl (fun hb => absurd hb (show ¬ (2 = 0) by omega)) (fun _ => ?_)
  refine q_const (p2 := 4) rfl rfl ?_
  refine q_load (v := (6, 471, 0)) (p2 := 5) rfl rfl rfl rfl ?_
  refine q_getv (v := (0, 0, 0)) (p2 := 6) rfl hF.1 (by decide) rfl rfl ?_
  refine q_iop (w := 4294967286 + (4294967296 - 0 % 4294967296)) (z := 4294967286) (p2 := 7) rfl (xo_sub 4294967286 0) (by decide) rfl ?_
  exact q_retv (v := (0, 4294967286, 0)) rfl rfl (⟨rfl, rfl, rfl, rfl, rfl⟩)
set_option maxHeartbeats 1000000 in
theorem zc_read40 {d n sl : Nat} {φ : FH} {tp : Nat → Nat} {lf : Nat} {mi : Nat} {sv : Nat} {svm : Nat} {comb : Nat → Nat} {hm : Nat → MV} {sc : Nat → Nat} {sm : Nat → MV} {mh : MV} {noted : Nat} {verd : Nat} {ins : Nat → Nat} {ver : Nat → Nat} {sz : Nat} {bw : Nat → Nat}  (hG : zG φ 7 tp lf mi 40 sv svm comb hm sc sm mh noted verd ins ver sz bw) (hn0 : 486 ≤ n) (hpv : ∀ i, x_pv2 (hm i)) (hmi : mi + 100 ≤ 20000) (ht0 : tp 0 = 35) (ht1 : tp 1 = 49) (ht2 : tp 2 = 61) (ht3 : tp 3 = 97) (ht4 : tp 4 = 40) (ht5 : tp 5 = 41) (ht6 : tp 6 = 59) : x_f x_P (d + 25) 38 [(6, 0, 0), (11, 0, 0), (11, 0, 0)] φ n sl (x_bR n sl 0 0 (fun zw φ2 => zw = (0, 4294967286, 0) ∧ zG φ2 0 tp 2 mi 40 sv svm (x_s comb 40 1) hm sc sm mh noted verd ins ver sz bw)) := by
  refine x_f_of rfl ?_
  have hG0 := hG
  obtain ⟨⟨hand, ie, hH, hhw⟩, hB, hTJ, hEJ, hN, hKJ, ⟨A, B, s9, hPS, hLK0⟩, hSP, hV5, ⟨slq, hSL⟩, hRW, hJ, hFJ, hWJ, ⟨ovn, ovh, hOV, hovn, hovh⟩⟩ := hG
  refine x_n_lt (fun hlt0 => ?_)
  have hmade := x_PS_lt hPS
  obtain ⟨tot, at_, cur, pl, va, fa, fp, sf, sp, no, op, K, P, V, hT⟩ := hTJ
  obtain ⟨co, ⟨top_, fr_, pc_, mm, st, lo, re, rs, fl, se, hKS⟩, hco⟩ := hKJ
  obtain ⟨ftx, fle, fat, fse, ffa, ffp, fen, fey, fna, fki, fbi, ftc, ftf, fnu, fco, fso, fcl, ftn, hF, hFx⟩ := hFJ
  refine q_load (v := (6, 0, 0)) (p2 := 1) rfl rfl rfl rfl ?_
  refine q_getv (v := (6, 471, 0)) (p2 := 2) rfl hH (by decide) rfl rfl ?_
  refine q_load (v := (6, 0, 0)) (p2 := 3) rfl rfl rfl rfl ?_
  refine q_getv (v := (6, 1, 0)) (p2 := 4) rfl hH (by decide) rfl rfl ?_
  refine q_load (v := (6, 0, 0)) (p2 := 5) rfl rfl rfl rfl ?_
  refine q_getv (v := (0, 7, 0)) (p2 := 6) rfl hH (by decide) rfl rfl ?_
  refine q_callvE (xs := [(0, 7, 0), (6, 1, 0), (6, 471, 0)]) (p2 := 7) rfl rfl rfl rfl (x_rcv_s 471 hF.1) rfl (zc_fr_start_1 hF hB hT hKS hPS hN ht0 ht1 ht2 ht3 ht4 ht5 ht6) (Nat.le_refl _) (Nat.le_refl _) rfl (fun φ1 hR1 => ?_)
  obtain ⟨hs1_0, fr1⟩ := hR1
  refine q_const (p2 := 8) rfl rfl ?_
  refine q_store (loc2 := [(6, 0, 0), (0, 1, 0), (11, 0, 0)]) (p2 := 9) rfl rfl rfl rfl rfl ?_
  refine q_load (v := (0, 1, 0)) (p2 := 10) rfl rfl rfl rfl ?_
  refine q_const (p2 := 11) rfl rfl ?_
  refine q_icmp_s (p2 := 12) rfl (by decide) (by omega) (by omega) rfl (fun hb => absurd hb (show ¬ (2 < 1) by omega)) (fun _ => ?_)
  refine q_load (v := (6, 0, 0)) (p2 := 13) rfl rfl rfl rfl ?_
  have hm2 := (zq_H_at hH (fr1 0 (by decide)))
  refine q_getv (v := (6, 471, 0)) (p2 := 14) rfl hm2 (by decide) rfl rfl ?_
  refine q_getv (v := (0, 0, 0)) (p2 := 15) rfl hs1_0.1 (by decide) rfl rfl ?_
  refine q_if0_s (p2 := 16) rfl (by decide) (by omega) rfl (fun hb => absurd hb (show ¬ (¬ (0 = 0)) by omega)) (fun _ => ?_)
  refine q_load (v := (6, 0, 0)) (p2 := 17) rfl rfl rfl rfl ?_
  refine q_getv (v := (6, 471, 0)) (p2 := 18) rfl hm2 (by decide) rfl rfl ?_
  refine q_load (v := (0, 1, 0)) (p2 := 19) rfl rfl rfl rfl ?_
  refine q_const (p2 := 20) rfl rfl ?_
  refine q_icmp_s (p2 := 21) rfl (by decide) (by omega) (by omega) rfl (fun _ => ?_) (fun hb => absurd (show ¬ (1 = 2) by omega) hb)
  refine q_const (p2 := 24) rfl rfl ?_
  refine q_callKv (xs := [(0, 0, 0), (6, 471, 0)]) (p2 := 25) rfl rfl rfl rfl (x_rcv_s 471 hs1_0.1) rfl rfl ?_
  refine x_f_of rfl ?_
  refine q_load (v := (6, 471, 0)) (p2 := 1) rfl rfl rfl rfl ?_
  refine q_load (v := (0, 0, 0)) (p2 := 2) rfl rfl rfl rfl ?_
  refine q_putfE (v := (0, 0, 0)) (p2 := 3) rfl hs1_0.1 (by decide) rfl rfl (fun φ3 f3 hh3 hg3 ho3 fr3 => ?_)
  have hs3 := zq_F_put_471_5 hs1_0 hh3 hg3 ho3 fr3
  refine q_load (v := (6, 471, 0)) (p2 := 4) rfl rfl rfl rfl ?_
  refine q_const (p2 := 5) rfl rfl ?_
  refine q_putfE (v := (0, 0, 0)) (p2 := 6) rfl hs3.1 (by decide) rfl rfl (fun φ4 f4 hh4 hg4 ho4 fr4 => ?_)
  have hs4 := zq_F_put_471_4 hs3 hh4 hg4 ho4 fr4
  refine q_load (v := (6, 471, 0)) (p2 := 7) rfl rfl rfl rfl ?_
  refine q_const (p2 := 8) rfl rfl ?_
  refine q_putfE (v := (0, 0, 0)) (p2 := 9) rfl hs4.1 (by decide) rfl rfl (fun φ5 f5 hh5 hg5 ho5 fr5 => ?_)
  have hs5 := zq_F_put_471_12 hs4 hh5 hg5 ho5 fr5
  refine q_const (p2 := 10) rfl rfl ?_
  refine q_store (loc2 := [(6, 471, 0), (0, 0, 0), (0, 0, 0)]) (p2 := 11) rfl rfl rfl rfl rfl ?_
  refine q_load (v := (0, 0, 0)) (p2 := 12) rfl rfl rfl rfl ?_
  refine q_load (v := (6, 471, 0)) (p2 := 13) rfl rfl rfl rfl ?_
  refine q_getv (v := (0, 0, 0)) (p2 := 14) rfl hs5.1 (by decide) rfl rfl ?_
  refine q_icmp_s (p2 := 15) rfl (by decide) (by omega) (by omega) rfl (fun _ => ?_) (fun hb => absurd (show ¬ (0 < 0) by omega) hb)
  refine q_load (v := (6, 471, 0)) (p2 := 33) rfl rfl rfl rfl ?_
  have hm6 := (zq_tp_at hB ((fr5 1 (by decide)).trans ((fr4 1 (by decide)).trans ((fr3 1 (by decide)).trans (fr1 1 (by decide))))))
  have hm7 := (zq_T_at hT ((fr5 2 (by decide)).trans ((fr4 2 (by decide)).trans ((fr3 2 (by decide)).trans (fr1 2 (by decide))))) ((fr5 3 (by decide)).trans ((fr4 3 (by decide)).trans ((fr3 3 (by decide)).trans (fr1 3 (by decide))))) ((fr5 4 (by decide)).trans ((fr4 4 (by decide)).trans ((fr3 4 (by decide)).trans (fr1 4 (by decide))))) ((fr5 5 (by decide)).trans ((fr4 5 (by decide)).trans ((fr3 5 (by decide)).trans (fr1 5 (by decide))))) ((fr5 6 (by decide)).trans ((fr4 6 (by decide)).trans ((fr3 6 (by decide)).trans (fr1 6 (by decide))))))
  have hm8 := (x_KS_at2 hKS (fun j h1 h2 h3 h4 => ((fr5 j (by omega)).trans ((fr4 j (by omega)).trans ((fr3 j (by omega)).trans (fr1 j (by omega)))))))
  refine x_n_lt (fun hlt10 => ?_)
  have hm9 := (x_PS_at hPS (fun j hj hne => by have hj2 := x_some_lt hlt0 hne; exact ((fr5 j (by omega)).trans ((fr4 j (by omega)).trans ((fr3 j (by omega)).trans (fr1 j (by omega)))))))
  have hm11 := (zq_nm_at hN ((fr5 239 (by decide)).trans ((fr4 239 (by decide)).trans ((fr3 239 (by decide)).trans (fr1 239 (by decide))))) ((fr5 242 (by decide)).trans ((fr4 242 (by decide)).trans ((fr3 242 (by decide)).trans (fr1 242 (by decide))))) ((fr5 244 (by decide)).trans ((fr4 244 (by decide)).trans ((fr3 244 (by decide)).trans (fr1 244 (by decide))))))
  refine q_callv (xs := [(6, 471, 0)]) (p2 := 34) rfl rfl rfl rfl (x_rcv_s 471 hs5.1) rfl (zc_fr_blanks_2 hs5 hm6 hm7 hm8 hm9 hm11 ht0 ht1 ht2 ht3 ht4 ht5 ht6) (Nat.le_refl _) (Nat.le_refl _) rfl ?_
  refine q_ret rfl ⟨rfl, by omega, by omega, ?_⟩
  refine q_const (p2 := 26) rfl rfl ?_
  refine q_store (loc2 := [(6, 0, 0), (0, 1, 0), (0, 0, 0)]) (p2 := 27) rfl rfl rfl rfl rfl ?_
  refine q_load (v := (0, 0, 0)) (p2 := 28) rfl rfl rfl rfl ?_
  refine q_load (v := (6, 0, 0)) (p2 := 29) rfl rfl rfl rfl ?_
  have hm12 := (zq_H_at hm2 ((fr5 0 (by decide)).trans ((fr4 0 (by decide)).trans (fr3 0 (by decide)))))
  refine q_getv (v := (0, 7, 0)) (p2 := 30) rfl hm12 (by decide) rfl rfl ?_
  refine q_icmp_s (p2 := 31) rfl (by decide) (by omega) (by omega) rfl (fun hb => absurd hb (show ¬ (¬ (0 < 7)) by omega)) (fun _ => ?_)
  refine q_load (v := (6, 0, 0)) (p2 := 32) rfl rfl rfl rfl ?_
  refine q_getv (v := (6, 471, 0)) (p2 := 33) rfl hm12 (by decide) rfl rfl ?_
  refine q_callr (xs := [(6, 471, 0)]) (p2 := 34) rfl rfl rfl rfl (x_rcv_s 471 hs5.1) rfl (zc_fr_goesOn_4 hs5 hm6 hm7 hm8 hm9 hm11 ht0 ht1 ht2 ht3 ht4 ht5 ht6) (Nat.le_refl _) (Nat.le_refl _) rfl ?_
  refine q_if0_s (p2 := 35) rfl (by decide) (by omega) rfl (fun hb => absurd hb (show ¬ (1 = 0) by omega)) (fun _ => ?_)
  refine q_load (v := (6, 0, 0)) (p2 := 36) rfl rfl rfl rfl ?_
  refine q_getv (v := (6, 471, 0)) (p2 := 37) rfl hm12 (by decide) rfl rfl ?_
  refine q_callKv (xs := [(6, 471, 0)]) (p2 := 38) rfl rfl rfl rfl (x_rcv_s 471 hs5.1) rfl rfl ?_
  refine x_f_of rfl ?_
  refine q_load (v := (6, 471, 0)) (p2 := 1) rfl rfl rfl rfl ?_
  refine q_getv (v := (0, 0, 0)) (p2 := 2) rfl hs5.1 (by decide) rfl rfl ?_
  refine q_store (loc2 := [(6, 471, 0), (0, 0, 0), (11, 0, 0), (11, 0, 0)]) (p2 := 3) rfl rfl rfl rfl rfl ?_
  refine q_load (v := (6, 471, 0)) (p2 := 4) rfl rfl rfl rfl ?_
  refine q_callrE (xs := [(6, 471, 0)]) (p2 := 5) rfl rfl rfl rfl (x_rcv_s 471 hs5.1) rfl (zc_fr_reference_5 hs5 hm6 hm7 hm8 hm9 hm11 ht0 ht1 ht2 ht3 ht4 ht5 ht6) (Nat.le_refl _) (Nat.le_refl _) rfl (fun φ13 hR13 => ?_)
  obtain ⟨hs13_0, fr13⟩ := hR13
  refine q_store (loc2 := [(6, 471, 0), (0, 0, 0), (0, 1, 0), (11, 0, 0)]) (p2 := 6) rfl rfl rfl rfl rfl ?_
  refine q_load (v := (6, 471, 0)) (p2 := 7) rfl rfl rfl rfl ?_
  refine q_getv (v := (0, 0, 0)) (p2 := 8) rfl hs13_0.1 (by decide) rfl rfl ?_
  refine q_if0_s (p2 := 9) rfl (by decide) (by omega) rfl (fun _ => ?_) (fun hb => absurd (show 0 = 0 by omega) hb)
  refine q_load (v := (6, 471, 0)) (p2 := 15) rfl rfl rfl rfl ?_
  refine q_load (v := (0, 1, 0)) (p2 := 16) rfl rfl rfl rfl ?_
  have hm14 := (zq_tp_at hm6 (fr13 1 (by decide)))
  have hm15 := (zq_T_at hm7 (fr13 2 (by decide)) (fr13 3 (by decide)) (fr13 4 (by decide)) (fr13 5 (by decide)) (fr13 6 (by decide)))
  have hm16 := (x_KS_at2 hm8 (fun j h1 h2 h3 h4 => (fr13 j (by omega))))
  refine x_n_lt (fun hlt18 => ?_)
  have hm17 := (x_PS_at hm9 (fun j hj hne => by have hj2 := x_some_lt hlt10 hne; exact (fr13 j (by omega))))
  have hm19 := (zq_nm_at hm11 (fr13 239 (by decide)) (fr13 242 (by decide)) (fr13 244 (by decide)))
  refine q_callvE (xs := [(0, 1, 0), (6, 471, 0)]) (p2 := 17) rfl rfl rfl rfl (x_rcv_s 471 hs13_0.1) rfl (zc_fr_addEntry_9 hs13_0 hm14 hm15 hm16 hm17 hm19 ht0 ht1 ht2 ht3 ht4 ht5 ht6) (Nat.le_refl _) (Nat.le_refl _) rfl (fun φ20 hR20 => ?_)
  obtain ⟨hs20_0, fr20⟩ := hR20
  refine q_load (v := (6, 471, 0)) (p2 := 18) rfl rfl rfl rfl ?_
  refine q_const (p2 := 19) rfl rfl ?_
  refine q_putfE (v := (0, 0, 0)) (p2 := 20) rfl hs20_0.1 (by decide) rfl rfl (fun φ21 f21 hh21 hg21 ho21 fr21 => ?_)
  have hs21 := zq_F_put_471_13 hs20_0 hh21 hg21 ho21 fr21
  refine q_load (v := (6, 471, 0)) (p2 := 21) rfl rfl rfl rfl ?_
  refine q_const (p2 := 22) rfl rfl ?_
  have hm22 := (zq_tp_at hm14 ((fr21 1 (by decide)).trans (fr20 1 (by decide) (by decide) (by decide) (by decide))))
  have hm23 := (zq_T_at hm15 ((fr21 2 (by decide)).trans (fr20 2 (by decide) (by decide) (by decide) (by decide))) ((fr21 3 (by decide)).trans (fr20 3 (by decide) (by decide) (by decide) (by decide))) ((fr21 4 (by decide)).trans (fr20 4 (by decide) (by decide) (by decide) (by decide))) ((fr21 5 (by decide)).trans (fr20 5 (by decide) (by decide) (by decide) (by decide))) ((fr21 6 (by decide)).trans (fr20 6 (by decide) (by decide) (by decide) (by decide))))
  have hm24 := (x_KS_at2 hm16 (fun j h1 h2 h3 h4 => ((fr21 j (by omega)).trans (fr20 j (by omega) (by omega) (by omega) (by omega)))))
  refine x_n_lt (fun hlt26 => ?_)
  have hm25 := (x_PS_at hm17 (fun j hj hne => by have hj2 := x_some_lt hlt18 hne; exact ((fr21 j (by omega)).trans (fr20 j (by omega) (by omega) (by omega) (by omega)))))
  have hm27 := (zq_nm_at hm19 ((fr21 239 (by decide)).trans (fr20 239 (by decide) (by decide) (by decide) (by decide))) ((fr21 242 (by decide)).trans (fr20 242 (by decide) (by decide) (by decide) (by decide))) ((fr21 244 (by decide)).trans (fr20 244 (by decide) (by decide) (by decide) (by decide))))
  refine q_callvE (xs := [(0, 61, 0), (6, 471, 0)]) (p2 := 23) rfl rfl rfl rfl (x_rcv_s 471 hs21.1) rfl (zc_fr_sign_10 hs21 hm22 hm23 hm24 hm25 hm27 ht0 ht1 ht2 ht3 ht4 ht5 ht6) (Nat.le_refl _) (Nat.le_refl _) rfl (fun φ28 hR28 => ?_)
  obtain ⟨hs28_0, fr28⟩ := hR28
  refine q_load (v := (6, 471, 0)) (p2 := 24) rfl rfl rfl rfl ?_
  have hm29 := (zq_tp_at hm22 (fr28 1 (by decide)))
  have hm30 := (zq_T_at hm23 (fr28 2 (by decide)) (fr28 3 (by decide)) (fr28 4 (by decide)) (fr28 5 (by decide)) (fr28 6 (by decide)))
  have hm31 := (x_KS_at2 hm24 (fun j h1 h2 h3 h4 => (fr28 j (by omega))))
  refine x_n_lt (fun hlt33 => ?_)
  have hm32 := (x_PS_at hm25 (fun j hj hne => by have hj2 := x_some_lt hlt26 hne; exact (fr28 j (by omega))))
  have hm34 := (zq_nm_at hm27 (fr28 239 (by decide)) (fr28 242 (by decide)) (fr28 244 (by decide)))
  refine q_callr (xs := [(6, 471, 0)]) (p2 := 25) rfl rfl rfl rfl (x_rcv_s 471 hs28_0.1) rfl (zc_fr_peek_14 hs28_0 hm29 hm30 hm31 hm32 hm34 ht0 ht1 ht2 ht3 ht4 ht5 ht6) (Nat.le_refl _) (Nat.le_refl _) rfl ?_
  refine q_const (p2 := 26) rfl rfl ?_
  refine q_icmp_s (p2 := 27) rfl (by decide) (by omega) (by omega) rfl (fun _ => ?_) (fun hb => absurd (show ¬ (97 = 40) by omega) hb)
  refine q_load (v := (6, 471, 0)) (p2 := 56) rfl rfl rfl rfl ?_
  refine q_const (p2 := 57) rfl rfl ?_
  refine q_callvE (xs := [(0, 1, 0), (6, 471, 0)]) (p2 := 58) rfl rfl rfl rfl (x_rcv_s 471 hs28_0.1) rfl (zc_fr_form_15 hs28_0 hm29 hm30 hm31 hm32 hm34 ht0 ht1 ht2 ht3 ht4 ht5 ht6) (Nat.le_refl _) (Nat.le_refl _) rfl (fun φ35 hR35 => ?_)
  obtain ⟨hs35_0, fr35⟩ := hR35
  refine q_load (v := (6, 471, 0)) (p2 := 59) rfl rfl rfl rfl ?_
  refine q_const (p2 := 60) rfl rfl ?_
  have hm36 := (zq_tp_at hm29 (fr35 1 (by decide) (by decide) (by decide)))
  have hm37 := (zq_T_at hm30 (fr35 2 (by decide) (by decide) (by decide)) (fr35 3 (by decide) (by decide) (by decide)) (fr35 4 (by decide) (by decide) (by decide)) (fr35 5 (by decide) (by decide) (by decide)) (fr35 6 (by decide) (by decide) (by decide)))
  have hm38 := (x_KS_at2 hm31 (fun j h1 h2 h3 h4 => (fr35 j (by omega) (by omega) (by omega))))
  refine x_n_lt (fun hlt40 => ?_)
  have hm39 := (x_PS_at hm32 (fun j hj hne => by have hj2 := x_some_lt hlt33 hne; exact (fr35 j (by omega) (by omega) (by omega))))
  have hm41 := (zq_nm_at hm34 (fr35 239 (by decide) (by decide) (by decide)) (fr35 242 (by decide) (by decide) (by decide)) (fr35 244 (by decide) (by decide) (by decide)))
  refine q_callvE (xs := [(0, 59, 0), (6, 471, 0)]) (p2 := 61) rfl rfl rfl rfl (x_rcv_s 471 hs35_0.1) rfl (zc_fr_sign_27 hs35_0 hm36 hm37 hm38 hm39 hm41 ht0 ht1 ht2 ht3 ht4 ht5 ht6) (Nat.le_refl _) (Nat.le_refl _) rfl (fun φ42 hR42 => ?_)
  obtain ⟨hs42_0, fr42⟩ := hR42
  refine q_load (v := (6, 471, 0)) (p2 := 62) rfl rfl rfl rfl ?_
  refine q_dup (p2 := 63) rfl rfl rfl ?_
  refine q_getv (v := (0, 0, 0)) (p2 := 64) rfl hs42_0.1 (by decide) rfl rfl ?_
  refine q_const (p2 := 65) rfl rfl ?_
  refine q_iop (w := 0 + 1) (z := 1) (p2 := 66) rfl (xo_add 0 1) (by decide) rfl ?_
  refine q_putfE (v := (0, 1, 0)) (p2 := 67) rfl hs42_0.1 (by decide) rfl rfl (fun φ43 f43 hh43 hg43 ho43 fr43 => ?_)
  have hs43 := zq_F_put_471_12 hs42_0 hh43 hg43 ho43 fr43
  refine q_ret rfl ⟨rfl, by omega, by omega, ?_⟩
  refine q_iinc (z := 1) (loc2 := [(6, 0, 0), (0, 1, 0), (0, 1, 0)]) (p2 := 39) rfl rfl (by decide) rfl rfl ?_
  refine q_goto rfl ?_
  refine q_load (v := (0, 1, 0)) (p2 := 28) rfl rfl rfl rfl ?_
  refine q_load (v := (6, 0, 0)) (p2 := 29) rfl rfl rfl rfl ?_
  have hm44 := (zq_H_at hm12 ((fr43 0 (by decide)).trans ((fr42 0 (by decide)).trans ((fr35 0 (by decide) (by decide) (by decide)).trans ((fr28 0 (by decide)).trans ((fr21 0 (by decide)).trans ((fr20 0 (by decide) (by decide) (by decide) (by decide)).trans (fr13 0 (by decide)))))))))
  refine q_getv (v := (0, 7, 0)) (p2 := 30) rfl hm44 (by decide) rfl rfl ?_
  refine q_icmp_s (p2 := 31) rfl (by decide) (by omega) (by omega) rfl (fun hb => absurd hb (show ¬ (¬ (1 < 7)) by omega)) (fun _ => ?_)
  refine q_load (v := (6, 0, 0)) (p2 := 32) rfl rfl rfl rfl ?_
  refine q_getv (v := (6, 471, 0)) (p2 := 33) rfl hm44 (by decide) rfl rfl ?_
  have hm45 := (zq_tp_at hm36 ((fr43 1 (by decide)).trans (fr42 1 (by decide))))
  have hm46 := (zq_T_at hm37 ((fr43 2 (by decide)).trans (fr42 2 (by decide))) ((fr43 3 (by decide)).trans (fr42 3 (by decide))) ((fr43 4 (by decide)).trans (fr42 4 (by decide))) ((fr43 5 (by decide)).trans (fr42 5 (by decide))) ((fr43 6 (by decide)).trans (fr42 6 (by decide))))
  have hm47 := (x_KS_at2 hm38 (fun j h1 h2 h3 h4 => ((fr43 j (by omega)).trans (fr42 j (by omega)))))
  refine x_n_lt (fun hlt49 => ?_)
  have hm48 := (x_PS_at hm39 (fun j hj hne => by have hj2 := x_some_lt hlt40 hne; exact ((fr43 j (by omega)).trans (fr42 j (by omega)))))
  have hm50 := (zq_nm_at hm41 ((fr43 239 (by decide)).trans (fr42 239 (by decide))) ((fr43 242 (by decide)).trans (fr42 242 (by decide))) ((fr43 244 (by decide)).trans (fr42 244 (by decide))))
  refine q_callr (xs := [(6, 471, 0)]) (p2 := 34) rfl rfl rfl rfl (x_rcv_s 471 hs43.1) rfl (zc_fr_goesOn_30 hs43 hm45 hm46 hm47 hm48 hm50 ht0 ht1 ht2 ht3 ht4 ht5 ht6) (Nat.le_refl _) (Nat.le_refl _) rfl ?_
  refine q_if0_s (p2 := 35) rfl (by decide) (by omega) rfl (fun _ => ?_) (fun hb => absurd (show 0 = 0 by omega) hb)
  refine q_iinc (z := 2) (loc2 := [(6, 0, 0), (0, 2, 0), (0, 1, 0)]) (p2 := 41) rfl rfl (by decide) rfl rfl ?_
  refine q_goto rfl ?_
  refine q_load (v := (0, 2, 0)) (p2 := 10) rfl rfl rfl rfl ?_
  refine q_const (p2 := 11) rfl rfl ?_
  refine q_icmp_s (p2 := 12) rfl (by decide) (by omega) (by omega) rfl (fun hb => absurd hb (show ¬ (2 < 2) by omega)) (fun _ => ?_)
  refine q_load (v := (6, 0, 0)) (p2 := 13) rfl rfl rfl rfl ?_
  refine q_getv (v := (6, 471, 0)) (p2 := 14) rfl hm44 (by decide) rfl rfl ?_
  refine q_getv (v := (0, 0, 0)) (p2 := 15) rfl hs43.1 (by decide) rfl rfl ?_
  refine q_if0_s (p2 := 16) rfl (by decide) (by omega) rfl (fun hb => absurd hb (show ¬ (¬ (0 = 0)) by omega)) (fun _ => ?_)
  refine q_load (v := (6, 0, 0)) (p2 := 17) rfl rfl rfl rfl ?_
  refine q_getv (v := (6, 471, 0)) (p2 := 18) rfl hm44 (by decide) rfl rfl ?_
  refine q_load (v := (0, 2, 0)) (p2 := 19) rfl rfl rfl rfl ?_
  refine q_const (p2 := 20) rfl rfl ?_
  refine q_icmp_s (p2 := 21) rfl (by decide) (by omega) (by omega) rfl (fun hb => absurd hb (show ¬ (¬ (2 = 2)) by omega)) (fun _ => ?_)
  refine q_const (p2 := 22) rfl rfl ?_
  refine q_goto rfl ?_
  refine q_callKv (xs := [(0, 1, 0), (6, 471, 0)]) (p2 := 25) rfl rfl rfl rfl (x_rcv_s 471 hs43.1) rfl rfl ?_
  refine x_f_of rfl ?_
  refine q_load (v := (6, 471, 0)) (p2 := 1) rfl rfl rfl rfl ?_
  refine q_load (v := (0, 1, 0)) (p2 := 2) rfl rfl rfl rfl ?_
  refine q_putfE (v := (0, 1, 0)) (p2 := 3) rfl hs43.1 (by decide) rfl rfl (fun φ51 f51 hh51 hg51 ho51 fr51 => ?_)
  have hs51 := zq_F_put_471_5 hs43 hh51 hg51 ho51 fr51
  refine q_load (v := (6, 471, 0)) (p2 := 4) rfl rfl rfl rfl ?_
  refine q_const (p2 := 5) rfl rfl ?_
  refine q_putfE (v := (0, 0, 0)) (p2 := 6) rfl hs51.1 (by decide) rfl rfl (fun φ52 f52 hh52 hg52 ho52 fr52 => ?_)
  have hs52 := zq_F_put_471_4 hs51 hh52 hg52 ho52 fr52
  refine q_load (v := (6, 471, 0)) (p2 := 7) rfl rfl rfl rfl ?_
  refine q_const (p2 := 8) rfl rfl ?_
  refine q_putfE (v := (0, 0, 0)) (p2 := 9) rfl hs52.1 (by decide) rfl rfl (fun φ53 f53 hh53 hg53 ho53 fr53 => ?_)
  have hs53 := zq_F_put_471_12 hs52 hh53 hg53 ho53 fr53
  refine q_const (p2 := 10) rfl rfl ?_
  refine q_store (loc2 := [(6, 471, 0), (0, 1, 0), (0, 0, 0)]) (p2 := 11) rfl rfl rfl rfl rfl ?_
  refine q_load (v := (0, 0, 0)) (p2 := 12) rfl rfl rfl rfl ?_
  refine q_load (v := (6, 471, 0)) (p2 := 13) rfl rfl rfl rfl ?_
  refine q_getv (v := (0, 1, 0)) (p2 := 14) rfl hs53.1 (by decide) rfl rfl ?_
  refine q_icmp_s (p2 := 15) rfl (by decide) (by omega) (by omega) rfl (fun hb => absurd hb (show ¬ (¬ (0 < 1)) by omega)) (fun _ => ?_)
  refine q_load (v := (6, 471, 0)) (p2 := 16) rfl rfl rfl rfl ?_
  refine q_getv (v := (0, 1, 0)) (p2 := 17) rfl hs53.1 (by decide) rfl rfl ?_
  refine q_if0_s (p2 := 18) rfl (by decide) (by omega) rfl (fun hb => absurd hb (show ¬ (1 = 0) by omega)) (fun _ => ?_)
  refine q_load (v := (6, 471, 0)) (p2 := 19) rfl rfl rfl rfl ?_
  refine q_getv (v := (6, 7, 0)) (p2 := 20) rfl hs53.1 (by decide) rfl rfl ?_
  refine q_load (v := (6, 471, 0)) (p2 := 21) rfl rfl rfl rfl ?_
  refine q_getv (v := (6, 7, 0)) (p2 := 22) rfl hs53.1 (by decide) rfl rfl ?_
  refine x_n_lt (fun hlt55 => ?_)
  have hm54 := (x_PS_at hm48 (fun j hj hne => by have hj2 := x_some_lt hlt49 hne; exact ((fr53 j (by omega)).trans ((fr52 j (by omega)).trans (fr51 j (by omega))))))
  refine q_getv (v := (0, 40, 0)) (p2 := 23) rfl hm54.1.choose_spec.1 (by decide) hm54.1.choose_spec.2.2.2.1 rfl ?_
  refine q_load (v := (0, 0, 0)) (p2 := 24) rfl rfl rfl rfl ?_
  refine q_iop (w := 40 + 0) (z := 40) (p2 := 25) rfl (xo_add 40 0) (by decide) rfl ?_
  refine q_load (v := (6, 471, 0)) (p2 := 26) rfl rfl rfl rfl ?_
  refine q_getv (v := (6, 474, 0)) (p2 := 27) rfl hs53.1 (by decide) rfl rfl ?_
  refine q_load (v := (0, 0, 0)) (p2 := 28) rfl rfl rfl rfl ?_
  refine q_aldT (tag := 0) (v := 1) (p2 := 29) rfl hs53.2.2.1 (by omega) (by omega) (x_s_eq) rfl ?_
  have hm56 := (x_LK_at2 hLK0 (fun j h1 h2 => ((fr53 j (by omega)).trans ((fr52 j (by omega)).trans ((fr51 j (by omega)).trans ((fr43 j (by omega)).trans ((fr42 j (by omega)).trans ((fr35 j (by omega) (by omega) (by omega)).trans ((fr28 j (by omega)).trans ((fr21 j (by omega)).trans ((fr20 j (by omega) (by omega) (by omega) (by omega)).trans ((fr13 j (by omega)).trans ((fr5 j (by omega)).trans ((fr4 j (by omega)).trans ((fr3 j (by omega)).trans (fr1 j (by omega)))))))))))))))))
  refine q_callvE (xs := [(0, 1, 0), (0, 40, 0), (6, 7, 0)]) (p2 := 30) rfl rfl rfl rfl (x_rcv_s 7 hm54.1.choose_spec.1) rfl (e_announceP hm54 (by omega) (by omega)) (Nat.le_refl _) (Nat.le_refl _) rfl (fun φ57 hR57 => ?_)
  obtain ⟨hPS57, frn57⟩ := hR57
  refine x_n_lt (fun hlt58 => ?_)
  have hLZ57 := x_LK_cm (x := 40) (c_ := 1) hm56 (by omega) (fun j h1 h2 => (frn57 j (by omega)))
  refine q_iinc (z := 1) (loc2 := [(6, 471, 0), (0, 1, 0), (0, 1, 0)]) (p2 := 31) rfl rfl (by decide) rfl rfl ?_
  refine q_goto rfl ?_
  refine q_load (v := (0, 1, 0)) (p2 := 12) rfl rfl rfl rfl ?_
  refine q_load (v := (6, 471, 0)) (p2 := 13) rfl rfl rfl rfl ?_
  have hm59 := (zq_F_at hs53 (frn57 471 (by omega)) (frn57 473 (by omega)) (frn57 474 (by omega)) (frn57 475 (by omega)) (frn57 476 (by omega)) (frn57 477 (by omega)))
  refine q_getv (v := (0, 1, 0)) (p2 := 14) rfl hm59.1 (by decide) rfl rfl ?_
  refine q_icmp_s (p2 := 15) rfl (by decide) (by omega) (by omega) rfl (fun _ => ?_) (fun hb => absurd (show ¬ (1 < 1) by omega) hb)
  refine q_load (v := (6, 471, 0)) (p2 := 33) rfl rfl rfl rfl ?_
  have hm60 := (zq_tp_at hm45 ((frn57 1 (by omega)).trans ((fr53 1 (by decide)).trans ((fr52 1 (by decide)).trans (fr51 1 (by decide))))))
  have hm61 := (zq_T_at hm46 ((frn57 2 (by omega)).trans ((fr53 2 (by decide)).trans ((fr52 2 (by decide)).trans (fr51 2 (by decide))))) ((frn57 3 (by omega)).trans ((fr53 3 (by decide)).trans ((fr52 3 (by decide)).trans (fr51 3 (by decide))))) ((frn57 4 (by omega)).trans ((fr53 4 (by decide)).trans ((fr52 4 (by decide)).trans (fr51 4 (by decide))))) ((frn57 5 (by omega)).trans ((fr53 5 (by decide)).trans ((fr52 5 (by decide)).trans (fr51 5 (by decide))))) ((frn57 6 (by omega)).trans ((fr53 6 (by decide)).trans ((fr52 6 (by decide)).trans (fr51 6 (by decide))))))
  have hm62 := (x_KS_at2 hm47 (fun j h1 h2 h3 h4 => ((frn57 j (by omega)).trans ((fr53 j (by omega)).trans ((fr52 j (by omega)).trans (fr51 j (by omega)))))))
  have hm63 := (zq_nm_at hm50 ((frn57 239 (by omega)).trans ((fr53 239 (by decide)).trans ((fr52 239 (by decide)).trans (fr51 239 (by decide))))) ((frn57 242 (by omega)).trans ((fr53 242 (by decide)).trans ((fr52 242 (by decide)).trans (fr51 242 (by decide))))) ((frn57 244 (by omega)).trans ((fr53 244 (by decide)).trans ((fr52 244 (by decide)).trans (fr51 244 (by decide))))))
  refine q_callv (xs := [(6, 471, 0)]) (p2 := 34) rfl rfl rfl rfl (x_rcv_s 471 hm59.1) rfl (zc_fr_blanks_53 hm59 hm60 hm61 hm62 hPS57 hm63 ht0 ht1 ht2 ht3 ht4 ht5 ht6) (Nat.le_refl _) (Nat.le_refl _) rfl ?_
  refine q_ret rfl ⟨rfl, by omega, by omega, ?_⟩
  refine q_const (p2 := 26) rfl rfl ?_
  refine q_store (loc2 := [(6, 0, 0), (0, 2, 0), (0, 0, 0)]) (p2 := 27) rfl rfl rfl rfl rfl ?_
  refine q_load (v := (0, 0, 0)) (p2 := 28) rfl rfl rfl rfl ?_
  refine q_load (v := (6, 0, 0)) (p2 := 29) rfl rfl rfl rfl ?_
  have hm64 := (zq_H_at hm44 ((frn57 0 (by omega)).trans ((fr53 0 (by decide)).trans ((fr52 0 (by decide)).trans (fr51 0 (by decide))))))
  refine q_getv (v := (0, 7, 0)) (p2 := 30) rfl hm64 (by decide) rfl rfl ?_
  refine q_icmp_s (p2 := 31) rfl (by decide) (by omega) (by omega) rfl (fun hb => absurd hb (show ¬ (¬ (0 < 7)) by omega)) (fun _ => ?_)
  refine q_load (v := (6, 0, 0)) (p2 := 32) rfl rfl rfl rfl ?_
  refine q_getv (v := (6, 471, 0)) (p2 := 33) rfl hm64 (by decide) rfl rfl ?_
  refine q_callr (xs := [(6, 471, 0)]) (p2 := 34) rfl rfl rfl rfl (x_rcv_s 471 hm59.1) rfl (zc_fr_goesOn_55 hm59 hm60 hm61 hm62 hPS57 hm63 ht0 ht1 ht2 ht3 ht4 ht5 ht6) (Nat.le_refl _) (Nat.le_refl _) rfl ?_
  refine q_if0_s (p2 := 35) rfl (by decide) (by omega) rfl (fun hb => absurd hb (show ¬ (1 = 0) by omega)) (fun _ => ?_)
  refine q_load (v := (6, 0, 0)) (p2 := 36) rfl rfl rfl rfl ?_
  refine q_getv (v := (6, 471, 0)) (p2 := 37) rfl hm64 (by decide) rfl rfl ?_
  refine q_callKv (xs := [(6, 471, 0)]) (p2 := 38) rfl rfl rfl rfl (x_rcv_s 471 hm59.1) rfl rfl ?_
  refine x_f_of rfl ?_
  refine q_load (v := (6, 471, 0)) (p2 := 1) rfl rfl rfl rfl ?_
  refine q_getv (v := (0, 0, 0)) (p2 := 2) rfl hm59.1 (by decide) rfl rfl ?_
  refine q_store (loc2 := [(6, 471, 0), (0, 0, 0), (11, 0, 0), (11, 0, 0)]) (p2 := 3) rfl rfl rfl rfl rfl ?_
  refine q_load (v := (6, 471, 0)) (p2 := 4) rfl rfl rfl rfl ?_
  refine q_callrE (xs := [(6, 471, 0)]) (p2 := 5) rfl rfl rfl rfl (x_rcv_s 471 hm59.1) rfl (zc_fr_reference_56 hm59 hm60 hm61 hm62 hPS57 hm63 ht0 ht1 ht2 ht3 ht4 ht5 ht6) (Nat.le_refl _) (Nat.le_refl _) rfl (fun φ65 hR65 => ?_)
  obtain ⟨hs65_0, fr65⟩ := hR65
  refine q_store (loc2 := [(6, 471, 0), (0, 0, 0), (0, 1, 0), (11, 0, 0)]) (p2 := 6) rfl rfl rfl rfl rfl ?_
  refine q_load (v := (6, 471, 0)) (p2 := 7) rfl rfl rfl rfl ?_
  refine q_getv (v := (0, 1, 0)) (p2 := 8) rfl hs65_0.1 (by decide) rfl rfl ?_
  refine q_if0_s (p2 := 9) rfl (by decide) (by omega) rfl (fun hb => absurd hb (show ¬ (1 = 0) by omega)) (fun _ => ?_)
  refine q_load (v := (6, 471, 0)) (p2 := 10) rfl rfl rfl rfl ?_
  refine q_load (v := (0, 0, 0)) (p2 := 11) rfl rfl rfl rfl ?_
  refine q_load (v := (0, 1, 0)) (p2 := 12) rfl rfl rfl rfl ?_
  refine q_callKv (xs := [(0, 1, 0), (0, 0, 0), (6, 471, 0)]) (p2 := 13) rfl rfl rfl rfl (x_rcv_s 471 hs65_0.1) rfl rfl ?_
  refine x_f_of rfl ?_
  refine q_load (v := (6, 471, 0)) (p2 := 1) rfl rfl rfl rfl ?_
  refine q_getv (v := (0, 0, 0)) (p2 := 2) rfl hs65_0.1 (by decide) rfl rfl ?_
  refine q_load (v := (6, 471, 0)) (p2 := 3) rfl rfl rfl rfl ?_
  refine q_getv (v := (0, 1, 0)) (p2 := 4) rfl hs65_0.1 (by decide) rfl rfl ?_
  refine q_icmp_s (p2 := 5) rfl (by decide) (by omega) (by omega) rfl (fun hb => absurd hb (show ¬ (¬ (0 < 1)) by omega)) (fun _ => ?_)
  refine q_load (v := (6, 471, 0)) (p2 := 6) rfl rfl rfl rfl ?_
  refine q_getv (v := (0, 0, 0)) (p2 := 7) rfl hs65_0.1 (by decide) rfl rfl ?_
  refine q_const (p2 := 8) rfl rfl ?_
  refine q_icmp_s (p2 := 9) rfl (by decide) (by omega) (by omega) rfl (fun _ => ?_) (fun hb => absurd (show 0 < 440 by omega) hb)
  refine q_load (v := (6, 471, 0)) (p2 := 11) rfl rfl rfl rfl ?_
  refine q_getv (v := (6, 475, 0)) (p2 := 12) rfl hs65_0.1 (by decide) rfl rfl ?_
  refine q_load (v := (6, 471, 0)) (p2 := 13) rfl rfl rfl rfl ?_
  refine q_getv (v := (0, 0, 0)) (p2 := 14) rfl hs65_0.1 (by decide) rfl rfl ?_
  refine q_aldT (tag := 0) (v := 1) (p2 := 15) rfl hs65_0.2.2.2.1 (by omega) (by omega) (x_s_eq) rfl ?_
  refine q_if0_s (p2 := 16) rfl (by decide) (by omega) rfl (fun hb => absurd hb (show ¬ (1 = 0) by omega)) (fun _ => ?_)
  refine q_load (v := (6, 471, 0)) (p2 := 17) rfl rfl rfl rfl ?_
  refine q_getv (v := (6, 7, 0)) (p2 := 18) rfl hs65_0.1 (by decide) rfl rfl ?_
  refine x_n_lt (fun hlt67 => ?_)
  have hm66 := (x_PS_at hPS57 (fun j hj hne => by have hj2 := x_some_lt hlt58 hne; exact (fr65 j (by omega))))
  refine q_getv (v := (6, 237, 0)) (p2 := 19) rfl hm66.1.choose_spec.1 (by decide) hm66.1.choose_spec.2.1 rfl ?_
  refine q_load (v := (6, 471, 0)) (p2 := 20) rfl rfl rfl rfl ?_
  refine q_getv (v := (6, 474, 0)) (p2 := 21) rfl hs65_0.1 (by decide) rfl rfl ?_
  refine q_load (v := (6, 471, 0)) (p2 := 22) rfl rfl rfl rfl ?_
  refine q_getv (v := (0, 0, 0)) (p2 := 23) rfl hs65_0.1 (by decide) rfl rfl ?_
  refine q_aldT (tag := 0) (v := 1) (p2 := 24) rfl hs65_0.2.2.1 (by omega) (by omega) (x_s_eq) rfl ?_
  have hm68 := (x_KS_at2 hm62 (fun j h1 h2 h3 h4 => (fr65 j (by omega))))
  have hm69 := (zq_OV_at hOV ((fr65 452 (by decide)).trans ((frn57 452 (by omega)).trans ((fr53 452 (by decide)).trans ((fr52 452 (by decide)).trans ((fr51 452 (by decide)).trans ((fr43 452 (by decide)).trans ((fr42 452 (by decide)).trans ((fr35 452 (by decide) (by decide) (by decide)).trans ((fr28 452 (by decide)).trans ((fr21 452 (by decide)).trans ((fr20 452 (by decide) (by decide) (by decide) (by decide)).trans ((fr13 452 (by decide)).trans ((fr5 452 (by decide)).trans ((fr4 452 (by decide)).trans ((fr3 452 (by decide)).trans (fr1 452 (by decide))))))))))))))))) ((fr65 453 (by decide)).trans ((frn57 453 (by omega)).trans ((fr53 453 (by decide)).trans ((fr52 453 (by decide)).trans ((fr51 453 (by decide)).trans ((fr43 453 (by decide)).trans ((fr42 453 (by decide)).trans ((fr35 453 (by decide) (by decide) (by decide)).trans ((fr28 453 (by decide)).trans ((fr21 453 (by decide)).trans ((fr20 453 (by decide) (by decide) (by decide) (by decide)).trans ((fr13 453 (by decide)).trans ((fr5 453 (by decide)).trans ((fr4 453 (by decide)).trans ((fr3 453 (by decide)).trans (fr1 453 (by decide))))))))))))))))))
  refine q_callr (xs := [(0, 1, 0), (6, 237, 0)]) (p2 := 25) rfl rfl rfl rfl (x_rcv_s 237 hm68.2.2.2.2.2.2.2.2.2.1.choose_spec.1) rfl (zc_s_reason_1 hm68.2.2.2.2.2.2.2.2.2 hm68.2.2.2.2.2.2.2.1 hm69 (hco 0 (by decide)) (hco 1 (by decide)) (hco 2 (by decide)) (hco 3 (by decide)) (hco 4 (by decide)) (hco 5 (by decide)) (hco 6 (by decide)) (hco 7 (by decide))) (Nat.le_refl _) (Nat.le_refl _) rfl ?_
  refine q_if0_s (p2 := 26) rfl (by decide) (by omega) rfl (fun _ => ?_) (fun hb => absurd (show ¬ (4 = 0) by omega) hb)
  refine q_const (p2 := 29) rfl rfl ?_
  refine q_store (loc2 := [(6, 471, 0), (0, 0, 0), (0, 1, 0), (0, 0, 0)]) (p2 := 30) rfl rfl rfl rfl rfl ?_
  refine q_load (v := (6, 471, 0)) (p2 := 31) rfl rfl rfl rfl ?_
  refine q_load (v := (0, 1, 0)) (p2 := 32) rfl rfl rfl rfl ?_
  have hm70 := (zq_tp_at hm60 (fr65 1 (by decide)))
  have hm71 := (zq_T_at hm61 (fr65 2 (by decide)) (fr65 3 (by decide)) (fr65 4 (by decide)) (fr65 5 (by decide)) (fr65 6 (by decide)))
  have hm72 := (zq_nm_at hm63 (fr65 239 (by decide)) (fr65 242 (by decide)) (fr65 244 (by decide)))
  refine q_callr (xs := [(0, 1, 0), (6, 471, 0)]) (p2 := 33) rfl rfl rfl rfl (x_rcv_s 471 hs65_0.1) rfl (zc_fr_entryOf_60 hs65_0 hm70 hm71 hm68 hm66 hm72 ht0 ht1 ht2 ht3 ht4 ht5 ht6) (Nat.le_refl _) (Nat.le_refl _) rfl ?_
  refine q_load (v := (6, 471, 0)) (p2 := 34) rfl rfl rfl rfl ?_
  refine q_getv (v := (0, 0, 0)) (p2 := 35) rfl hs65_0.1 (by decide) rfl rfl ?_
  refine q_icmp_s (p2 := 36) rfl (by decide) (by omega) (by omega) rfl (fun hb => absurd hb (show ¬ (0 < 0) by omega)) (fun _ => ?_)
  refine q_load (v := (0, 0, 0)) (p2 := 37) rfl rfl rfl rfl ?_
  refine q_if0_s (p2 := 38) rfl (by decide) (by omega) rfl (fun _ => ?_) (fun hb => absurd (show 0 = 0 by omega) hb)
  refine q_load (v := (6, 471, 0)) (p2 := 47) rfl rfl rfl rfl ?_
  refine q_const (p2 := 48) rfl rfl ?_
  refine q_load (v := (0, 0, 0)) (p2 := 49) rfl rfl rfl rfl ?_
  refine q_callvE (xs := [(0, 0, 0), (0, 2, 0), (6, 471, 0)]) (p2 := 50) rfl rfl rfl rfl (x_rcv_s 471 hs65_0.1) rfl (zc_fr_fail_61 hs65_0 hm70 hm71 hm68 hm66 hm72 ht0 ht1 ht2 ht3 ht4 ht5 ht6) (Nat.le_refl _) (Nat.le_refl _) rfl (fun φ73 hR73 => ?_)
  obtain ⟨hs73_0, fr73⟩ := hR73
  refine q_load (v := (6, 471, 0)) (p2 := 51) rfl rfl rfl rfl ?_
  refine q_getv (v := (6, 7, 0)) (p2 := 52) rfl hs73_0.1 (by decide) rfl rfl ?_
  refine q_load (v := (6, 471, 0)) (p2 := 53) rfl rfl rfl rfl ?_
  refine q_getv (v := (6, 7, 0)) (p2 := 54) rfl hs73_0.1 (by decide) rfl rfl ?_
  refine x_n_lt (fun hlt75 => ?_)
  have hm74 := (x_PS_at hm66 (fun j hj hne => by have hj2 := x_some_lt hlt67 hne; exact (fr73 j (by omega))))
  refine q_getv (v := (0, 40, 0)) (p2 := 55) rfl hm74.1.choose_spec.1 (by decide) hm74.1.choose_spec.2.2.2.1 rfl ?_
  refine q_load (v := (6, 471, 0)) (p2 := 56) rfl rfl rfl rfl ?_
  refine q_getv (v := (0, 0, 0)) (p2 := 57) rfl hs73_0.1 (by decide) rfl rfl ?_
  refine q_iop (w := 40 + 0) (z := 40) (p2 := 58) rfl (xo_add 40 0) (by decide) rfl ?_
  refine q_callv (xs := [(0, 40, 0), (6, 7, 0)]) (p2 := 59) rfl rfl rfl rfl (x_rcv_s 7 hm74.1.choose_spec.1) rfl (e_empty40 hm74.1.choose_spec) (Nat.le_refl _) (Nat.le_refl _) rfl ?_
  refine q_ret rfl ⟨rfl, by omega, by omega, ?_⟩
  refine q_goto rfl ?_
  refine q_load (v := (6, 471, 0)) (p2 := 18) rfl rfl rfl rfl ?_
  refine q_const (p2 := 19) rfl rfl ?_
  refine q_putfE (v := (0, 0, 0)) (p2 := 20) rfl hs73_0.1 (by decide) rfl rfl (fun φ76 f76 hh76 hg76 ho76 fr76 => ?_)
  have hs76 := zq_F_put_471_13 hs73_0 hh76 hg76 ho76 fr76
  refine q_load (v := (6, 471, 0)) (p2 := 21) rfl rfl rfl rfl ?_
  refine q_const (p2 := 22) rfl rfl ?_
  have hm77 := (zq_tp_at hm70 ((fr76 1 (by decide)).trans (fr73 1 (by decide))))
  have hm78 := (zq_T_at hm71 ((fr76 2 (by decide)).trans (fr73 2 (by decide))) ((fr76 3 (by decide)).trans (fr73 3 (by decide))) ((fr76 4 (by decide)).trans (fr73 4 (by decide))) ((fr76 5 (by decide)).trans (fr73 5 (by decide))) ((fr76 6 (by decide)).trans (fr73 6 (by decide))))
  have hm79 := (x_KS_at2 hm68 (fun j h1 h2 h3 h4 => ((fr76 j (by omega)).trans (fr73 j (by omega)))))
  refine x_n_lt (fun hlt81 => ?_)
  have hm80 := (x_PS_at hm74 (fun j hj hne => by have hj2 := x_some_lt hlt75 hne; exact (fr76 j (by omega))))
  have hm82 := (zq_nm_at hm72 ((fr76 239 (by decide)).trans (fr73 239 (by decide))) ((fr76 242 (by decide)).trans (fr73 242 (by decide))) ((fr76 244 (by decide)).trans (fr73 244 (by decide))))
  refine q_callv (xs := [(0, 61, 0), (6, 471, 0)]) (p2 := 23) rfl rfl rfl rfl (x_rcv_s 471 hs76.1) rfl (zc_fr_sign_62 hs76 hm77 hm78 hm79 hm80 hm82 ht0 ht1 ht2 ht3 ht4 ht5 ht6) (Nat.le_refl _) (Nat.le_refl _) rfl ?_
  refine q_load (v := (6, 471, 0)) (p2 := 24) rfl rfl rfl rfl ?_
  refine q_callr (xs := [(6, 471, 0)]) (p2 := 25) rfl rfl rfl rfl (x_rcv_s 471 hs76.1) rfl (zc_fr_peek_64 hs76 hm77 hm78 hm79 hm80 hm82 ht0 ht1 ht2 ht3 ht4 ht5 ht6) (Nat.le_refl _) (Nat.le_refl _) rfl ?_
  refine q_const (p2 := 26) rfl rfl ?_
  refine q_icmp_s (p2 := 27) rfl (by decide) (by omega) (by omega) rfl (fun _ => ?_) (fun hb => absurd (show ¬ (61 = 40) by omega) hb)
  refine q_load (v := (6, 471, 0)) (p2 := 56) rfl rfl rfl rfl ?_
  refine q_const (p2 := 57) rfl rfl ?_
  refine q_callvE (xs := [(0, 1, 0), (6, 471, 0)]) (p2 := 58) rfl rfl rfl rfl (x_rcv_s 471 hs76.1) rfl (zc_fr_form_65 hs76 hm77 hm78 hm79 hm80 hm82 ht0 ht1 ht2 ht3 ht4 ht5 ht6) (Nat.le_refl _) (Nat.le_refl _) rfl (fun φ83 hR83 => ?_)
  obtain ⟨hs83_0, fr83⟩ := hR83
  refine q_load (v := (6, 471, 0)) (p2 := 59) rfl rfl rfl rfl ?_
  refine q_const (p2 := 60) rfl rfl ?_
  have hm84 := (zq_tp_at hm77 (fr83 1 (by decide)))
  have hm85 := (zq_T_at hm78 (fr83 2 (by decide)) (fr83 3 (by decide)) (fr83 4 (by decide)) (fr83 5 (by decide)) (fr83 6 (by decide)))
  have hm86 := (x_KS_at2 hm79 (fun j h1 h2 h3 h4 => (fr83 j (by omega))))
  refine x_n_lt (fun hlt88 => ?_)
  have hm87 := (x_PS_at hm80 (fun j hj hne => by have hj2 := x_some_lt hlt81 hne; exact (fr83 j (by omega))))
  have hm89 := (zq_nm_at hm82 (fr83 239 (by decide)) (fr83 242 (by decide)) (fr83 244 (by decide)))
  refine q_callv (xs := [(0, 59, 0), (6, 471, 0)]) (p2 := 61) rfl rfl rfl rfl (x_rcv_s 471 hs83_0.1) rfl (zc_fr_sign_71 hs83_0 hm84 hm85 hm86 hm87 hm89 ht0 ht1 ht2 ht3 ht4 ht5 ht6) (Nat.le_refl _) (Nat.le_refl _) rfl ?_
  refine q_load (v := (6, 471, 0)) (p2 := 62) rfl rfl rfl rfl ?_
  refine q_dup (p2 := 63) rfl rfl rfl ?_
  refine q_getv (v := (0, 0, 0)) (p2 := 64) rfl hs83_0.1 (by decide) rfl rfl ?_
  refine q_const (p2 := 65) rfl rfl ?_
  refine q_iop (w := 0 + 1) (z := 1) (p2 := 66) rfl (xo_add 0 1) (by decide) rfl ?_
  refine q_putfE (v := (0, 1, 0)) (p2 := 67) rfl hs83_0.1 (by decide) rfl rfl (fun φ90 f90 hh90 hg90 ho90 fr90 => ?_)
  have hs90 := zq_F_put_471_12 hs83_0 hh90 hg90 ho90 fr90
  refine q_ret rfl ⟨rfl, by omega, by omega, ?_⟩
  refine q_iinc (z := 1) (loc2 := [(6, 0, 0), (0, 2, 0), (0, 1, 0)]) (p2 := 39) rfl rfl (by decide) rfl rfl ?_
  refine q_goto rfl ?_
  refine q_load (v := (0, 1, 0)) (p2 := 28) rfl rfl rfl rfl ?_
  refine q_load (v := (6, 0, 0)) (p2 := 29) rfl rfl rfl rfl ?_
  have hm91 := (zq_H_at hm64 ((fr90 0 (by decide)).trans ((fr83 0 (by decide)).trans ((fr76 0 (by decide)).trans ((fr73 0 (by decide)).trans (fr65 0 (by decide)))))))
  refine q_getv (v := (0, 7, 0)) (p2 := 30) rfl hm91 (by decide) rfl rfl ?_
  refine q_icmp_s (p2 := 31) rfl (by decide) (by omega) (by omega) rfl (fun hb => absurd hb (show ¬ (¬ (1 < 7)) by omega)) (fun _ => ?_)
  refine q_load (v := (6, 0, 0)) (p2 := 32) rfl rfl rfl rfl ?_
  refine q_getv (v := (6, 471, 0)) (p2 := 33) rfl hm91 (by decide) rfl rfl ?_
  have hm92 := (zq_tp_at hm84 (fr90 1 (by decide)))
  have hm93 := (zq_T_at hm85 (fr90 2 (by decide)) (fr90 3 (by decide)) (fr90 4 (by decide)) (fr90 5 (by decide)) (fr90 6 (by decide)))
  have hm94 := (x_KS_at2 hm86 (fun j h1 h2 h3 h4 => (fr90 j (by omega))))
  refine x_n_lt (fun hlt96 => ?_)
  have hm95 := (x_PS_at hm87 (fun j hj hne => by have hj2 := x_some_lt hlt88 hne; exact (fr90 j (by omega))))
  have hm97 := (zq_nm_at hm89 (fr90 239 (by decide)) (fr90 242 (by decide)) (fr90 244 (by decide)))
  refine q_callr (xs := [(6, 471, 0)]) (p2 := 34) rfl rfl rfl rfl (x_rcv_s 471 hs90.1) rfl (zc_fr_goesOn_72 hs90 hm92 hm93 hm94 hm95 hm97 ht0 ht1 ht2 ht3 ht4 ht5 ht6) (Nat.le_refl _) (Nat.le_refl _) rfl ?_
  refine q_if0_s (p2 := 35) rfl (by decide) (by omega) rfl (fun _ => ?_) (fun hb => absurd (show 0 = 0 by omega) hb)
  refine q_iinc (z := 3) (loc2 := [(6, 0, 0), (0, 3, 0), (0, 1, 0)]) (p2 := 41) rfl rfl (by decide) rfl rfl ?_
  refine q_goto rfl ?_
  refine q_load (v := (0, 3, 0)) (p2 := 10) rfl rfl rfl rfl ?_
  refine q_const (p2 := 11) rfl rfl ?_
  refine q_icmp_s (p2 := 12) rfl (by decide) (by omega) (by omega) rfl (fun _ => ?_) (fun hb => absurd (show 2 < 3 by omega) hb)
  refine q_load (v := (6, 0, 0)) (p2 := 43) rfl rfl rfl rfl ?_
  refine q_const (p2 := 44) rfl rfl ?_
  refine q_putfE (v := (0, 0, 0)) (p2 := 45) rfl hm91 (by decide) rfl rfl (fun φ98 f98 hh98 hg98 ho98 fr98 => ?_)
  have hs98 := zq_H_put_0_1 hm91 hh98 hg98 ho98 fr98
  refine q_load (v := (6, 0, 0)) (p2 := 46) rfl rfl rfl rfl ?_
  refine q_load (v := (6, 0, 0)) (p2 := 47) rfl rfl rfl rfl ?_
  refine q_getv (v := (6, 471, 0)) (p2 := 48) rfl hs98 (by decide) rfl rfl ?_
  have hm99 := (zq_F_at hs90 (fr98 471 (by decide)) (fr98 473 (by decide)) (fr98 474 (by decide)) (fr98 475 (by decide)) (fr98 476 (by decide)) (fr98 477 (by decide)))
  refine q_getv (v := (0, 2, 0)) (p2 := 49) rfl hm99.1 (by decide) rfl rfl ?_
  refine q_putfE (v := (0, 2, 0)) (p2 := 50) rfl hs98 (by decide) rfl rfl (fun φ100 f100 hh100 hg100 ho100 fr100 => ?_)
  have hs100 := zq_H_put_0_13 hs98 hh100 hg100 ho100 fr100
  refine q_load (v := (6, 0, 0)) (p2 := 51) rfl rfl rfl rfl ?_
  refine q_getv (v := (6, 471, 0)) (p2 := 52) rfl hs100 (by decide) rfl rfl ?_
  have hm101 := (zq_F_at hm99 (fr100 471 (by decide)) (fr100 473 (by decide)) (fr100 474 (by decide)) (fr100 475 (by decide)) (fr100 476 (by decide)) (fr100 477 (by decide)))
  have hm102 := (zq_tp_at hm92 ((fr100 1 (by decide)).trans (fr98 1 (by decide))))
  have hm103 := (zq_T_at hm93 ((fr100 2 (by decide)).trans (fr98 2 (by decide))) ((fr100 3 (by decide)).trans (fr98 3 (by decide))) ((fr100 4 (by decide)).trans (fr98 4 (by decide))) ((fr100 5 (by decide)).trans (fr98 5 (by decide))) ((fr100 6 (by decide)).trans (fr98 6 (by decide))))
  have hm104 := (x_KS_at2 hm94 (fun j h1 h2 h3 h4 => ((fr100 j (by omega)).trans (fr98 j (by omega)))))
  refine x_n_lt (fun hlt106 => ?_)
  have hm105 := (x_PS_at hm95 (fun j hj hne => by have hj2 := x_some_lt hlt96 hne; exact ((fr100 j (by omega)).trans (fr98 j (by omega)))))
  have hm107 := (zq_nm_at hm97 ((fr100 239 (by decide)).trans (fr98 239 (by decide))) ((fr100 242 (by decide)).trans (fr98 242 (by decide))) ((fr100 244 (by decide)).trans (fr98 244 (by decide))))
  refine q_callr (xs := [(6, 471, 0)]) (p2 := 53) rfl rfl rfl rfl (x_rcv_s 471 hm101.1) rfl (zc_fr_finish_73 hm101 hm102 hm103 hm104 hm105 hm107 ht0 ht1 ht2 ht3 ht4 ht5 ht6) (Nat.le_refl _) (Nat.le_refl _) rfl ?_
  have hm108 := (zEJ_at hEJ (fun j h1 h2 => ((fr100 j (by omega)).trans ((fr98 j (by omega)).trans ((fr90 j (by omega)).trans ((fr83 j (by omega)).trans ((fr76 j (by omega)).trans ((fr73 j (by omega)).trans ((fr65 j (by omega)).trans ((frn57 j (by omega)).trans ((fr53 j (by omega)).trans ((fr52 j (by omega)).trans ((fr51 j (by omega)).trans ((fr43 j (by omega)).trans ((fr42 j (by omega)).trans ((fr35 j (by omega) (by omega) (by omega)).trans ((fr28 j (by omega)).trans ((fr21 j (by omega)).trans ((fr20 j (by omega) (by omega) (by omega) (by omega)).trans ((fr13 j (by omega)).trans ((fr5 j (by omega)).trans ((fr4 j (by omega)).trans ((fr3 j (by omega)).trans (fr1 j (by omega)))))))))))))))))))))))))
  have hm109 := (x_LK_at2 hLZ57 (fun j h1 h2 => ((fr100 j (by omega)).trans ((fr98 j (by omega)).trans ((fr90 j (by omega)).trans ((fr83 j (by omega)).trans ((fr76 j (by omega)).trans ((fr73 j (by omega)).trans (fr65 j (by omega))))))))))
  have hm110 := (x_SP_at hSP (fun j hj hne => by have hj2 := x_some_lt hlt0 hne; exact ((fr100 j (by omega)).trans ((fr98 j (by omega)).trans ((fr90 j (by omega)).trans ((fr83 j (by omega)).trans ((fr76 j (by omega)).trans ((fr73 j (by omega)).trans ((fr65 j (by omega)).trans ((frn57 j (by omega)).trans ((fr53 j (by omega)).trans ((fr52 j (by omega)).trans ((fr51 j (by omega)).trans ((fr43 j (by omega)).trans ((fr42 j (by omega)).trans ((fr35 j (by omega) (by omega) (by omega)).trans ((fr28 j (by omega)).trans ((fr21 j (by omega)).trans ((fr20 j (by omega) (by omega) (by omega) (by omega)).trans ((fr13 j (by omega)).trans ((fr5 j (by omega)).trans ((fr4 j (by omega)).trans ((fr3 j (by omega)).trans (fr1 j (by omega)))))))))))))))))))))))))
  have hm111 := (zq_V5_at hV5 ((fr100 485 (by decide)).trans ((fr98 485 (by decide)).trans ((fr90 485 (by decide)).trans ((fr83 485 (by decide)).trans ((fr76 485 (by decide)).trans ((fr73 485 (by decide)).trans ((fr65 485 (by decide)).trans ((frn57 485 (by omega)).trans ((fr53 485 (by decide)).trans ((fr52 485 (by decide)).trans ((fr51 485 (by decide)).trans ((fr43 485 (by decide)).trans ((fr42 485 (by decide)).trans ((fr35 485 (by decide) (by decide) (by decide)).trans ((fr28 485 (by decide)).trans ((fr21 485 (by decide)).trans ((fr20 485 (by decide) (by decide) (by decide) (by decide)).trans ((fr13 485 (by decide)).trans ((fr5 485 (by decide)).trans ((fr4 485 (by decide)).trans ((fr3 485 (by decide)).trans (fr1 485 (by decide))))))))))))))))))))))))
  have hm112 := (zq_SL_at hSL ((fr100 482 (by decide)).trans ((fr98 482 (by decide)).trans ((fr90 482 (by decide)).trans ((fr83 482 (by decide)).trans ((fr76 482 (by decide)).trans ((fr73 482 (by decide)).trans ((fr65 482 (by decide)).trans ((frn57 482 (by omega)).trans ((fr53 482 (by decide)).trans ((fr52 482 (by decide)).trans ((fr51 482 (by decide)).trans ((fr43 482 (by decide)).trans ((fr42 482 (by decide)).trans ((fr35 482 (by decide) (by decide) (by decide)).trans ((fr28 482 (by decide)).trans ((fr21 482 (by decide)).trans ((fr20 482 (by decide) (by decide) (by decide) (by decide)).trans ((fr13 482 (by decide)).trans ((fr5 482 (by decide)).trans ((fr4 482 (by decide)).trans ((fr3 482 (by decide)).trans (fr1 482 (by decide))))))))))))))))))))))))
  have hm113 := (zq_RW_at hRW ((fr100 483 (by decide)).trans ((fr98 483 (by decide)).trans ((fr90 483 (by decide)).trans ((fr83 483 (by decide)).trans ((fr76 483 (by decide)).trans ((fr73 483 (by decide)).trans ((fr65 483 (by decide)).trans ((frn57 483 (by omega)).trans ((fr53 483 (by decide)).trans ((fr52 483 (by decide)).trans ((fr51 483 (by decide)).trans ((fr43 483 (by decide)).trans ((fr42 483 (by decide)).trans ((fr35 483 (by decide) (by decide) (by decide)).trans ((fr28 483 (by decide)).trans ((fr21 483 (by decide)).trans ((fr20 483 (by decide) (by decide) (by decide) (by decide)).trans ((fr13 483 (by decide)).trans ((fr5 483 (by decide)).trans ((fr4 483 (by decide)).trans ((fr3 483 (by decide)).trans (fr1 483 (by decide))))))))))))))))))))))))
  have hm114 := (zq_J_at hJ ((fr100 468 (by decide)).trans ((fr98 468 (by decide)).trans ((fr90 468 (by decide)).trans ((fr83 468 (by decide)).trans ((fr76 468 (by decide)).trans ((fr73 468 (by decide)).trans ((fr65 468 (by decide)).trans ((frn57 468 (by omega)).trans ((fr53 468 (by decide)).trans ((fr52 468 (by decide)).trans ((fr51 468 (by decide)).trans ((fr43 468 (by decide)).trans ((fr42 468 (by decide)).trans ((fr35 468 (by decide) (by decide) (by decide)).trans ((fr28 468 (by decide)).trans ((fr21 468 (by decide)).trans ((fr20 468 (by decide) (by decide) (by decide) (by decide)).trans ((fr13 468 (by decide)).trans ((fr5 468 (by decide)).trans ((fr4 468 (by decide)).trans ((fr3 468 (by decide)).trans (fr1 468 (by decide))))))))))))))))))))))) ((fr100 469 (by decide)).trans ((fr98 469 (by decide)).trans ((fr90 469 (by decide)).trans ((fr83 469 (by decide)).trans ((fr76 469 (by decide)).trans ((fr73 469 (by decide)).trans ((fr65 469 (by decide)).trans ((frn57 469 (by omega)).trans ((fr53 469 (by decide)).trans ((fr52 469 (by decide)).trans ((fr51 469 (by decide)).trans ((fr43 469 (by decide)).trans ((fr42 469 (by decide)).trans ((fr35 469 (by decide) (by decide) (by decide)).trans ((fr28 469 (by decide)).trans ((fr21 469 (by decide)).trans ((fr20 469 (by decide) (by decide) (by decide) (by decide)).trans ((fr13 469 (by decide)).trans ((fr5 469 (by decide)).trans ((fr4 469 (by decide)).trans ((fr3 469 (by decide)).trans (fr1 469 (by decide))))))))))))))))))))))) ((fr100 470 (by decide)).trans ((fr98 470 (by decide)).trans ((fr90 470 (by decide)).trans ((fr83 470 (by decide)).trans ((fr76 470 (by decide)).trans ((fr73 470 (by decide)).trans ((fr65 470 (by decide)).trans ((frn57 470 (by omega)).trans ((fr53 470 (by decide)).trans ((fr52 470 (by decide)).trans ((fr51 470 (by decide)).trans ((fr43 470 (by decide)).trans ((fr42 470 (by decide)).trans ((fr35 470 (by decide) (by decide) (by decide)).trans ((fr28 470 (by decide)).trans ((fr21 470 (by decide)).trans ((fr20 470 (by decide) (by decide) (by decide) (by decide)).trans ((fr13 470 (by decide)).trans ((fr5 470 (by decide)).trans ((fr4 470 (by decide)).trans ((fr3 470 (by decide)).trans (fr1 470 (by decide))))))))))))))))))))))))
  have hm115 := (zWJ_at hWJ (fun j h1 h2 => ((fr100 j (by omega)).trans ((fr98 j (by omega)).trans ((fr90 j (by omega)).trans ((fr83 j (by omega)).trans ((fr76 j (by omega)).trans ((fr73 j (by omega)).trans ((fr65 j (by omega)).trans ((frn57 j (by omega)).trans ((fr53 j (by omega)).trans ((fr52 j (by omega)).trans ((fr51 j (by omega)).trans ((fr43 j (by omega)).trans ((fr42 j (by omega)).trans ((fr35 j (by omega) (by omega) (by omega)).trans ((fr28 j (by omega)).trans ((fr21 j (by omega)).trans ((fr20 j (by omega) (by omega) (by omega) (by omega)).trans ((fr13 j (by omega)).trans ((fr5 j (by omega)).trans ((fr4 j (by omega)).trans ((fr3 j (by omega)).trans (fr1 j (by omega)))))))))))))))))))))))))
  have hm116 := (zq_OV_at hm69 ((fr100 452 (by decide)).trans ((fr98 452 (by decide)).trans ((fr90 452 (by decide)).trans ((fr83 452 (by decide)).trans ((fr76 452 (by decide)).trans (fr73 452 (by decide))))))) ((fr100 453 (by decide)).trans ((fr98 453 (by decide)).trans ((fr90 453 (by decide)).trans ((fr83 453 (by decide)).trans ((fr76 453 (by decide)).trans (fr73 453 (by decide))))))))
  exact q_retv (v := (0, 4294967286, 0)) rfl rfl (⟨rfl, ⟨by omega, by omega⟩, ⟨by omega, by omega⟩, rfl, ⟨⟨_, _, hs100, (x_hw_at hhw (fun j hj hne => by have hj2 := x_some_lt hlt0 hne; exact ((fr100 j (by omega)).trans ((fr98 j (by omega)).trans ((fr90 j (by omega)).trans ((fr83 j (by omega)).trans ((fr76 j (by omega)).trans ((fr73 j (by omega)).trans ((fr65 j (by omega)).trans ((frn57 j (by omega)).trans ((fr53 j (by omega)).trans ((fr52 j (by omega)).trans ((fr51 j (by omega)).trans ((fr43 j (by omega)).trans ((fr42 j (by omega)).trans ((fr35 j (by omega) (by omega) (by omega)).trans ((fr28 j (by omega)).trans ((fr21 j (by omega)).trans ((fr20 j (by omega) (by omega) (by omega) (by omega)).trans ((fr13 j (by omega)).trans ((fr5 j (by omega)).trans ((fr4 j (by omega)).trans ((fr3 j (by omega)).trans (fr1 j (by omega)))))))))))))))))))))))))⟩, hm102, ⟨_, _, _, _, _, _, _, _, _, _, _, _, _, _, hm103⟩, hm108, hm107, ⟨_, ⟨_, _, _, _, _, _, _, _, _, _, hm104⟩, hco⟩, ⟨_, _, _, hm105, hm109⟩, hm110, hm111, ⟨_, hm112⟩, hm113, hm114, ⟨_, _, _, _, _, _, _, _, _, _, _, _, _, _, _, _, _, _, hm101, (Or.inl rfl)⟩, hm115, ⟨_, _, hm116, hovn, hovh⟩⟩⟩)
end FPOP73
