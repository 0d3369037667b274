section FPOP42
def zq_nm (φ : FH) : Prop := φ 239 = some (8, 1, 6, fun i => (6, 240 + i, 0)) ∧ φ 242 = some (6, 0, 40, fun i => (2, x_l [1, 2, 3] i, 0)) ∧ φ 244 = some (6, 0, 40, fun i => (2, x_l [6] i, 0))
theorem zq_nm_at {φ φ1 : FH} (h : zq_nm φ) (e0 : φ1 239 = φ 239) (e1 : φ1 242 = φ 242) (e2 : φ1 244 = φ 244) : zq_nm φ1 := ⟨e0.trans h.1, e1.trans h.2.1, e2.trans h.2.2⟩
theorem zq_E_same_232_1 {φ φ1 : FH} {bi : Nat} {top : Nat} {hid : Nat} {lc : Nat} {slo : Nat} {own : Nat} {sk : Nat} {f1 : Nat → XV} (h : zq_E φ bi top hid lc slo own sk) (hh : φ1 232 = some (0, 4, 12, f1)) (hg : f1 1 = (6, 237, 0)) (ho : ∀ i, i ≠ 1 → f1 i = x_lf [(6, 2, 0), (6, 237, 0), (0, bi, 0), (0, top, 0), (6, 233, 0), (6, 234, 0), (0, hid, 0), (6, 235, 0), (0, lc, 0), (0, slo, 0), (0, own, 0), (0, sk, 0)] i) (fr : ∀ j, j ≠ 232 → φ1 j = φ j) : zq_E φ1 bi top hid lc slo own sk := hh.trans (x_obf rfl hg ho)
theorem zc_s_find4_6 {d n sl : Nat} {φ : FH}  (hS : x_sch φ) (hN : zq_nm φ)  : x_f x_P (d + 1) 217 [(6, 237, 0), (0, 4, 0), (2, 6, 0), (11, 0, 0), (11, 0, 0), (11, 0, 0)] φ n sl (x_r φ n sl (0, 0, 0)) := by
  refine x_f_of rfl ?_
  refine q_load (v := (6, 237, 0)) (p2 := 1) rfl rfl rfl rfl ?_
  refine q_getv (v := (6, 239, 0)) (p2 := 2) rfl hS.1.choose_spec.1 (by decide) hS.1.choose_spec.2.2.1 rfl ?_
  refine q_load (v := (0, 4, 0)) (p2 := 3) rfl rfl rfl rfl ?_
  refine q_aldv (v := (6, 244, 0)) (p2 := 4) rfl hN.1 (by omega) (by omega) rfl rfl ?_
  refine q_store (loc2 := [(6, 237, 0), (0, 4, 0), (2, 6, 0), (11, 0, 0), (6, 244, 0), (11, 0, 0)]) (p2 := 5) rfl rfl rfl rfl rfl ?_
  refine q_const (p2 := 6) rfl rfl ?_
  refine q_store (loc2 := [(6, 237, 0), (0, 4, 0), (2, 6, 0), (11, 0, 0), (6, 244, 0), (0, 0, 0)]) (p2 := 7) rfl rfl rfl rfl rfl ?_
  refine q_load (v := (0, 0, 0)) (p2 := 8) rfl rfl rfl rfl ?_
  refine q_load (v := (6, 237, 0)) (p2 := 9) rfl rfl rfl rfl ?_
  refine q_getv (v := (6, 246, 0)) (p2 := 10) rfl hS.1.choose_spec.1 (by decide) hS.1.choose_spec.2.2.2.1 rfl ?_
  refine q_load (v := (0, 4, 0)) (p2 := 11) rfl rfl rfl rfl ?_
  refine q_aldv (v := (0, 1, 0)) (p2 := 12) rfl (x_sc_246 hS) (by omega) (by omega) rfl rfl ?_
  refine q_icmp_s (p2 := 13) rfl (by decide) (by omega) (by omega) rfl (fun hb => absurd hb (show ¬ (¬ (0 < 1)) by omega)) (fun _ => ?_)
  refine q_load (v := (0, 0, 0)) (p2 := 14) rfl rfl rfl rfl ?_
  refine q_load (v := (6, 244, 0)) (p2 := 15) rfl rfl rfl rfl ?_
  refine q_alen (p2 := 16) rfl hN.2.2 rfl (by omega) rfl ?_
  refine q_icmp_s (p2 := 17) rfl (by decide) (by omega) (by omega) rfl (fun hb => absurd hb (show ¬ (¬ (0 < 40)) by omega)) (fun _ => ?_)
  refine q_load (v := (6, 244, 0)) (p2 := 18) rfl rfl rfl rfl ?_
  refine q_load (v := (0, 0, 0)) (p2 := 19) rfl rfl rfl rfl ?_
  refine q_aldv (v := (2, 6, 0)) (p2 := 20) rfl hN.2.2 (by omega) (by omega) rfl rfl ?_
  refine q_load (v := (2, 6, 0)) (p2 := 21) rfl rfl rfl rfl ?_
  refine q_lcif (p2 := 23) rfl rfl (by decide) (by omega) (by omega) rfl (fun hb => absurd hb (show ¬ (¬ (6 = 6)) by omega)) (fun _ => ?_)
  refine q_load (v := (0, 0, 0)) (p2 := 24) rfl rfl rfl rfl ?_
  exact q_retv (v := (0, 0, 0)) rfl rfl (⟨rfl, rfl, rfl, rfl, rfl⟩)
theorem zc_s_fb_6 {d n sl : Nat} {φ : FH}  (hS : x_sch φ) (hN : zq_nm φ)  : x_f x_P (d + 1) 280 [(6, 237, 0), (2, 6, 0), (11, 0, 0), (11, 0, 0)] φ n sl (x_r φ n sl (0, 4294967293, 0)) := by
  refine x_f_of rfl ?_
  refine q_const (p2 := 1) rfl rfl ?_
  refine q_store (loc2 := [(6, 237, 0), (2, 6, 0), (11, 0, 0), (0, 0, 0)]) (p2 := 2) rfl rfl rfl rfl rfl ?_
  refine q_load (v := (0, 0, 0)) (p2 := 3) rfl rfl rfl rfl ?_
  refine q_load (v := (6, 237, 0)) (p2 := 4) rfl rfl rfl rfl ?_
  refine q_getv (v := (6, 238, 0)) (p2 := 5) rfl hS.1.choose_spec.1 (by decide) hS.1.choose_spec.2.1 rfl ?_
  refine q_alen (p2 := 6) rfl (x_sc_238 hS) rfl (by omega) rfl ?_
  refine q_icmp_s (p2 := 7) rfl (by decide) (by omega) (by omega) rfl (fun hb => absurd hb (show ¬ (¬ (0 < 15)) by omega)) (fun _ => ?_)
  refine q_load (v := (6, 237, 0)) (p2 := 8) rfl rfl rfl rfl ?_
  refine q_getv (v := (6, 238, 0)) (p2 := 9) rfl hS.1.choose_spec.1 (by decide) hS.1.choose_spec.2.1 rfl ?_
  refine q_load (v := (0, 0, 0)) (p2 := 10) rfl rfl rfl rfl ?_
  refine q_aldv (v := (2, 1539, 0)) (p2 := 11) rfl (x_sc_238 hS) (by omega) (by omega) rfl rfl ?_
  refine q_load (v := (2, 6, 0)) (p2 := 12) rfl rfl rfl rfl ?_
  refine q_lcif (p2 := 14) rfl rfl (by decide) (by omega) (by omega) rfl (fun _ => ?_) (fun hb => absurd (show ¬ (1539 = 6) by omega) hb)
  refine q_iinc (z := 1) (loc2 := [(6, 237, 0), (2, 6, 0), (11, 0, 0), (0, 1, 0)]) (p2 := 17) rfl rfl (by decide) rfl rfl ?_
  refine q_goto rfl ?_
  refine q_load (v := (0, 1, 0)) (p2 := 3) rfl rfl rfl rfl ?_
  refine q_load (v := (6, 237, 0)) (p2 := 4) rfl rfl rfl rfl ?_
  refine q_getv (v := (6, 238, 0)) (p2 := 5) rfl hS.1.choose_spec.1 (by decide) hS.1.choose_spec.2.1 rfl ?_
  refine q_alen (p2 := 6) rfl (x_sc_238 hS) rfl (by omega) rfl ?_
  refine q_icmp_s (p2 := 7) rfl (by decide) (by omega) (by omega) rfl (fun hb => absurd hb (show ¬ (¬ (1 < 15)) by omega)) (fun _ => ?_)
  refine q_load (v := (6, 237, 0)) (p2 := 8) rfl rfl rfl rfl ?_
  refine q_getv (v := (6, 238, 0)) (p2 := 9) rfl hS.1.choose_spec.1 (by decide) hS.1.choose_spec.2.1 rfl ?_
  refine q_load (v := (0, 1, 0)) (p2 := 10) rfl rfl rfl rfl ?_
  refine q_aldv (v := (2, 13191528, 0)) (p2 := 11) rfl (x_sc_238 hS) (by omega) (by omega) rfl rfl ?_
  refine q_load (v := (2, 6, 0)) (p2 := 12) rfl rfl rfl rfl ?_
  refine q_lcif (p2 := 14) rfl rfl (by decide) (by omega) (by omega) rfl (fun _ => ?_) (fun hb => absurd (show ¬ (13191528 = 6) by omega) hb)
  refine q_iinc (z := 2) (loc2 := [(6, 237, 0), (2, 6, 0), (11, 0, 0), (0, 2, 0)]) (p2 := 17) rfl rfl (by decide) rfl rfl ?_
  refine q_goto rfl ?_
  refine q_load (v := (0, 2, 0)) (p2 := 3) rfl rfl rfl rfl ?_
  refine q_load (v := (6, 237, 0)) (p2 := 4) rfl rfl rfl rfl ?_
  refine q_getv (v := (6, 238, 0)) (p2 := 5) rfl hS.1.choose_spec.1 (by decide) hS.1.choose_spec.2.1 rfl ?_
  refine q_alen (p2 := 6) rfl (x_sc_238 hS) rfl (by omega) rfl ?_
  refine q_icmp_s (p2 := 7) rfl (by decide) (by omega) (by omega) rfl (fun hb => absurd hb (show ¬ (¬ (2 < 15)) by omega)) (fun _ => ?_)
  refine q_load (v := (6, 237, 0)) (p2 := 8) rfl rfl rfl rfl ?_
  refine q_getv (v := (6, 238, 0)) (p2 := 9) rfl hS.1.choose_spec.1 (by decide) hS.1.choose_spec.2.1 rfl ?_
  refine q_load (v := (0, 2, 0)) (p2 := 10) rfl rfl rfl rfl ?_
  refine q_aldv (v := (2, 172190, 0)) (p2 := 11) rfl (x_sc_238 hS) (by omega) (by omega) rfl rfl ?_
  refine q_load (v := (2, 6, 0)) (p2 := 12) rfl rfl rfl rfl ?_
  refine q_lcif (p2 := 14) rfl rfl (by decide) (by omega) (by omega) rfl (fun _ => ?_) (fun hb => absurd (show ¬ (172190 = 6) by omega) hb)
  refine q_iinc (z := 3) (loc2 := [(6, 237, 0), (2, 6, 0), (11, 0, 0), (0, 3, 0)]) (p2 := 17) rfl rfl (by decide) rfl rfl ?_
  refine q_goto rfl ?_
  refine q_load (v := (0, 3, 0)) (p2 := 3) rfl rfl rfl rfl ?_
  refine q_load (v := (6, 237, 0)) (p2 := 4) rfl rfl rfl rfl ?_
  refine q_getv (v := (6, 238, 0)) (p2 := 5) rfl hS.1.choose_spec.1 (by decide) hS.1.choose_spec.2.1 rfl ?_
  refine q_alen (p2 := 6) rfl (x_sc_238 hS) rfl (by omega) rfl ?_
  refine q_icmp_s (p2 := 7) rfl (by decide) (by omega) (by omega) rfl (fun hb => absurd hb (show ¬ (¬ (3 < 15)) by omega)) (fun _ => ?_)
  refine q_load (v := (6, 237, 0)) (p2 := 8) rfl rfl rfl rfl ?_
  refine q_getv (v := (6, 238, 0)) (p2 := 9) rfl hS.1.choose_spec.1 (by decide) hS.1.choose_spec.2.1 rfl ?_
  refine q_load (v := (0, 3, 0)) (p2 := 10) rfl rfl rfl rfl ?_
  refine q_aldv (v := (2, 1001244, 0)) (p2 := 11) rfl (x_sc_238 hS) (by omega) (by omega) rfl rfl ?_
  refine q_load (v := (2, 6, 0)) (p2 := 12) rfl rfl rfl rfl ?_
  refine q_lcif (p2 := 14) rfl rfl (by decide) (by omega) (by omega) rfl (fun _ => ?_) (fun hb => absurd (show ¬ (1001244 = 6) by omega) hb)
  refine q_iinc (z := 4) (loc2 := [(6, 237, 0), (2, 6, 0), (11, 0, 0), (0, 4, 0)]) (p2 := 17) rfl rfl (by decide) rfl rfl ?_
  refine q_goto rfl ?_
  refine q_load (v := (0, 4, 0)) (p2 := 3) rfl rfl rfl rfl ?_
  refine q_load (v := (6, 237, 0)) (p2 := 4) rfl rfl rfl rfl ?_
  refine q_getv (v := (6, 238, 0)) (p2 := 5) rfl hS.1.choose_spec.1 (by decide) hS.1.choose_spec.2.1 rfl ?_
  refine q_alen (p2 := 6) rfl (x_sc_238 hS) rfl (by omega) rfl ?_
  refine q_icmp_s (p2 := 7) rfl (by decide) (by omega) (by omega) rfl (fun hb => absurd hb (show ¬ (¬ (4 < 15)) by omega)) (fun _ => ?_)
  refine q_load (v := (6, 237, 0)) (p2 := 8) rfl rfl rfl rfl ?_
  refine q_getv (v := (6, 238, 0)) (p2 := 9) rfl hS.1.choose_spec.1 (by decide) hS.1.choose_spec.2.1 rfl ?_
  refine q_load (v := (0, 4, 0)) (p2 := 10) rfl rfl rfl rfl ?_
  refine q_aldv (v := (2, 1055844, 0)) (p2 := 11) rfl (x_sc_238 hS) (by omega) (by omega) rfl rfl ?_
  refine q_load (v := (2, 6, 0)) (p2 := 12) rfl rfl rfl rfl ?_
  refine q_lcif (p2 := 14) rfl rfl (by decide) (by omega) (by omega) rfl (fun _ => ?_) (fun hb => absurd (show ¬ (1055844 = 6) by omega) hb)
  refine q_iinc (z := 5) (loc2 := [(6, 237, 0), (2, 6, 0), (11, 0, 0), (0, 5, 0)]) (p2 := 17) rfl rfl (by decide) rfl rfl ?_
  refine q_goto rfl ?_
  refine q_load (v := (0, 5, 0)) (p2 := 3) rfl rfl rfl rfl ?_
  refine q_load (v := (6, 237, 0)) (p2 := 4) rfl rfl rfl rfl ?_
  refine q_getv (v := (6, 238, 0)) (p2 := 5) rfl hS.1.choose_spec.1 (by decide) hS.1.choose_spec.2.1 rfl ?_
  refine q_alen (p2 := 6) rfl (x_sc_238 hS) rfl (by omega) rfl ?_
  refine q_icmp_s (p2 := 7) rfl (by decide) (by omega) (by omega) rfl (fun hb => absurd hb (show ¬ (¬ (5 < 15)) by omega)) (fun _ => ?_)
  refine q_load (v := (6, 237, 0)) (p2 := 8) rfl rfl rfl rfl ?_
  refine q_getv (v := (6, 238, 0)) (p2 := 9) rfl hS.1.choose_spec.1 (by decide) hS.1.choose_spec.2.1 rfl ?_
  refine q_load (v := (0, 5, 0)) (p2 := 10) rfl rfl rfl rfl ?_
  refine q_aldv (v := (2, 1525668884, 0)) (p2 := 11) rfl (x_sc_238 hS) (by omega) (by omega) rfl rfl ?_
  refine q_load (v := (2, 6, 0)) (p2 := 12) rfl rfl rfl rfl ?_
  refine q_lcif (p2 := 14) rfl rfl (by decide) (by omega) (by omega) rfl (fun _ => ?_) (fun hb => absurd (show ¬ (1525668884 = 6) by omega) hb)
  refine q_iinc (z := 6) (loc2 := [(6, 237, 0), (2, 6, 0), (11, 0, 0), (0, 6, 0)]) (p2 := 17) rfl rfl (by decide) rfl rfl ?_
  refine q_goto rfl ?_
  refine q_load (v := (0, 6, 0)) (p2 := 3) rfl rfl rfl rfl ?_
  refine q_load (v := (6, 237, 0)) (p2 := 4) rfl rfl rfl rfl ?_
  refine q_getv (v := (6, 238, 0)) (p2 := 5) rfl hS.1.choose_spec.1 (by decide) hS.1.choose_spec.2.1 rfl ?_
  refine q_alen (p2 := 6) rfl (x_sc_238 hS) rfl (by omega) rfl ?_
  refine q_icmp_s (p2 := 7) rfl (by decide) (by omega) (by omega) rfl (fun hb => absurd hb (show ¬ (¬ (6 < 15)) by omega)) (fun _ => ?_)
  refine q_load (v := (6, 237, 0)) (p2 := 8) rfl rfl rfl rfl ?_
  refine q_getv (v := (6, 238, 0)) (p2 := 9) rfl hS.1.choose_spec.1 (by decide) hS.1.choose_spec.2.1 rfl ?_
  refine q_load (v := (0, 6, 0)) (p2 := 10) rfl rfl rfl rfl ?_
  refine q_aldv (v := (2, 1419992986150, 0)) (p2 := 11) rfl (x_sc_238 hS) (by omega) (by omega) rfl rfl ?_
  refine q_load (v := (2, 6, 0)) (p2 := 12) rfl rfl rfl rfl ?_
  refine q_lcif (p2 := 14) rfl rfl (by decide) (by omega) (by omega) rfl (fun _ => ?_) (fun hb => absurd (show ¬ (1419992986150 = 6) by omega) hb)
  refine q_iinc (z := 7) (loc2 := [(6, 237, 0), (2, 6, 0), (11, 0, 0), (0, 7, 0)]) (p2 := 17) rfl rfl (by decide) rfl rfl ?_
  refine q_goto rfl ?_
  refine q_load (v := (0, 7, 0)) (p2 := 3) rfl rfl rfl rfl ?_
  refine q_load (v := (6, 237, 0)) (p2 := 4) rfl rfl rfl rfl ?_
  refine q_getv (v := (6, 238, 0)) (p2 := 5) rfl hS.1.choose_spec.1 (by decide) hS.1.choose_spec.2.1 rfl ?_
  refine q_alen (p2 := 6) rfl (x_sc_238 hS) rfl (by omega) rfl ?_
  refine q_icmp_s (p2 := 7) rfl (by decide) (by omega) (by omega) rfl (fun hb => absurd hb (show ¬ (¬ (7 < 15)) by omega)) (fun _ => ?_)
  refine q_load (v := (6, 237, 0)) (p2 := 8) rfl rfl rfl rfl ?_
  refine q_getv (v := (6, 238, 0)) (p2 := 9) rfl hS.1.choose_spec.1 (by decide) hS.1.choose_spec.2.1 rfl ?_
  refine q_load (v := (0, 7, 0)) (p2 := 10) rfl rfl rfl rfl ?_
  refine q_aldv (v := (2, 35833807327750, 0)) (p2 := 11) rfl (x_sc_238 hS) (by omega) (by omega) rfl rfl ?_
  refine q_load (v := (2, 6, 0)) (p2 := 12) rfl rfl rfl rfl ?_
  refine q_lcif (p2 := 14) rfl rfl (by decide) (by omega) (by omega) rfl (fun _ => ?_) (fun hb => absurd (show ¬ (35833807327750 = 6) by omega) hb)
  refine q_iinc (z := 8) (loc2 := [(6, 237, 0), (2, 6, 0), (11, 0, 0), (0, 8, 0)]) (p2 := 17) rfl rfl (by decide) rfl rfl ?_
  refine q_goto rfl ?_
  refine q_load (v := (0, 8, 0)) (p2 := 3) rfl rfl rfl rfl ?_
  refine q_load (v := (6, 237, 0)) (p2 := 4) rfl rfl rfl rfl ?_
  refine q_getv (v := (6, 238, 0)) (p2 := 5) rfl hS.1.choose_spec.1 (by decide) hS.1.choose_spec.2.1 rfl ?_
  refine q_alen (p2 := 6) rfl (x_sc_238 hS) rfl (by omega) rfl ?_
  refine q_icmp_s (p2 := 7) rfl (by decide) (by omega) (by omega) rfl (fun hb => absurd hb (show ¬ (¬ (8 < 15)) by omega)) (fun _ => ?_)
  refine q_load (v := (6, 237, 0)) (p2 := 8) rfl rfl rfl rfl ?_
  refine q_getv (v := (6, 238, 0)) (p2 := 9) rfl hS.1.choose_spec.1 (by decide) hS.1.choose_spec.2.1 rfl ?_
  refine q_load (v := (0, 8, 0)) (p2 := 10) rfl rfl rfl rfl ?_
  refine q_aldv (v := (2, 446741167, 0)) (p2 := 11) rfl (x_sc_238 hS) (by omega) (by omega) rfl rfl ?_
  refine q_load (v := (2, 6, 0)) (p2 := 12) rfl rfl rfl rfl ?_
  refine q_lcif (p2 := 14) rfl rfl (by decide) (by omega) (by omega) rfl (fun _ => ?_) (fun hb => absurd (show ¬ (446741167 = 6) by omega) hb)
  refine q_iinc (z := 9) (loc2 := [(6, 237, 0), (2, 6, 0), (11, 0, 0), (0, 9, 0)]) (p2 := 17) rfl rfl (by decide) rfl rfl ?_
  refine q_goto rfl ?_
  refine q_load (v := (0, 9, 0)) (p2 := 3) rfl rfl rfl rfl ?_
  refine q_load (v := (6, 237, 0)) (p2 := 4) rfl rfl rfl rfl ?_
  refine q_getv (v := (6, 238, 0)) (p2 := 5) rfl hS.1.choose_spec.1 (by decide) hS.1.choose_spec.2.1 rfl ?_
  refine q_alen (p2 := 6) rfl (x_sc_238 hS) rfl (by omega) rfl ?_
  refine q_icmp_s (p2 := 7) rfl (by decide) (by omega) (by omega) rfl (fun hb => absurd hb (show ¬ (¬ (9 < 15)) by omega)) (fun _ => ?_)
  refine q_load (v := (6, 237, 0)) (p2 := 8) rfl rfl rfl rfl ?_
  refine q_getv (v := (6, 238, 0)) (p2 := 9) rfl hS.1.choose_spec.1 (by decide) hS.1.choose_spec.2.1 rfl ?_
  refine q_load (v := (0, 9, 0)) (p2 := 10) rfl rfl rfl rfl ?_
  refine q_aldv (v := (2, 1703836604, 0)) (p2 := 11) rfl (x_sc_238 hS) (by omega) (by omega) rfl rfl ?_
  refine q_load (v := (2, 6, 0)) (p2 := 12) rfl rfl rfl rfl ?_
  refine q_lcif (p2 := 14) rfl rfl (by decide) (by omega) (by omega) rfl (fun _ => ?_) (fun hb => absurd (show ¬ (1703836604 = 6) by omega) hb)
  refine q_iinc (z := 10) (loc2 := [(6, 237, 0), (2, 6, 0), (11, 0, 0), (0, 10, 0)]) (p2 := 17) rfl rfl (by decide) rfl rfl ?_
  refine q_goto rfl ?_
  refine q_load (v := (0, 10, 0)) (p2 := 3) rfl rfl rfl rfl ?_
  refine q_load (v := (6, 237, 0)) (p2 := 4) rfl rfl rfl rfl ?_
  refine q_getv (v := (6, 238, 0)) (p2 := 5) rfl hS.1.choose_spec.1 (by decide) hS.1.choose_spec.2.1 rfl ?_
  refine q_alen (p2 := 6) rfl (x_sc_238 hS) rfl (by omega) rfl ?_
  refine q_icmp_s (p2 := 7) rfl (by decide) (by omega) (by omega) rfl (fun hb => absurd hb (show ¬ (¬ (10 < 15)) by omega)) (fun _ => ?_)
  refine q_load (v := (6, 237, 0)) (p2 := 8) rfl rfl rfl rfl ?_
  refine q_getv (v := (6, 238, 0)) (p2 := 9) rfl hS.1.choose_spec.1 (by decide) hS.1.choose_spec.2.1 rfl ?_
  refine q_load (v := (0, 10, 0)) (p2 := 10) rfl rfl rfl rfl ?_
  refine q_aldv (v := (2, 21816, 0)) (p2 := 11) rfl (x_sc_238 hS) (by omega) (by omega) rfl rfl ?_
  refine q_load (v := (2, 6, 0)) (p2 := 12) rfl rfl rfl rfl ?_
  refine q_lcif (p2 := 14) rfl rfl (by decide) (by omega) (by omega) rfl (fun _ => ?_) (fun hb => absurd (show ¬ (21816 = 6) by omega) hb)
  refine q_iinc (z := 11) (loc2 := [(6, 237, 0), (2, 6, 0), (11, 0, 0), (0, 11, 0)]) (p2 := 17) rfl rfl (by decide) rfl rfl ?_
  refine q_goto rfl ?_
  refine q_load (v := (0, 11, 0)) (p2 := 3) rfl rfl rfl rfl ?_
  refine q_load (v := (6, 237, 0)) (p2 := 4) rfl rfl rfl rfl ?_
  refine q_getv (v := (6, 238, 0)) (p2 := 5) rfl hS.1.choose_spec.1 (by decide) hS.1.choose_spec.2.1 rfl ?_
  refine q_alen (p2 := 6) rfl (x_sc_238 hS) rfl (by omega) rfl ?_
  refine q_icmp_s (p2 := 7) rfl (by decide) (by omega) (by omega) rfl (fun hb => absurd hb (show ¬ (¬ (11 < 15)) by omega)) (fun _ => ?_)
  refine q_load (v := (6, 237, 0)) (p2 := 8) rfl rfl rfl rfl ?_
  refine q_getv (v := (6, 238, 0)) (p2 := 9) rfl hS.1.choose_spec.1 (by decide) hS.1.choose_spec.2.1 rfl ?_
  refine q_load (v := (0, 11, 0)) (p2 := 10) rfl rfl rfl rfl ?_
  refine q_aldv (v := (2, 389731740468, 0)) (p2 := 11) rfl (x_sc_238 hS) (by omega) (by omega) rfl rfl ?_
  refine q_load (v := (2, 6, 0)) (p2 := 12) rfl rfl rfl rfl ?_
  refine q_lcif (p2 := 14) rfl rfl (by decide) (by omega) (by omega) rfl (fun _ => ?_) (fun hb => absurd (show ¬ (389731740468 = 6) by omega) hb)
  refine q_iinc (z := 12) (loc2 := [(6, 237, 0), (2, 6, 0), (11, 0, 0), (0, 12, 0)]) (p2 := 17) rfl rfl (by decide) rfl rfl ?_
  refine q_goto rfl ?_
  refine q_load (v := (0, 12, 0)) (p2 := 3) rfl rfl rfl rfl ?_
  refine q_load (v := (6, 237, 0)) (p2 := 4) rfl rfl rfl rfl ?_
  refine q_getv (v := (6, 238, 0)) (p2 := 5) rfl hS.1.choose_spec.1 (by decide) hS.1.choose_spec.2.1 rfl ?_
  refine q_alen (p2 := 6) rfl (x_sc_238 hS) rfl (by omega) rfl ?_
  refine q_icmp_s (p2 := 7) rfl (by decide) (by omega) (by omega) rfl (fun hb => absurd hb (show ¬ (¬ (12 < 15)) by omega)) (fun _ => ?_)
  refine q_load (v := (6, 237, 0)) (p2 := 8) rfl rfl rfl rfl ?_
  refine q_getv (v := (6, 238, 0)) (p2 := 9) rfl hS.1.choose_spec.1 (by decide) hS.1.choose_spec.2.1 rfl ?_
  refine q_load (v := (0, 12, 0)) (p2 := 10) rfl rfl rfl rfl ?_
  refine q_aldv (v := (2, 19128, 0)) (p2 := 11) rfl (x_sc_238 hS) (by omega) (by omega) rfl rfl ?_
  refine q_load (v := (2, 6, 0)) (p2 := 12) rfl rfl rfl rfl ?_
  refine q_lcif (p2 := 14) rfl rfl (by decide) (by omega) (by omega) rfl (fun _ => ?_) (fun hb => absurd (show ¬ (19128 = 6) by omega) hb)
  refine q_iinc (z := 13) (loc2 := [(6, 237, 0), (2, 6, 0), (11, 0, 0), (0, 13, 0)]) (p2 := 17) rfl rfl (by decide) rfl rfl ?_
  refine q_goto rfl ?_
  refine q_load (v := (0, 13, 0)) (p2 := 3) rfl rfl rfl rfl ?_
  refine q_load (v := (6, 237, 0)) (p2 := 4) rfl rfl rfl rfl ?_
  refine q_getv (v := (6, 238, 0)) (p2 := 5) rfl hS.1.choose_spec.1 (by decide) hS.1.choose_spec.2.1 rfl ?_
  refine q_alen (p2 := 6) rfl (x_sc_238 hS) rfl (by omega) rfl ?_
  refine q_icmp_s (p2 := 7) rfl (by decide) (by omega) (by omega) rfl (fun hb => absurd hb (show ¬ (¬ (13 < 15)) by omega)) (fun _ => ?_)
  refine q_load (v := (6, 237, 0)) (p2 := 8) rfl rfl rfl rfl ?_
  refine q_getv (v := (6, 238, 0)) (p2 := 9) rfl hS.1.choose_spec.1 (by decide) hS.1.choose_spec.2.1 rfl ?_
  refine q_load (v := (0, 13, 0)) (p2 := 10) rfl rfl rfl rfl ?_
  refine q_aldv (v := (2, 18834, 0)) (p2 := 11) rfl (x_sc_238 hS) (by omega) (by omega) rfl rfl ?_
  refine q_load (v := (2, 6, 0)) (p2 := 12) rfl rfl rfl rfl ?_
  refine q_lcif (p2 := 14) rfl rfl (by decide) (by omega) (by omega) rfl (fun _ => ?_) (fun hb => absurd (show ¬ (18834 = 6) by omega) hb)
  refine q_iinc (z := 14) (loc2 := [(6, 237, 0), (2, 6, 0), (11, 0, 0), (0, 14, 0)]) (p2 := 17) rfl rfl (by decide) rfl rfl ?_
  refine q_goto rfl ?_
  refine q_load (v := (0, 14, 0)) (p2 := 3) rfl rfl rfl rfl ?_
  refine q_load (v := (6, 237, 0)) (p2 := 4) rfl rfl rfl rfl ?_
  refine q_getv (v := (6, 238, 0)) (p2 := 5) rfl hS.1.choose_spec.1 (by decide) hS.1.choose_spec.2.1 rfl ?_
  refine q_alen (p2 := 6) rfl (x_sc_238 hS) rfl (by omega) rfl ?_
  refine q_icmp_s (p2 := 7) rfl (by decide) (by omega) (by omega) rfl (fun hb => absurd hb (show ¬ (¬ (14 < 15)) by omega)) (fun _ => ?_)
  refine q_load (v := (6, 237, 0)) (p2 := 8) rfl rfl rfl rfl ?_
  refine q_getv (v := (6, 238, 0)) (p2 := 9) rfl hS.1.choose_spec.1 (by decide) hS.1.choose_spec.2.1 rfl ?_
  refine q_load (v := (0, 14, 0)) (p2 := 10) rfl rfl rfl rfl ?_
  refine q_aldv (v := (2, 21064, 0)) (p2 := 11) rfl (x_sc_238 hS) (by omega) (by omega) rfl rfl ?_
  refine q_load (v := (2, 6, 0)) (p2 := 12) rfl rfl rfl rfl ?_
  refine q_lcif (p2 := 14) rfl rfl (by decide) (by omega) (by omega) rfl (fun _ => ?_) (fun hb => absurd (show ¬ (21064 = 6) by omega) hb)
  refine q_iinc (z := 15) (loc2 := [(6, 237, 0), (2, 6, 0), (11, 0, 0), (0, 15, 0)]) (p2 := 17) rfl rfl (by decide) rfl rfl ?_
  refine q_goto rfl ?_
  refine q_load (v := (0, 15, 0)) (p2 := 3) rfl rfl rfl rfl ?_
  refine q_load (v := (6, 237, 0)) (p2 := 4) rfl rfl rfl rfl ?_
  refine q_getv (v := (6, 238, 0)) (p2 := 5) rfl hS.1.choose_spec.1 (by decide) hS.1.choose_spec.2.1 rfl ?_
  refine q_alen (p2 := 6) rfl (x_sc_238 hS) rfl (by omega) rfl ?_
  refine q_icmp_s (p2 := 7) rfl (by decide) (by omega) (by omega) rfl (fun _ => ?_) (fun hb => absurd (show ¬ (15 < 15) by omega) hb)
  refine q_const (p2 := 19) rfl rfl ?_
  exact q_retv (v := (0, 4294967293, 0)) rfl rfl (⟨rfl, rfl, rfl, rfl, rfl⟩)
theorem zc_s_find4_1703836604 {d n sl : Nat} {φ : FH}  (hS : x_sch φ) (hN : zq_nm φ)  : x_f x_P (d + 1) 217 [(6, 237, 0), (0, 4, 0), (2, 1703836604, 0), (11, 0, 0), (11, 0, 0), (11, 0, 0)] φ n sl (x_r φ n sl (0, 4294967293, 0)) := by
  refine x_f_of rfl ?_
  refine q_load (v := (6, 237, 0)) (p2 := 1) rfl rfl rfl rfl ?_
  refine q_getv (v := (6, 239, 0)) (p2 := 2) rfl hS.1.choose_spec.1 (by decide) hS.1.choose_spec.2.2.1 rfl ?_
  refine q_load (v := (0, 4, 0)) (p2 := 3) rfl rfl rfl rfl ?_
  refine q_aldv (v := (6, 244, 0)) (p2 := 4) rfl hN.1 (by omega) (by omega) rfl rfl ?_
  refine q_store (loc2 := [(6, 237, 0), (0, 4, 0), (2, 1703836604, 0), (11, 0, 0), (6, 244, 0), (11, 0, 0)]) (p2 := 5) rfl rfl rfl rfl rfl ?_
  refine q_const (p2 := 6) rfl rfl ?_
  refine q_store (loc2 := [(6, 237, 0), (0, 4, 0), (2, 1703836604, 0), (11, 0, 0), (6, 244, 0), (0, 0, 0)]) (p2 := 7) rfl rfl rfl rfl rfl ?_
  refine q_load (v := (0, 0, 0)) (p2 := 8) rfl rfl rfl rfl ?_
  refine q_load (v := (6, 237, 0)) (p2 := 9) rfl rfl rfl rfl ?_
  refine q_getv (v := (6, 246, 0)) (p2 := 10) rfl hS.1.choose_spec.1 (by decide) hS.1.choose_spec.2.2.2.1 rfl ?_
  refine q_load (v := (0, 4, 0)) (p2 := 11) rfl rfl rfl rfl ?_
  refine q_aldv (v := (0, 1, 0)) (p2 := 12) rfl (x_sc_246 hS) (by omega) (by omega) rfl rfl ?_
  refine q_icmp_s (p2 := 13) rfl (by decide) (by omega) (by omega) rfl (fun hb => absurd hb (show ¬ (¬ (0 < 1)) by omega)) (fun _ => ?_)
  refine q_load (v := (0, 0, 0)) (p2 := 14) rfl rfl rfl rfl ?_
  refine q_load (v := (6, 244, 0)) (p2 := 15) rfl rfl rfl rfl ?_
  refine q_alen (p2 := 16) rfl hN.2.2 rfl (by omega) rfl ?_
  refine q_icmp_s (p2 := 17) rfl (by decide) (by omega) (by omega) rfl (fun hb => absurd hb (show ¬ (¬ (0 < 40)) by omega)) (fun _ => ?_)
  refine q_load (v := (6, 244, 0)) (p2 := 18) rfl rfl rfl rfl ?_
  refine q_load (v := (0, 0, 0)) (p2 := 19) rfl rfl rfl rfl ?_
  refine q_aldv (v := (2, 6, 0)) (p2 := 20) rfl hN.2.2 (by omega) (by omega) rfl rfl ?_
  refine q_load (v := (2, 1703836604, 0)) (p2 := 21) rfl rfl rfl rfl ?_
  refine q_lcif (p2 := 23) rfl rfl (by decide) (by omega) (by omega) rfl (fun _ => ?_) (fun hb => absurd (show ¬ (6 = 1703836604) by omega) hb)
  refine q_iinc (z := 1) (loc2 := [(6, 237, 0), (0, 4, 0), (2, 1703836604, 0), (11, 0, 0), (6, 244, 0), (0, 1, 0)]) (p2 := 26) rfl rfl (by decide) rfl rfl ?_
  refine q_goto rfl ?_
  refine q_load (v := (0, 1, 0)) (p2 := 8) rfl rfl rfl rfl ?_
  refine q_load (v := (6, 237, 0)) (p2 := 9) rfl rfl rfl rfl ?_
  refine q_getv (v := (6, 246, 0)) (p2 := 10) rfl hS.1.choose_spec.1 (by decide) hS.1.choose_spec.2.2.2.1 rfl ?_
  refine q_load (v := (0, 4, 0)) (p2 := 11) rfl rfl rfl rfl ?_
  refine q_aldv (v := (0, 1, 0)) (p2 := 12) rfl (x_sc_246 hS) (by omega) (by omega) rfl rfl ?_
  refine q_icmp_s (p2 := 13) rfl (by decide) (by omega) (by omega) rfl (fun _ => ?_) (fun hb => absurd (show ¬ (1 < 1) by omega) hb)
  refine q_const (p2 := 28) rfl rfl ?_
  exact q_retv (v := (0, 4294967293, 0)) rfl rfl (⟨rfl, rfl, rfl, rfl, rfl⟩)
theorem zc_s_fb_1703836604 {d n sl : Nat} {φ : FH}  (hS : x_sch φ) (hN : zq_nm φ)  : x_f x_P (d + 1) 280 [(6, 237, 0), (2, 1703836604, 0), (11, 0, 0), (11, 0, 0)] φ n sl (x_r φ n sl (0, 9, 0)) := by
  refine x_f_of rfl ?_
  refine q_const (p2 := 1) rfl rfl ?_
  refine q_store (loc2 := [(6, 237, 0), (2, 1703836604, 0), (11, 0, 0), (0, 0, 0)]) (p2 := 2) rfl rfl rfl rfl rfl ?_
  refine q_load (v := (0, 0, 0)) (p2 := 3) rfl rfl rfl rfl ?_
  refine q_load (v := (6, 237, 0)) (p2 := 4) rfl rfl rfl rfl ?_
  refine q_getv (v := (6, 238, 0)) (p2 := 5) rfl hS.1.choose_spec.1 (by decide) hS.1.choose_spec.2.1 rfl ?_
  refine q_alen (p2 := 6) rfl (x_sc_238 hS) rfl (by omega) rfl ?_
  refine q_icmp_s (p2 := 7) rfl (by decide) (by omega) (by omega) rfl (fun hb => absurd hb (show ¬ (¬ (0 < 15)) by omega)) (fun _ => ?_)
  refine q_load (v := (6, 237, 0)) (p2 := 8) rfl rfl rfl rfl ?_
  refine q_getv (v := (6, 238, 0)) (p2 := 9) rfl hS.1.choose_spec.1 (by decide) hS.1.choose_spec.2.1 rfl ?_
  refine q_load (v := (0, 0, 0)) (p2 := 10) rfl rfl rfl rfl ?_
  refine q_aldv (v := (2, 1539, 0)) (p2 := 11) rfl (x_sc_238 hS) (by omega) (by omega) rfl rfl ?_
  refine q_load (v := (2, 1703836604, 0)) (p2 := 12) rfl rfl rfl rfl ?_
  refine q_lcif (p2 := 14) rfl rfl (by decide) (by omega) (by omega) rfl (fun _ => ?_) (fun hb => absurd (show ¬ (1539 = 1703836604) by omega) hb)
  refine q_iinc (z := 1) (loc2 := [(6, 237, 0), (2, 1703836604, 0), (11, 0, 0), (0, 1, 0)]) (p2 := 17) rfl rfl (by decide) rfl rfl ?_
  refine q_goto rfl ?_
  refine q_load (v := (0, 1, 0)) (p2 := 3) rfl rfl rfl rfl ?_
  refine q_load (v := (6, 237, 0)) (p2 := 4) rfl rfl rfl rfl ?_
  refine q_getv (v := (6, 238, 0)) (p2 := 5) rfl hS.1.choose_spec.1 (by decide) hS.1.choose_spec.2.1 rfl ?_
  refine q_alen (p2 := 6) rfl (x_sc_238 hS) rfl (by omega) rfl ?_
  refine q_icmp_s (p2 := 7) rfl (by decide) (by omega) (by omega) rfl (fun hb => absurd hb (show ¬ (¬ (1 < 15)) by omega)) (fun _ => ?_)
  refine q_load (v := (6, 237, 0)) (p2 := 8) rfl rfl rfl rfl ?_
  refine q_getv (v := (6, 238, 0)) (p2 := 9) rfl hS.1.choose_spec.1 (by decide) hS.1.choose_spec.2.1 rfl ?_
  refine q_load (v := (0, 1, 0)) (p2 := 10) rfl rfl rfl rfl ?_
  refine q_aldv (v := (2, 13191528, 0)) (p2 := 11) rfl (x_sc_238 hS) (by omega) (by omega) rfl rfl ?_
  refine q_load (v := (2, 1703836604, 0)) (p2 := 12) rfl rfl rfl rfl ?_
  refine q_lcif (p2 := 14) rfl rfl (by decide) (by omega) (by omega) rfl (fun _ => ?_) (fun hb => absurd (show ¬ (13191528 = 1703836604) by omega) hb)
  refine q_iinc (z := 2) (loc2 := [(6, 237, 0), (2, 1703836604, 0), (11, 0, 0), (0, 2, 0)]) (p2 := 17) rfl rfl (by decide) rfl rfl ?_
  refine q_goto rfl ?_
  refine q_load (v := (0, 2, 0)) (p2 := 3) rfl rfl rfl rfl ?_
  refine q_load (v := (6, 237, 0)) (p2 := 4) rfl rfl rfl rfl ?_
  refine q_getv (v := (6, 238, 0)) (p2 := 5) rfl hS.1.choose_spec.1 (by decide) hS.1.choose_spec.2.1 rfl ?_
  refine q_alen (p2 := 6) rfl (x_sc_238 hS) rfl (by omega) rfl ?_
  refine q_icmp_s (p2 := 7) rfl (by decide) (by omega) (by omega) rfl (fun hb => absurd hb (show ¬ (¬ (2 < 15)) by omega)) (fun _ => ?_)
  refine q_load (v := (6, 237, 0)) (p2 := 8) rfl rfl rfl rfl ?_
  refine q_getv (v := (6, 238, 0)) (p2 := 9) rfl hS.1.choose_spec.1 (by decide) hS.1.choose_spec.2.1 rfl ?_
  refine q_load (v := (0, 2, 0)) (p2 := 10) rfl rfl rfl rfl ?_
  refine q_aldv (v := (2, 172190, 0)) (p2 := 11) rfl (x_sc_238 hS) (by omega) (by omega) rfl rfl ?_
  refine q_load (v := (2, 1703836604, 0)) (p2 := 12) rfl rfl rfl rfl ?_
  refine q_lcif (p2 := 14) rfl rfl (by decide) (by omega) (by omega) rfl (fun _ => ?_) (fun hb => absurd (show ¬ (172190 = 1703836604) by omega) hb)
  refine q_iinc (z := 3) (loc2 := [(6, 237, 0), (2, 1703836604, 0), (11, 0, 0), (0, 3, 0)]) (p2 := 17) rfl rfl (by decide) rfl rfl ?_
  refine q_goto rfl ?_
  refine q_load (v := (0, 3, 0)) (p2 := 3) rfl rfl rfl rfl ?_
  refine q_load (v := (6, 237, 0)) (p2 := 4) rfl rfl rfl rfl ?_
  refine q_getv (v := (6, 238, 0)) (p2 := 5) rfl hS.1.choose_spec.1 (by decide) hS.1.choose_spec.2.1 rfl ?_
  refine q_alen (p2 := 6) rfl (x_sc_238 hS) rfl (by omega) rfl ?_
  refine q_icmp_s (p2 := 7) rfl (by decide) (by omega) (by omega) rfl (fun hb => absurd hb (show ¬ (¬ (3 < 15)) by omega)) (fun _ => ?_)
  refine q_load (v := (6, 237, 0)) (p2 := 8) rfl rfl rfl rfl ?_
  refine q_getv (v := (6, 238, 0)) (p2 := 9) rfl hS.1.choose_spec.1 (by decide) hS.1.choose_spec.2.1 rfl ?_
  refine q_load (v := (0, 3, 0)) (p2 := 10) rfl rfl rfl rfl ?_
  refine q_aldv (v := (2, 1001244, 0)) (p2 := 11) rfl (x_sc_238 hS) (by omega) (by omega) rfl rfl ?_
  refine q_load (v := (2, 1703836604, 0)) (p2 := 12) rfl rfl rfl rfl ?_
  refine q_lcif (p2 := 14) rfl rfl (by decide) (by omega) (by omega) rfl (fun _ => ?_) (fun hb => absurd (show ¬ (1001244 = 1703836604) by omega) hb)
  refine q_iinc (z := 4) (loc2 := [(6, 237, 0), (2, 1703836604, 0), (11, 0, 0), (0, 4, 0)]) (p2 := 17) rfl rfl (by decide) rfl rfl ?_
  refine q_goto rfl ?_
  refine q_load (v := (0, 4, 0)) (p2 := 3) rfl rfl rfl rfl ?_
  refine q_load (v := (6, 237, 0)) (p2 := 4) rfl rfl rfl rfl ?_
  refine q_getv (v := (6, 238, 0)) (p2 := 5) rfl hS.1.choose_spec.1 (by decide) hS.1.choose_spec.2.1 rfl ?_
  refine q_alen (p2 := 6) rfl (x_sc_238 hS) rfl (by omega) rfl ?_
  refine q_icmp_s (p2 := 7) rfl (by decide) (by omega) (by omega) rfl (fun hb => absurd hb (show ¬ (¬ (4 < 15)) by omega)) (fun _ => ?_)
  refine q_load (v := (6, 237, 0)) (p2 := 8) rfl rfl rfl rfl ?_
  refine q_getv (v := (6, 238, 0)) (p2 := 9) rfl hS.1.choose_spec.1 (by decide) hS.1.choose_spec.2.1 rfl ?_
  refine q_load (v := (0, 4, 0)) (p2 := 10) rfl rfl rfl rfl ?_
  refine q_aldv (v := (2, 1055844, 0)) (p2 := 11) rfl (x_sc_238 hS) (by omega) (by omega) rfl rfl ?_
  refine q_load (v := (2, 1703836604, 0)) (p2 := 12) rfl rfl rfl rfl ?_
  refine q_lcif (p2 := 14) rfl rfl (by decide) (by omega) (by omega) rfl (fun _ => ?_) (fun hb => absurd (show ¬ (1055844 = 1703836604) by omega) hb)
  refine q_iinc (z := 5) (loc2 := [(6, 237, 0), (2, 1703836604, 0), (11, 0, 0), (0, 5, 0)]) (p2 := 17) rfl rfl (by decide) rfl rfl ?_
  refine q_goto rfl ?_
  refine q_load (v := (0, 5, 0)) (p2 := 3) rfl rfl rfl rfl ?_
  refine q_load (v := (6, 237, 0)) (p2 := 4) rfl rfl rfl rfl ?_
  refine q_getv (v := (6, 238, 0)) (p2 := 5) rfl hS.1.choose_spec.1 (by decide) hS.1.choose_spec.2.1 rfl ?_
  refine q_alen (p2 := 6) rfl (x_sc_238 hS) rfl (by omega) rfl ?_
  refine q_icmp_s (p2 := 7) rfl (by decide) (by omega) (by omega) rfl (fun hb => absurd hb (show ¬ (¬ (5 < 15)) by omega)) (fun _ => ?_)
  refine q_load (v := (6, 237, 0)) (p2 := 8) rfl rfl rfl rfl ?_
  refine q_getv (v := (6, 238, 0)) (p2 := 9) rfl hS.1.choose_spec.1 (by decide) hS.1.choose_spec.2.1 rfl ?_
  refine q_load (v := (0, 5, 0)) (p2 := 10) rfl rfl rfl rfl ?_
  refine q_aldv (v := (2, 1525668884, 0)) (p2 := 11) rfl (x_sc_238 hS) (by omega) (by omega) rfl rfl ?_
  refine q_load (v := (2, 1703836604, 0)) (p2 := 12) rfl rfl rfl rfl ?_
  refine q_lcif (p2 := 14) rfl rfl (by decide) (by omega) (by omega) rfl (fun _ => ?_) (fun hb => absurd (show ¬ (1525668884 = 1703836604) by omega) hb)
  refine q_iinc (z := 6) (loc2 := [(6, 237, 0), (2, 1703836604, 0), (11, 0, 0), (0, 6, 0)]) (p2 := 17) rfl rfl (by decide) rfl rfl ?_
  refine q_goto rfl ?_
  refine q_load (v := (0, 6, 0)) (p2 := 3) rfl rfl rfl rfl ?_
  refine q_load (v := (6, 237, 0)) (p2 := 4) rfl rfl rfl rfl ?_
  refine q_getv (v := (6, 238, 0)) (p2 := 5) rfl hS.1.choose_spec.1 (by decide) hS.1.choose_spec.2.1 rfl ?_
  refine q_alen (p2 := 6) rfl (x_sc_238 hS) rfl (by omega) rfl ?_
  refine q_icmp_s (p2 := 7) rfl (by decide) (by omega) (by omega) rfl (fun hb => absurd hb (show ¬ (¬ (6 < 15)) by omega)) (fun _ => ?_)
  refine q_load (v := (6, 237, 0)) (p2 := 8) rfl rfl rfl rfl ?_
  refine q_getv (v := (6, 238, 0)) (p2 := 9) rfl hS.1.choose_spec.1 (by decide) hS.1.choose_spec.2.1 rfl ?_
  refine q_load (v := (0, 6, 0)) (p2 := 10) rfl rfl rfl rfl ?_
  refine q_aldv (v := (2, 1419992986150, 0)) (p2 := 11) rfl (x_sc_238 hS) (by omega) (by omega) rfl rfl ?_
  refine q_load (v := (2, 1703836604, 0)) (p2 := 12) rfl rfl rfl rfl ?_
  refine q_lcif (p2 := 14) rfl rfl (by decide) (by omega) (by omega) rfl (fun _ => ?_) (fun hb => absurd (show ¬ (1419992986150 = 1703836604) by omega) hb)
  refine q_iinc (z := 7) (loc2 := [(6, 237, 0), (2, 1703836604, 0), (11, 0, 0), (0, 7, 0)]) (p2 := 17) rfl rfl (by decide) rfl rfl ?_
  refine q_goto rfl ?_
  refine q_load (v := (0, 7, 0)) (p2 := 3) rfl rfl rfl rfl ?_
  refine q_load (v := (6, 237, 0)) (p2 := 4) rfl rfl rfl rfl ?_
  refine q_getv (v := (6, 238, 0)) (p2 := 5) rfl hS.1.choose_spec.1 (by decide) hS.1.choose_spec.2.1 rfl ?_
  refine q_alen (p2 := 6) rfl (x_sc_238 hS) rfl (by omega) rfl ?_
  refine q_icmp_s (p2 := 7) rfl (by decide) (by omega) (by omega) rfl (fun hb => absurd hb (show ¬ (¬ (7 < 15)) by omega)) (fun _ => ?_)
  refine q_load (v := (6, 237, 0)) (p2 := 8) rfl rfl rfl rfl ?_
  refine q_getv (v := (6, 238, 0)) (p2 := 9) rfl hS.1.choose_spec.1 (by decide) hS.1.choose_spec.2.1 rfl ?_
  refine q_load (v := (0, 7, 0)) (p2 := 10) rfl rfl rfl rfl ?_
  refine q_aldv (v := (2, 35833807327750, 0)) (p2 := 11) rfl (x_sc_238 hS) (by omega) (by omega) rfl rfl ?_
  refine q_load (v := (2, 1703836604, 0)) (p2 := 12) rfl rfl rfl rfl ?_
  refine q_lcif (p2 := 14) rfl rfl (by decide) (by omega) (by omega) rfl (fun _ => ?_) (fun hb => absurd (show ¬ (35833807327750 = 1703836604) by omega) hb)
  refine q_iinc (z := 8) (loc2 := [(6, 237, 0), (2, 1703836604, 0), (11, 0, 0), (0, 8, 0)]) (p2 := 17) rfl rfl (by decide) rfl rfl ?_
  refine q_goto rfl ?_
  refine q_load (v := (0, 8, 0)) (p2 := 3) rfl rfl rfl rfl ?_
  refine q_load (v := (6, 237, 0)) (p2 := 4) rfl rfl rfl rfl ?_
  refine q_getv (v := (6, 238, 0)) (p2 := 5) rfl hS.1.choose_spec.1 (by decide) hS.1.choose_spec.2.1 rfl ?_
  refine q_alen (p2 := 6) rfl (x_sc_238 hS) rfl (by omega) rfl ?_
  refine q_icmp_s (p2 := 7) rfl (by decide) (by omega) (by omega) rfl (fun hb => absurd hb (show ¬ (¬ (8 < 15)) by omega)) (fun _ => ?_)
  refine q_load (v := (6, 237, 0)) (p2 := 8) rfl rfl rfl rfl ?_
  refine q_getv (v := (6, 238, 0)) (p2 := 9) rfl hS.1.choose_spec.1 (by decide) hS.1.choose_spec.2.1 rfl ?_
  refine q_load (v := (0, 8, 0)) (p2 := 10) rfl rfl rfl rfl ?_
  refine q_aldv (v := (2, 446741167, 0)) (p2 := 11) rfl (x_sc_238 hS) (by omega) (by omega) rfl rfl ?_
  refine q_load (v := (2, 1703836604, 0)) (p2 := 12) rfl rfl rfl rfl ?_
  refine q_lcif (p2 := 14) rfl rfl (by decide) (by omega) (by omega) rfl (fun _ => ?_) (fun hb => absurd (show ¬ (446741167 = 1703836604) by omega) hb)
  refine q_iinc (z := 9) (loc2 := [(6, 237, 0), (2, 1703836604, 0), (11, 0, 0), (0, 9, 0)]) (p2 := 17) rfl rfl (by decide) rfl rfl ?_
  refine q_goto rfl ?_
  refine q_load (v := (0, 9, 0)) (p2 := 3) rfl rfl rfl rfl ?_
  refine q_load (v := (6, 237, 0)) (p2 := 4) rfl rfl rfl rfl ?_
  refine q_getv (v := (6, 238, 0)) (p2 := 5) rfl hS.1.choose_spec.1 (by decide) hS.1.choose_spec.2.1 rfl ?_
  refine q_alen (p2 := 6) rfl (x_sc_238 hS) rfl (by omega) rfl ?_
  refine q_icmp_s (p2 := 7) rfl (by decide) (by omega) (by omega) rfl (fun hb => absurd hb (show ¬ (¬ (9 < 15)) by omega)) (fun _ => ?_)
  refine q_load (v := (6, 237, 0)) (p2 := 8) rfl rfl rfl rfl ?_
  refine q_getv (v := (6, 238, 0)) (p2 := 9) rfl hS.1.choose_spec.1 (by decide) hS.1.choose_spec.2.1 rfl ?_
  refine q_load (v := (0, 9, 0)) (p2 := 10) rfl rfl rfl rfl ?_
  refine q_aldv (v := (2, 1703836604, 0)) (p2 := 11) rfl (x_sc_238 hS) (by omega) (by omega) rfl rfl ?_
  refine q_load (v := (2, 1703836604, 0)) (p2 := 12) rfl rfl rfl rfl ?_
  refine q_lcif (p2 := 14) rfl rfl (by decide) (by omega) (by omega) rfl (fun hb => absurd hb (show ¬ (¬ (1703836604 = 1703836604)) by omega)) (fun _ => ?_)
  refine q_load (v := (0, 9, 0)) (p2 := 15) rfl rfl rfl rfl ?_
  exact q_retv (v := (0, 9, 0)) rfl rfl (⟨rfl, rfl, rfl, rfl, rfl⟩)
theorem zc_x_inv_6 {d n sl : Nat} {φ : FH} {tot : Nat} {at_ : Nat} {pl : Nat} {va : Nat} {fa : Nat} {fp : Nat} {sf : Nat} {sp : Nat} {no : Nat} {K : Nat → Nat} {P : Nat → Nat} {V : Nat → Nat} {top : Nat} {hid : Nat} {lc : Nat} {slo : Nat} {own : Nat} {sk : Nat} {co : Nat → Nat} {pp : Nat} {w1 : Nat} (hT : zq_T φ tot at_ 73 pl va fa fp sf sp no 0 K P V) (hE : zq_E φ 1 top hid lc slo own sk) (hC : zq_co φ co) (hS : x_sch φ) (hN : zq_nm φ) (hc0 : no < 400) (hc1 : top < 10000) (hc2 : at_ + 4 < tot ∧ tot ≤ 3002) (hc3 : K (at_ + 1) = 82) (hc4 : K (at_ + 2) = 2) (hc5 : V (at_ + 2) = w1) (hc6 : w1 < 2147483648) (hc7 : K (at_ + 3) = 74) (hc8 : K (at_ + 4) = 0) : x_f x_P (d + 9) 331 [(6, 232, 0), (2, 6, 0), (11, 0, 0), (0, pp, 0), (11, 0, 0), (11, 0, 0), (11, 0, 0)] φ n sl (x_vR n sl (fun φ2 => zq_T φ2 tot (at_ + 4) 0 (P (at_ + 4)) (V (at_ + 4)) fa fp sf sp (no + 1) 0 K P V ∧ zq_E φ2 1 (top + 6) hid lc slo own sk ∧ zq_co φ2 (x_s (x_s (x_s (x_s (x_s (x_s (x_s co top 1) (top + 1) 0) (top + 1) 1) (top + 2) 7) (top + 3) w1) (top + 4) 20) (top + 5) 0) ∧ ∀ j, j ≠ 2 → j ≠ 232 → j ≠ 450 → φ2 j = φ j)) := by
  refine x_f_of rfl ?_
  refine q_load (v := (6, 232, 0)) (p2 := 1) rfl rfl rfl rfl ?_
  refine q_getv (v := (6, 2, 0)) (p2 := 2) rfl hE (by decide) rfl rfl ?_
  refine q_callvE (xs := [(6, 2, 0)]) (p2 := 3) rfl rfl rfl rfl (x_rcv_s 2 hT.1) rfl (zc_t_open hT (by omega)) (Nat.le_refl _) (Nat.le_refl _) rfl (fun φ1 hR1 => ?_)
  obtain ⟨hs1_0, fr1⟩ := hR1
  refine q_load (v := (6, 232, 0)) (p2 := 4) rfl rfl rfl rfl ?_
  have hm2 := (zq_E_at hE (fr1 232 (by decide)))
  refine q_getv (v := (6, 2, 0)) (p2 := 5) rfl hm2 (by decide) rfl rfl ?_
  refine q_callvE (xs := [(6, 2, 0)]) (p2 := 6) rfl rfl rfl rfl (x_rcv_s 2 hs1_0.1) rfl (zc_t_adv hs1_0 (by omega) (by omega) hc3 rfl rfl) (Nat.le_refl _) (Nat.le_refl _) rfl (fun φ3 hR3 => ?_)
  obtain ⟨hs3_0, fr3⟩ := hR3
  refine q_const (p2 := 7) rfl rfl ?_
  refine q_store (loc2 := [(6, 232, 0), (2, 6, 0), (11, 0, 0), (0, pp, 0), (0, 0, 0), (11, 0, 0), (11, 0, 0)]) (p2 := 8) rfl rfl rfl rfl rfl ?_
  refine q_load (v := (6, 232, 0)) (p2 := 9) rfl rfl rfl rfl ?_
  have hm4 := (zq_E_at hm2 (fr3 232 (by decide)))
  refine q_getv (v := (6, 2, 0)) (p2 := 10) rfl hm4 (by decide) rfl rfl ?_
  refine q_const (p2 := 11) rfl rfl ?_
  refine q_callr (xs := [(0, 74, 0), (6, 2, 0)]) (p2 := 12) rfl rfl rfl rfl (x_rcv_s 2 hs3_0.1) rfl (zc_t_is_0 hs3_0 (by omega) (by omega)) (Nat.le_refl _) (Nat.le_refl _) rfl ?_
  refine q_if0_s (p2 := 13) rfl (by decide) (by omega) rfl (fun hb => absurd hb (show ¬ (¬ (0 = 0)) by omega)) (fun _ => ?_)
  refine q_load (v := (6, 232, 0)) (p2 := 14) rfl rfl rfl rfl ?_
  have hm5 := (zq_co_at hC ((fr3 450 (by decide)).trans (fr1 450 (by decide))))
  have hm6 := (x_sch_at hS (fun j h1 h2 => ((fr3 j (by omega)).trans (fr1 j (by omega)))))
  refine q_callvE (xs := [(6, 232, 0)]) (p2 := 15) rfl rfl rfl rfl (x_rcv_s 232 hm4) rfl (zc_x_exp82_74 hs3_0 hm4 hm5 hm6 (by omega) (by omega) (by omega) hc4 hc5 (by omega) hc7) (Nat.le_refl _) (Nat.le_refl _) rfl (fun φ7 hR7 => ?_)
  obtain ⟨hs7_0, hs7_1, hs7_2, fr7⟩ := hR7
  refine q_iinc (z := 1) (loc2 := [(6, 232, 0), (2, 6, 0), (11, 0, 0), (0, pp, 0), (0, 1, 0), (11, 0, 0), (11, 0, 0)]) (p2 := 16) rfl rfl (by decide) rfl rfl ?_
  refine q_const (p2 := 17) rfl rfl ?_
  refine q_store (loc2 := [(6, 232, 0), (2, 6, 0), (11, 0, 0), (0, pp, 0), (0, 1, 0), (0, 0, 0), (11, 0, 0)]) (p2 := 18) rfl rfl rfl rfl rfl ?_
  refine q_load (v := (0, 0, 0)) (p2 := 19) rfl rfl rfl rfl ?_
  refine q_const (p2 := 20) rfl rfl ?_
  refine q_icmp_s (p2 := 21) rfl (by decide) (by omega) (by omega) rfl (fun hb => absurd hb (show ¬ (¬ (0 < 1000000)) by omega)) (fun _ => ?_)
  refine q_load (v := (6, 232, 0)) (p2 := 22) rfl rfl rfl rfl ?_
  refine q_getv (v := (6, 2, 0)) (p2 := 23) rfl hs7_1 (by decide) rfl rfl ?_
  refine q_const (p2 := 24) rfl rfl ?_
  refine q_callr (xs := [(0, 77, 0), (6, 2, 0)]) (p2 := 25) rfl rfl rfl rfl (x_rcv_s 2 hs7_0.1) rfl (zc_t_is_0 hs7_0 (by omega) (by omega)) (Nat.le_refl _) (Nat.le_refl _) rfl ?_
  refine q_if0_s (p2 := 26) rfl (by decide) (by omega) rfl (fun _ => ?_) (fun hb => absurd (show 0 = 0 by omega) hb)
  refine q_load (v := (6, 232, 0)) (p2 := 35) rfl rfl rfl rfl ?_
  refine q_getv (v := (6, 2, 0)) (p2 := 36) rfl hs7_1 (by decide) rfl rfl ?_
  refine q_const (p2 := 37) rfl rfl ?_
  refine q_callvE (xs := [(0, 74, 0), (6, 2, 0)]) (p2 := 38) rfl rfl rfl rfl (x_rcv_s 2 hs7_0.1) rfl (zc_t_exp hs7_0 (by omega) (by omega) hc8 rfl rfl) (Nat.le_refl _) (Nat.le_refl _) rfl (fun φ8 hR8 => ?_)
  obtain ⟨hs8_0, fr8⟩ := hR8
  refine q_load (v := (6, 232, 0)) (p2 := 39) rfl rfl rfl rfl ?_
  have hm9 := (zq_E_at hs7_1 (fr8 232 (by decide)))
  refine q_getv (v := (6, 2, 0)) (p2 := 40) rfl hm9 (by decide) rfl rfl ?_
  refine q_callvE (xs := [(6, 2, 0)]) (p2 := 41) rfl rfl rfl rfl (x_rcv_s 2 hs8_0.1) rfl (zc_t_close hs8_0 (by omega)) (Nat.le_refl _) (Nat.le_refl _) rfl (fun φ10 hR10 => ?_)
  obtain ⟨hs10_0, fr10⟩ := hR10
  refine q_load (v := (6, 232, 0)) (p2 := 42) rfl rfl rfl rfl ?_
  have hm11 := (zq_E_at hm9 (fr10 232 (by decide)))
  refine q_getv (v := (0, 1, 0)) (p2 := 43) rfl hm11 (by decide) rfl rfl ?_
  refine q_if0_s (p2 := 44) rfl (by decide) (by omega) rfl (fun _ => ?_) (fun hb => absurd (show ¬ (1 = 0) by omega) hb)
  refine q_load (v := (6, 232, 0)) (p2 := 46) rfl rfl rfl rfl ?_
  refine q_getv (v := (6, 237, 0)) (p2 := 47) rfl hm11 (by decide) rfl rfl ?_
  refine q_const (p2 := 48) rfl rfl ?_
  refine q_load (v := (2, 6, 0)) (p2 := 49) rfl rfl rfl rfl ?_
  have hm12 := (x_sch_at hm6 (fun j h1 h2 => ((fr10 j (by omega)).trans ((fr8 j (by omega)).trans (fr7 j (by omega) (by omega) (by omega))))))
  have hm13 := (zq_nm_at hN ((fr10 239 (by decide)).trans ((fr8 239 (by decide)).trans ((fr7 239 (by decide) (by decide) (by decide)).trans ((fr3 239 (by decide)).trans (fr1 239 (by decide)))))) ((fr10 242 (by decide)).trans ((fr8 242 (by decide)).trans ((fr7 242 (by decide) (by decide) (by decide)).trans ((fr3 242 (by decide)).trans (fr1 242 (by decide)))))) ((fr10 244 (by decide)).trans ((fr8 244 (by decide)).trans ((fr7 244 (by decide) (by decide) (by decide)).trans ((fr3 244 (by decide)).trans (fr1 244 (by decide)))))))
  refine q_callr (xs := [(2, 6, 0), (0, 4, 0), (6, 237, 0)]) (p2 := 50) rfl rfl rfl rfl (x_rcv_s 237 hm12.1.choose_spec.1) rfl (zc_s_find4_6 hm12 hm13) (Nat.le_refl _) (Nat.le_refl _) rfl ?_
  refine q_store (loc2 := [(6, 232, 0), (2, 6, 0), (11, 0, 0), (0, pp, 0), (0, 1, 0), (0, 0, 0), (11, 0, 0)]) (p2 := 51) rfl rfl rfl rfl rfl ?_
  refine q_load (v := (6, 232, 0)) (p2 := 52) rfl rfl rfl rfl ?_
  refine q_getv (v := (6, 237, 0)) (p2 := 53) rfl hm11 (by decide) rfl rfl ?_
  refine q_load (v := (2, 6, 0)) (p2 := 54) rfl rfl rfl rfl ?_
  refine q_callr (xs := [(2, 6, 0), (6, 237, 0)]) (p2 := 55) rfl rfl rfl rfl (x_rcv_s 237 hm12.1.choose_spec.1) rfl (zc_s_fb_6 hm12 hm13) (Nat.le_refl _) (Nat.le_refl _) rfl ?_
  refine q_store (loc2 := [(6, 232, 0), (2, 6, 0), (11, 0, 0), (0, pp, 0), (0, 1, 0), (0, 0, 0), (0, 4294967293, 0)]) (p2 := 56) rfl rfl rfl rfl rfl ?_
  refine q_load (v := (0, 0, 0)) (p2 := 57) rfl rfl rfl rfl ?_
  refine q_if0_s (p2 := 58) rfl (by decide) (by omega) rfl (fun hb => absurd hb (show ¬ (0 < 0) by omega)) (fun _ => ?_)
  refine q_load (v := (6, 232, 0)) (p2 := 59) rfl rfl rfl rfl ?_
  refine q_getv (v := (6, 237, 0)) (p2 := 60) rfl hm11 (by decide) rfl rfl ?_
  refine q_getv (v := (6, 441, 0)) (p2 := 61) rfl hm12.1.choose_spec.1 (by decide) hm12.1.choose_spec.2.2.2.2.2.2.2.2.2.2.1 rfl ?_
  refine q_load (v := (0, 0, 0)) (p2 := 62) rfl rfl rfl rfl ?_
  refine q_aldv (v := (6, 442, 0)) (p2 := 63) rfl (x_sc_441 hm12) (by omega) (by omega) rfl rfl ?_
  refine q_const (p2 := 64) rfl rfl ?_
  refine q_aldv (v := (0, 1, 0)) (p2 := 65) rfl (x_sc_442 hm12) (by omega) (by omega) rfl rfl ?_
  refine q_load (v := (0, 1, 0)) (p2 := 66) rfl rfl rfl rfl ?_
  refine q_icmp_s (p2 := 67) rfl (by decide) (by omega) (by omega) rfl (fun hb => absurd hb (show ¬ (¬ (1 = 1)) by omega)) (fun _ => ?_)
  refine q_load (v := (6, 232, 0)) (p2 := 68) rfl rfl rfl rfl ?_
  refine q_const (p2 := 69) rfl rfl ?_
  refine q_load (v := (0, 0, 0)) (p2 := 70) rfl rfl rfl rfl ?_
  have hm14 := (zq_co_at hs7_2 ((fr10 450 (by decide)).trans (fr8 450 (by decide))))
  refine q_callvE (xs := [(0, 0, 0), (0, 20, 0), (6, 232, 0)]) (p2 := 71) rfl rfl rfl rfl (x_rcv_s 232 hm11) rfl (zc_x_em2 hm11 hm14 hm12 (by omega)) (Nat.le_refl _) (Nat.le_refl _) rfl (fun φ15 hR15 => ?_)
  obtain ⟨hs15_0, hs15_1, fr15⟩ := hR15
  refine q_goto rfl ?_
  have hm16 := (zq_T_at hs10_0 (fr15 2 (by decide) (by decide)) (fr15 3 (by decide) (by decide)) (fr15 4 (by decide) (by decide)) (fr15 5 (by decide) (by decide)) (fr15 6 (by decide) (by decide)))
  exact q_ret rfl (⟨rfl, rfl, rfl, hm16, hs15_0, hs15_1, fun j hj0 hj1 hj2 => ((fr15 j (by omega) (by omega)).trans ((fr10 j (by omega)).trans ((fr8 j (by omega)).trans ((fr7 j (by omega) (by omega) (by omega)).trans ((fr3 j (by omega)).trans (fr1 j (by omega)))))))⟩)
theorem zc_x_inv_1703836604 {d n sl : Nat} {φ : FH} {tot : Nat} {at_ : Nat} {pl : Nat} {va : Nat} {fa : Nat} {fp : Nat} {sf : Nat} {sp : Nat} {no : Nat} {K : Nat → Nat} {P : Nat → Nat} {V : Nat → Nat} {top : Nat} {hid : Nat} {lc : Nat} {slo : Nat} {own : Nat} {sk : Nat} {co : Nat → Nat} {pp : Nat} {w1 : Nat} (hT : zq_T φ tot at_ 73 pl va fa fp sf sp no 0 K P V) (hE : zq_E φ 1 top hid lc slo own sk) (hC : zq_co φ co) (hS : x_sch φ) (hN : zq_nm φ) (hc0 : no < 400) (hc1 : top < 10000) (hc2 : at_ + 4 < tot ∧ tot ≤ 3002) (hc3 : K (at_ + 1) = 82) (hc4 : K (at_ + 2) = 2) (hc5 : V (at_ + 2) = w1) (hc6 : w1 < 2147483648) (hc7 : K (at_ + 3) = 74) (hc8 : K (at_ + 4) = 0) : x_f x_P (d + 9) 331 [(6, 232, 0), (2, 1703836604, 0), (11, 0, 0), (0, pp, 0), (11, 0, 0), (11, 0, 0), (11, 0, 0)] φ n sl (x_vR n sl (fun φ2 => zq_T φ2 tot (at_ + 4) 0 (P (at_ + 4)) (V (at_ + 4)) fa fp sf sp (no + 1) 0 K P V ∧ zq_E φ2 1 (top + 6) hid lc slo own sk ∧ zq_co φ2 (x_s (x_s (x_s (x_s (x_s (x_s (x_s co top 1) (top + 1) 0) (top + 1) 1) (top + 2) 7) (top + 3) w1) (top + 4) 19) (top + 5) 9) ∧ ∀ j, j ≠ 2 → j ≠ 232 → j ≠ 450 → φ2 j = φ j)) := by
  refine x_f_of rfl ?_
  refine q_load (v := (6, 232, 0)) (p2 := 1) rfl rfl rfl rfl ?_
  refine q_getv (v := (6, 2, 0)) (p2 := 2) rfl hE (by decide) rfl rfl ?_
  refine q_callvE (xs := [(6, 2, 0)]) (p2 := 3) rfl rfl rfl rfl (x_rcv_s 2 hT.1) rfl (zc_t_open hT (by omega)) (Nat.le_refl _) (Nat.le_refl _) rfl (fun φ1 hR1 => ?_)
  obtain ⟨hs1_0, fr1⟩ := hR1
  refine q_load (v := (6, 232, 0)) (p2 := 4) rfl rfl rfl rfl ?_
  have hm2 := (zq_E_at hE (fr1 232 (by decide)))
  refine q_getv (v := (6, 2, 0)) (p2 := 5) rfl hm2 (by decide) rfl rfl ?_
  refine q_callvE (xs := [(6, 2, 0)]) (p2 := 6) rfl rfl rfl rfl (x_rcv_s 2 hs1_0.1) rfl (zc_t_adv hs1_0 (by omega) (by omega) hc3 rfl rfl) (Nat.le_refl _) (Nat.le_refl _) rfl (fun φ3 hR3 => ?_)
  obtain ⟨hs3_0, fr3⟩ := hR3
  refine q_const (p2 := 7) rfl rfl ?_
  refine q_store (loc2 := [(6, 232, 0), (2, 1703836604, 0), (11, 0, 0), (0, pp, 0), (0, 0, 0), (11, 0, 0), (11, 0, 0)]) (p2 := 8) rfl rfl rfl rfl rfl ?_
  refine q_load (v := (6, 232, 0)) (p2 := 9) rfl rfl rfl rfl ?_
  have hm4 := (zq_E_at hm2 (fr3 232 (by decide)))
  refine q_getv (v := (6, 2, 0)) (p2 := 10) rfl hm4 (by decide) rfl rfl ?_
  refine q_const (p2 := 11) rfl rfl ?_
  refine q_callr (xs := [(0, 74, 0), (6, 2, 0)]) (p2 := 12) rfl rfl rfl rfl (x_rcv_s 2 hs3_0.1) rfl (zc_t_is_0 hs3_0 (by omega) (by omega)) (Nat.le_refl _) (Nat.le_refl _) rfl ?_
  refine q_if0_s (p2 := 13) rfl (by decide) (by omega) rfl (fun hb => absurd hb (show ¬ (¬ (0 = 0)) by omega)) (fun _ => ?_)
  refine q_load (v := (6, 232, 0)) (p2 := 14) rfl rfl rfl rfl ?_
  have hm5 := (zq_co_at hC ((fr3 450 (by decide)).trans (fr1 450 (by decide))))
  have hm6 := (x_sch_at hS (fun j h1 h2 => ((fr3 j (by omega)).trans (fr1 j (by omega)))))
  refine q_callvE (xs := [(6, 232, 0)]) (p2 := 15) rfl rfl rfl rfl (x_rcv_s 232 hm4) rfl (zc_x_exp82_74 hs3_0 hm4 hm5 hm6 (by omega) (by omega) (by omega) hc4 hc5 (by omega) hc7) (Nat.le_refl _) (Nat.le_refl _) rfl (fun φ7 hR7 => ?_)
  obtain ⟨hs7_0, hs7_1, hs7_2, fr7⟩ := hR7
  refine q_iinc (z := 1) (loc2 := [(6, 232, 0), (2, 1703836604, 0), (11, 0, 0), (0, pp, 0), (0, 1, 0), (11, 0, 0), (11, 0, 0)]) (p2 := 16) rfl rfl (by decide) rfl rfl ?_
  refine q_const (p2 := 17) rfl rfl ?_
  refine q_store (loc2 := [(6, 232, 0), (2, 1703836604, 0), (11, 0, 0), (0, pp, 0), (0, 1, 0), (0, 0, 0), (11, 0, 0)]) (p2 := 18) rfl rfl rfl rfl rfl ?_
  refine q_load (v := (0, 0, 0)) (p2 := 19) rfl rfl rfl rfl ?_
  refine q_const (p2 := 20) rfl rfl ?_
  refine q_icmp_s (p2 := 21) rfl (by decide) (by omega) (by omega) rfl (fun hb => absurd hb (show ¬ (¬ (0 < 1000000)) by omega)) (fun _ => ?_)
  refine q_load (v := (6, 232, 0)) (p2 := 22) rfl rfl rfl rfl ?_
  refine q_getv (v := (6, 2, 0)) (p2 := 23) rfl hs7_1 (by decide) rfl rfl ?_
  refine q_const (p2 := 24) rfl rfl ?_
  refine q_callr (xs := [(0, 77, 0), (6, 2, 0)]) (p2 := 25) rfl rfl rfl rfl (x_rcv_s 2 hs7_0.1) rfl (zc_t_is_0 hs7_0 (by omega) (by omega)) (Nat.le_refl _) (Nat.le_refl _) rfl ?_
  refine q_if0_s (p2 := 26) rfl (by decide) (by omega) rfl (fun _ => ?_) (fun hb => absurd (show 0 = 0 by omega) hb)
  refine q_load (v := (6, 232, 0)) (p2 := 35) rfl rfl rfl rfl ?_
  refine q_getv (v := (6, 2, 0)) (p2 := 36) rfl hs7_1 (by decide) rfl rfl ?_
  refine q_const (p2 := 37) rfl rfl ?_
  refine q_callvE (xs := [(0, 74, 0), (6, 2, 0)]) (p2 := 38) rfl rfl rfl rfl (x_rcv_s 2 hs7_0.1) rfl (zc_t_exp hs7_0 (by omega) (by omega) hc8 rfl rfl) (Nat.le_refl _) (Nat.le_refl _) rfl (fun φ8 hR8 => ?_)
  obtain ⟨hs8_0, fr8⟩ := hR8
  refine q_load (v := (6, 232, 0)) (p2 := 39) rfl rfl rfl rfl ?_
  have hm9 := (zq_E_at hs7_1 (fr8 232 (by decide)))
  refine q_getv (v := (6, 2, 0)) (p2 := 40) rfl hm9 (by decide) rfl rfl ?_
  refine q_callvE (xs := [(6, 2, 0)]) (p2 := 41) rfl rfl rfl rfl (x_rcv_s 2 hs8_0.1) rfl (zc_t_close hs8_0 (by omega)) (Nat.le_refl _) (Nat.le_refl _) rfl (fun φ10 hR10 => ?_)
  obtain ⟨hs10_0, fr10⟩ := hR10
  refine q_load (v := (6, 232, 0)) (p2 := 42) rfl rfl rfl rfl ?_
  have hm11 := (zq_E_at hm9 (fr10 232 (by decide)))
  refine q_getv (v := (0, 1, 0)) (p2 := 43) rfl hm11 (by decide) rfl rfl ?_
  refine q_if0_s (p2 := 44) rfl (by decide) (by omega) rfl (fun _ => ?_) (fun hb => absurd (show ¬ (1 = 0) by omega) hb)
  refine q_load (v := (6, 232, 0)) (p2 := 46) rfl rfl rfl rfl ?_
  refine q_getv (v := (6, 237, 0)) (p2 := 47) rfl hm11 (by decide) rfl rfl ?_
  refine q_const (p2 := 48) rfl rfl ?_
  refine q_load (v := (2, 1703836604, 0)) (p2 := 49) rfl rfl rfl rfl ?_
  have hm12 := (x_sch_at hm6 (fun j h1 h2 => ((fr10 j (by omega)).trans ((fr8 j (by omega)).trans (fr7 j (by omega) (by omega) (by omega))))))
  have hm13 := (zq_nm_at hN ((fr10 239 (by decide)).trans ((fr8 239 (by decide)).trans ((fr7 239 (by decide) (by decide) (by decide)).trans ((fr3 239 (by decide)).trans (fr1 239 (by decide)))))) ((fr10 242 (by decide)).trans ((fr8 242 (by decide)).trans ((fr7 242 (by decide) (by decide) (by decide)).trans ((fr3 242 (by decide)).trans (fr1 242 (by decide)))))) ((fr10 244 (by decide)).trans ((fr8 244 (by decide)).trans ((fr7 244 (by decide) (by decide) (by decide)).trans ((fr3 244 (by decide)).trans (fr1 244 (by decide)))))))
  refine q_callr (xs := [(2, 1703836604, 0), (0, 4, 0), (6, 237, 0)]) (p2 := 50) rfl rfl rfl rfl (x_rcv_s 237 hm12.1.choose_spec.1) rfl (zc_s_find4_1703836604 hm12 hm13) (Nat.le_refl _) (Nat.le_refl _) rfl ?_
  refine q_store (loc2 := [(6, 232, 0), (2, 1703836604, 0), (11, 0, 0), (0, pp, 0), (0, 1, 0), (0, 4294967293, 0), (11, 0, 0)]) (p2 := 51) rfl rfl rfl rfl rfl ?_
  refine q_load (v := (6, 232, 0)) (p2 := 52) rfl rfl rfl rfl ?_
  refine q_getv (v := (6, 237, 0)) (p2 := 53) rfl hm11 (by decide) rfl rfl ?_
  refine q_load (v := (2, 1703836604, 0)) (p2 := 54) rfl rfl rfl rfl ?_
  refine q_callr (xs := [(2, 1703836604, 0), (6, 237, 0)]) (p2 := 55) rfl rfl rfl rfl (x_rcv_s 237 hm12.1.choose_spec.1) rfl (zc_s_fb_1703836604 hm12 hm13) (Nat.le_refl _) (Nat.le_refl _) rfl ?_
  refine q_store (loc2 := [(6, 232, 0), (2, 1703836604, 0), (11, 0, 0), (0, pp, 0), (0, 1, 0), (0, 4294967293, 0), (0, 9, 0)]) (p2 := 56) rfl rfl rfl rfl rfl ?_
  refine q_load (v := (0, 4294967293, 0)) (p2 := 57) rfl rfl rfl rfl ?_
  refine q_if0 (p2 := 58) rfl (by decide) rfl (fun _ => ?_) (fun hb => absurd (show 2147483645 < 2147483648 by decide) hb)
  refine q_load (v := (0, 9, 0)) (p2 := 73) rfl rfl rfl rfl ?_
  refine q_if0_s (p2 := 74) rfl (by decide) (by omega) rfl (fun hb => absurd hb (show ¬ (9 < 0) by omega)) (fun _ => ?_)
  refine q_load (v := (0, 1, 0)) (p2 := 75) rfl rfl rfl rfl ?_
  refine q_load (v := (0, 9, 0)) (p2 := 76) rfl rfl rfl rfl ?_
  refine q_const (p2 := 77) rfl rfl ?_
  refine q_icmp_s (p2 := 78) rfl (by decide) (by omega) (by omega) rfl (fun hb => absurd hb (show ¬ (¬ (9 < 11)) by omega)) (fun _ => ?_)
  refine q_const (p2 := 79) rfl rfl ?_
  refine q_goto rfl ?_
  refine q_icmp_s (p2 := 82) rfl (by decide) (by omega) (by omega) rfl (fun hb => absurd hb (show ¬ (¬ (1 = 1)) by omega)) (fun _ => ?_)
  refine q_load (v := (6, 232, 0)) (p2 := 83) rfl rfl rfl rfl ?_
  refine q_const (p2 := 84) rfl rfl ?_
  refine q_load (v := (0, 9, 0)) (p2 := 85) rfl rfl rfl rfl ?_
  have hm14 := (zq_co_at hs7_2 ((fr10 450 (by decide)).trans (fr8 450 (by decide))))
  refine q_callvE (xs := [(0, 9, 0), (0, 19, 0), (6, 232, 0)]) (p2 := 86) rfl rfl rfl rfl (x_rcv_s 232 hm11) rfl (zc_x_em2 hm11 hm14 hm12 (by omega)) (Nat.le_refl _) (Nat.le_refl _) rfl (fun φ15 hR15 => ?_)
  obtain ⟨hs15_0, hs15_1, fr15⟩ := hR15
  refine q_goto rfl ?_
  have hm16 := (zq_T_at hs10_0 (fr15 2 (by decide) (by decide)) (fr15 3 (by decide) (by decide)) (fr15 4 (by decide) (by decide)) (fr15 5 (by decide) (by decide)) (fr15 6 (by decide) (by decide)))
  exact q_ret rfl (⟨rfl, rfl, rfl, hm16, hs15_0, hs15_1, fun j hj0 hj1 hj2 => ((fr15 j (by omega) (by omega)).trans ((fr10 j (by omega)).trans ((fr8 j (by omega)).trans ((fr7 j (by omega) (by omega) (by omega)).trans ((fr3 j (by omega)).trans (fr1 j (by omega)))))))⟩)
theorem zc_x_named_call {d n sl : Nat} {φ : FH} {pl : Nat} {fp : Nat} {sp : Nat} {K : Nat → Nat} {P : Nat → Nat} {V : Nat → Nat} {top : Nat} {hid : Nat} {lc : Nat} {slo : Nat} {own : Nat} {sk : Nat} {co : Nat → Nat} {w1 : Nat} {st : Nat} {cv : Nat} (hT : zq_T φ 6 0 1 pl 6 0 fp 0 sp 0 0 K P V) (hE : zq_E φ 1 top hid lc slo own sk) (hC : zq_co φ co) (hS : x_sch φ) (hN : zq_nm φ) (hc0 : top < 1000) (hc1 : st < 1000) (hc2 : co (st + 1) = cv) (hc3 : cv < 100) (hc4 : K 1 = 73) (hc5 : K 2 = 82) (hc6 : K 3 = 2) (hc7 : V 3 = w1) (hc8 : K 4 = 74) (hc9 : K 5 = 0) (hc10 : w1 < 2147483648) : x_f x_P (d + 10) 328 [(6, 232, 0), (0, st, 0), (11, 0, 0), (11, 0, 0), (11, 0, 0)] φ n sl (x_vR n sl (fun φ2 => zq_T φ2 6 5 0 (P 5) (V 5) 0 fp 0 sp 2 0 K P V ∧ zq_E φ2 1 (top + 6) hid lc slo own sk ∧ zq_co φ2 (x_s (x_s (x_s (x_s (x_s (x_s (x_s (x_s co (st + 1) (cv + 1)) top 1) (top + 1) 0) (top + 1) 1) (top + 2) 7) (top + 3) w1) (top + 4) 20) (top + 5) 0) ∧ ∀ j, j ≠ 2 → j ≠ 232 → j ≠ 450 → φ2 j = φ j)) := by
  refine x_f_of rfl ?_
  refine q_load (v := (6, 232, 0)) (p2 := 1) rfl rfl rfl rfl ?_
  refine q_getv (v := (6, 2, 0)) (p2 := 2) rfl hE (by decide) rfl rfl ?_
  refine q_getv (v := (2, 6, 0)) (p2 := 3) rfl hT.1 (by decide) rfl rfl ?_
  refine q_store2 (loc2 := [(6, 232, 0), (0, st, 0), (2, 6, 0), (11, 0, 0), (11, 0, 0)]) (p2 := 4) rfl rfl rfl rfl rfl ?_
  refine q_load (v := (6, 232, 0)) (p2 := 5) rfl rfl rfl rfl ?_
  refine q_getv (v := (6, 2, 0)) (p2 := 6) rfl hE (by decide) rfl rfl ?_
  refine q_getv (v := (0, pl, 0)) (p2 := 7) rfl hT.1 (by decide) rfl rfl ?_
  refine q_store (loc2 := [(6, 232, 0), (0, st, 0), (2, 6, 0), (11, 0, 0), (0, pl, 0)]) (p2 := 8) rfl rfl rfl rfl rfl ?_
  refine q_load (v := (6, 232, 0)) (p2 := 9) rfl rfl rfl rfl ?_
  refine q_load (v := (0, st, 0)) (p2 := 10) rfl rfl rfl rfl ?_
  refine q_callvE (xs := [(0, st, 0), (6, 232, 0)]) (p2 := 11) rfl rfl rfl rfl (x_rcv_s 232 hE) rfl (zc_x_oper hT hE hC hS (by omega) hc2 (by omega) (by omega) (by omega) (by omega) hc4 rfl rfl) (Nat.le_refl _) (Nat.le_refl _) rfl (fun φ1 hR1 => ?_)
  obtain ⟨hs1_0, hs1_1, fr1⟩ := hR1
  refine q_load (v := (6, 232, 0)) (p2 := 12) rfl rfl rfl rfl ?_
  have hm2 := (zq_E_at hE (fr1 232 (by decide) (by decide)))
  refine q_getv (v := (6, 2, 0)) (p2 := 13) rfl hm2 (by decide) rfl rfl ?_
  refine q_const (p2 := 14) rfl rfl ?_
  refine q_callr (xs := [(0, 73, 0), (6, 2, 0)]) (p2 := 15) rfl rfl rfl rfl (x_rcv_s 2 hs1_0.1) rfl (zc_t_is_1 hs1_0 (by omega) (by omega)) (Nat.le_refl _) (Nat.le_refl _) rfl ?_
  refine q_if0_s (p2 := 16) rfl (by decide) (by omega) rfl (fun hb => absurd hb (show ¬ (1 = 0) by omega)) (fun _ => ?_)
  refine q_load (v := (6, 232, 0)) (p2 := 17) rfl rfl rfl rfl ?_
  refine q_load (v := (2, 6, 0)) (p2 := 18) rfl rfl rfl rfl ?_
  refine q_load (v := (0, pl, 0)) (p2 := 19) rfl rfl rfl rfl ?_
  have hm3 := (x_sch_at hS (fun j h1 h2 => (fr1 j (by omega) (by omega))))
  have hm4 := (zq_nm_at hN (fr1 239 (by decide) (by decide)) (fr1 242 (by decide) (by decide)) (fr1 244 (by decide) (by decide)))
  refine q_callvE (xs := [(0, pl, 0), (2, 6, 0), (6, 232, 0)]) (p2 := 20) rfl rfl rfl rfl (x_rcv_s 232 hm2) rfl (zc_x_inv_6 hs1_0 hm2 hs1_1 hm3 hm4 (by omega) (by omega) (by omega) hc5 hc6 hc7 (by omega) hc8 hc9) (Nat.le_refl _) (Nat.le_refl _) rfl (fun φ5 hR5 => ?_)
  obtain ⟨hs5_0, hs5_1, hs5_2, fr5⟩ := hR5
  refine q_goto rfl ?_
  exact q_ret rfl (⟨rfl, rfl, rfl, hs5_0, hs5_1, hs5_2, fun j hj0 hj1 hj2 => ((fr5 j (by omega) (by omega) (by omega)).trans (fr1 j (by omega) (by omega)))⟩)
theorem zc_x_named_used {d n sl : Nat} {φ : FH} {pl : Nat} {fp : Nat} {sp : Nat} {K : Nat → Nat} {P : Nat → Nat} {V : Nat → Nat} {top : Nat} {hid : Nat} {lc : Nat} {slo : Nat} {own : Nat} {sk : Nat} {co : Nat → Nat} {w1 : Nat} {st : Nat} {cv : Nat} (hT : zq_T φ 6 0 1 pl 1703836604 0 fp 0 sp 0 0 K P V) (hE : zq_E φ 1 top hid lc slo own sk) (hC : zq_co φ co) (hS : x_sch φ) (hN : zq_nm φ) (hc0 : top < 1000) (hc1 : st < 1000) (hc2 : co (st + 1) = cv) (hc3 : cv < 100) (hc4 : K 1 = 73) (hc5 : K 2 = 82) (hc6 : K 3 = 2) (hc7 : V 3 = w1) (hc8 : K 4 = 74) (hc9 : K 5 = 0) (hc10 : w1 < 2147483648) : x_f x_P (d + 10) 328 [(6, 232, 0), (0, st, 0), (11, 0, 0), (11, 0, 0), (11, 0, 0)] φ n sl (x_vR n sl (fun φ2 => zq_T φ2 6 5 0 (P 5) (V 5) 0 fp 0 sp 2 0 K P V ∧ zq_E φ2 1 (top + 6) hid lc slo own sk ∧ zq_co φ2 (x_s (x_s (x_s (x_s (x_s (x_s (x_s (x_s co (st + 1) (cv + 1)) top 1) (top + 1) 0) (top + 1) 1) (top + 2) 7) (top + 3) w1) (top + 4) 19) (top + 5) 9) ∧ ∀ j, j ≠ 2 → j ≠ 232 → j ≠ 450 → φ2 j = φ j)) := by
  refine x_f_of rfl ?_
  refine q_load (v := (6, 232, 0)) (p2 := 1) rfl rfl rfl rfl ?_
  refine q_getv (v := (6, 2, 0)) (p2 := 2) rfl hE (by decide) rfl rfl ?_
  refine q_getv (v := (2, 1703836604, 0)) (p2 := 3) rfl hT.1 (by decide) rfl rfl ?_
  refine q_store2 (loc2 := [(6, 232, 0), (0, st, 0), (2, 1703836604, 0), (11, 0, 0), (11, 0, 0)]) (p2 := 4) rfl rfl rfl rfl rfl ?_
  refine q_load (v := (6, 232, 0)) (p2 := 5) rfl rfl rfl rfl ?_
  refine q_getv (v := (6, 2, 0)) (p2 := 6) rfl hE (by decide) rfl rfl ?_
  refine q_getv (v := (0, pl, 0)) (p2 := 7) rfl hT.1 (by decide) rfl rfl ?_
  refine q_store (loc2 := [(6, 232, 0), (0, st, 0), (2, 1703836604, 0), (11, 0, 0), (0, pl, 0)]) (p2 := 8) rfl rfl rfl rfl rfl ?_
  refine q_load (v := (6, 232, 0)) (p2 := 9) rfl rfl rfl rfl ?_
  refine q_load (v := (0, st, 0)) (p2 := 10) rfl rfl rfl rfl ?_
  refine q_callvE (xs := [(0, st, 0), (6, 232, 0)]) (p2 := 11) rfl rfl rfl rfl (x_rcv_s 232 hE) rfl (zc_x_oper hT hE hC hS (by omega) hc2 (by omega) (by omega) (by omega) (by omega) hc4 rfl rfl) (Nat.le_refl _) (Nat.le_refl _) rfl (fun φ1 hR1 => ?_)
  obtain ⟨hs1_0, hs1_1, fr1⟩ := hR1
  refine q_load (v := (6, 232, 0)) (p2 := 12) rfl rfl rfl rfl ?_
  have hm2 := (zq_E_at hE (fr1 232 (by decide) (by decide)))
  refine q_getv (v := (6, 2, 0)) (p2 := 13) rfl hm2 (by decide) rfl rfl ?_
  refine q_const (p2 := 14) rfl rfl ?_
  refine q_callr (xs := [(0, 73, 0), (6, 2, 0)]) (p2 := 15) rfl rfl rfl rfl (x_rcv_s 2 hs1_0.1) rfl (zc_t_is_1 hs1_0 (by omega) (by omega)) (Nat.le_refl _) (Nat.le_refl _) rfl ?_
  refine q_if0_s (p2 := 16) rfl (by decide) (by omega) rfl (fun hb => absurd hb (show ¬ (1 = 0) by omega)) (fun _ => ?_)
  refine q_load (v := (6, 232, 0)) (p2 := 17) rfl rfl rfl rfl ?_
  refine q_load (v := (2, 1703836604, 0)) (p2 := 18) rfl rfl rfl rfl ?_
  refine q_load (v := (0, pl, 0)) (p2 := 19) rfl rfl rfl rfl ?_
  have hm3 := (x_sch_at hS (fun j h1 h2 => (fr1 j (by omega) (by omega))))
  have hm4 := (zq_nm_at hN (fr1 239 (by decide) (by decide)) (fr1 242 (by decide) (by decide)) (fr1 244 (by decide) (by decide)))
  refine q_callvE (xs := [(0, pl, 0), (2, 1703836604, 0), (6, 232, 0)]) (p2 := 20) rfl rfl rfl rfl (x_rcv_s 232 hm2) rfl (zc_x_inv_1703836604 hs1_0 hm2 hs1_1 hm3 hm4 (by omega) (by omega) (by omega) hc5 hc6 hc7 (by omega) hc8 hc9) (Nat.le_refl _) (Nat.le_refl _) rfl (fun φ5 hR5 => ?_)
  obtain ⟨hs5_0, hs5_1, hs5_2, fr5⟩ := hR5
  refine q_goto rfl ?_
  exact q_ret rfl (⟨rfl, rfl, rfl, hs5_0, hs5_1, hs5_2, fun j hj0 hj1 hj2 => ((fr5 j (by omega) (by omega) (by omega)).trans (fr1 j (by omega) (by omega)))⟩)
theorem zc_x_base_call {d n sl : Nat} {φ : FH} {pl : Nat} {fp : Nat} {sp : Nat} {K : Nat → Nat} {P : Nat → Nat} {V : Nat → Nat} {top : Nat} {hid : Nat} {lc : Nat} {slo : Nat} {own : Nat} {sk : Nat} {co : Nat → Nat} {w1 : Nat} {st : Nat} {cv : Nat} (hT : zq_T φ 6 0 1 pl 6 0 fp 0 sp 0 0 K P V) (hE : zq_E φ 1 top hid lc slo own sk) (hC : zq_co φ co) (hS : x_sch φ) (hN : zq_nm φ) (hc0 : top < 1000) (hc1 : st < 1000) (hc2 : co (st + 1) = cv) (hc3 : cv < 100) (hc4 : K 1 = 73) (hc5 : K 2 = 82) (hc6 : K 3 = 2) (hc7 : V 3 = w1) (hc8 : K 4 = 74) (hc9 : K 5 = 0) (hc10 : w1 < 2147483648) : x_f x_P (d + 11) 324 [(6, 232, 0), (0, st, 0), (11, 0, 0), (11, 0, 0), (11, 0, 0), (11, 0, 0)] φ n sl (x_vR n sl (fun φ2 => zq_T φ2 6 5 0 (P 5) (V 5) 0 fp 0 sp 2 0 K P V ∧ zq_E φ2 1 (top + 6) hid lc slo own sk ∧ zq_co φ2 (x_s (x_s (x_s (x_s (x_s (x_s (x_s (x_s co (st + 1) (cv + 1)) top 1) (top + 1) 0) (top + 1) 1) (top + 2) 7) (top + 3) w1) (top + 4) 20) (top + 5) 0) ∧ ∀ j, j ≠ 2 → j ≠ 232 → j ≠ 450 → φ2 j = φ j)) := by
  refine x_f_of rfl ?_
  refine q_load (v := (6, 232, 0)) (p2 := 1) rfl rfl rfl rfl ?_
  refine q_getv (v := (6, 2, 0)) (p2 := 2) rfl hE (by decide) rfl rfl ?_
  refine q_getv (v := (0, 1, 0)) (p2 := 3) rfl hT.1 (by decide) rfl rfl ?_
  refine q_switch (tgt := 38) rfl (by decide) rfl ?_
  refine q_load (v := (6, 232, 0)) (p2 := 39) rfl rfl rfl rfl ?_
  refine q_load (v := (0, st, 0)) (p2 := 40) rfl rfl rfl rfl ?_
  refine q_callvE (xs := [(0, st, 0), (6, 232, 0)]) (p2 := 41) rfl rfl rfl rfl (x_rcv_s 232 hE) rfl (zc_x_named_call hT hE hC hS hN (by omega) (by omega) hc2 (by omega) hc4 hc5 hc6 hc7 hc8 hc9 (by omega)) (Nat.le_refl _) (Nat.le_refl _) rfl (fun φ1 hR1 => ?_)
  obtain ⟨hs1_0, hs1_1, hs1_2, fr1⟩ := hR1
  refine q_goto rfl ?_
  exact q_ret rfl (⟨rfl, rfl, rfl, hs1_0, hs1_1, hs1_2, fun j hj0 hj1 hj2 => (fr1 j (by omega) (by omega) (by omega))⟩)
theorem zc_x_part_call {d n sl : Nat} {φ : FH} {pl : Nat} {fp : Nat} {sp : Nat} {K : Nat → Nat} {P : Nat → Nat} {V : Nat → Nat} {top : Nat} {hid : Nat} {lc : Nat} {slo : Nat} {own : Nat} {sk : Nat} {co : Nat → Nat} {w1 : Nat} {st : Nat} {cv : Nat} (hT : zq_T φ 6 0 1 pl 6 0 fp 0 sp 0 0 K P V) (hE : zq_E φ 1 top hid lc slo own sk) (hC : zq_co φ co) (hS : x_sch φ) (hN : zq_nm φ) (hc0 : top < 1000) (hc1 : st < 1000) (hc2 : co (st + 1) = cv) (hc3 : cv < 100) (hc4 : K 1 = 73) (hc5 : K 2 = 82) (hc6 : K 3 = 2) (hc7 : V 3 = w1) (hc8 : K 4 = 74) (hc9 : K 5 = 0) (hc10 : w1 < 2147483648) : x_f x_P (d + 12) 323 [(6, 232, 0), (0, st, 0), (11, 0, 0)] φ n sl (x_vR n sl (fun φ2 => zq_T φ2 6 5 0 (P 5) (V 5) 0 fp 0 sp 2 0 K P V ∧ zq_E φ2 1 (top + 6) hid lc slo own sk ∧ zq_co φ2 (x_s (x_s (x_s (x_s (x_s (x_s (x_s (x_s co (st + 1) (cv + 1)) top 1) (top + 1) 0) (top + 1) 1) (top + 2) 7) (top + 3) w1) (top + 4) 20) (top + 5) 0) ∧ ∀ j, j ≠ 2 → j ≠ 232 → j ≠ 450 → φ2 j = φ j)) := by
  refine x_f_of rfl ?_
  refine q_load (v := (6, 232, 0)) (p2 := 1) rfl rfl rfl rfl ?_
  refine q_load (v := (0, st, 0)) (p2 := 2) rfl rfl rfl rfl ?_
  refine q_callvE (xs := [(0, st, 0), (6, 232, 0)]) (p2 := 3) rfl rfl rfl rfl (x_rcv_s 232 hE) rfl (zc_x_base_call hT hE hC hS hN (by omega) (by omega) hc2 (by omega) hc4 hc5 hc6 hc7 hc8 hc9 (by omega)) (Nat.le_refl _) (Nat.le_refl _) rfl (fun φ1 hR1 => ?_)
  obtain ⟨hs1_0, hs1_1, hs1_2, fr1⟩ := hR1
  refine q_const (p2 := 4) rfl rfl ?_
  refine q_store (loc2 := [(6, 232, 0), (0, st, 0), (0, 0, 0)]) (p2 := 5) rfl rfl rfl rfl rfl ?_
  refine q_load (v := (0, 0, 0)) (p2 := 6) rfl rfl rfl rfl ?_
  refine q_const (p2 := 7) rfl rfl ?_
  refine q_icmp_s (p2 := 8) rfl (by decide) (by omega) (by omega) rfl (fun hb => absurd hb (show ¬ (¬ (0 < 1000000)) by omega)) (fun _ => ?_)
  refine q_load (v := (6, 232, 0)) (p2 := 9) rfl rfl rfl rfl ?_
  refine q_getv (v := (6, 2, 0)) (p2 := 10) rfl hs1_1 (by decide) rfl rfl ?_
  refine q_const (p2 := 11) rfl rfl ?_
  refine q_callr (xs := [(0, 80, 0), (6, 2, 0)]) (p2 := 12) rfl rfl rfl rfl (x_rcv_s 2 hs1_0.1) rfl (zc_t_is_0 hs1_0 (by omega) (by omega)) (Nat.le_refl _) (Nat.le_refl _) rfl ?_
  refine q_if0_s (p2 := 13) rfl (by decide) (by omega) rfl (fun hb => absurd hb (show ¬ (¬ (0 = 0)) by omega)) (fun _ => ?_)
  refine q_load (v := (6, 232, 0)) (p2 := 14) rfl rfl rfl rfl ?_
  refine q_getv (v := (6, 2, 0)) (p2 := 15) rfl hs1_1 (by decide) rfl rfl ?_
  refine q_const (p2 := 16) rfl rfl ?_
  refine q_callr (xs := [(0, 75, 0), (6, 2, 0)]) (p2 := 17) rfl rfl rfl rfl (x_rcv_s 2 hs1_0.1) rfl (zc_t_is_0 hs1_0 (by omega) (by omega)) (Nat.le_refl _) (Nat.le_refl _) rfl ?_
  refine q_if0_s (p2 := 18) rfl (by decide) (by omega) rfl (fun _ => ?_) (fun hb => absurd (show 0 = 0 by omega) hb)
  exact q_ret rfl (⟨rfl, rfl, rfl, hs1_0, hs1_1, hs1_2, fun j hj0 hj1 hj2 => (fr1 j (by omega) (by omega) (by omega))⟩)
theorem zc_x_fact_call {d n sl : Nat} {φ : FH} {pl : Nat} {fp : Nat} {sp : Nat} {K : Nat → Nat} {P : Nat → Nat} {V : Nat → Nat} {top : Nat} {hid : Nat} {lc : Nat} {slo : Nat} {own : Nat} {sk : Nat} {co : Nat → Nat} {w1 : Nat} (hT : zq_T φ 6 0 1 pl 6 0 fp 0 sp 0 0 K P V) (hE : zq_E φ 1 top hid lc slo own sk) (hC : zq_co φ co) (hS : x_sch φ) (hN : zq_nm φ) (hc0 : top < 900) (hc1 : K 1 = 73) (hc2 : K 2 = 82) (hc3 : K 3 = 2) (hc4 : V 3 = w1) (hc5 : K 4 = 74) (hc6 : K 5 = 0) (hc7 : w1 < 2147483648) : x_f x_P (d + 13) 318 [(6, 232, 0), (11, 0, 0), (11, 0, 0)] φ n sl (x_vR n sl (fun φ2 => zq_T φ2 6 5 0 (P 5) (V 5) 0 fp 0 sp 2 0 K P V ∧ zq_E φ2 1 (top + 8) hid lc slo own sk ∧ zq_co φ2 (x_s (x_s (x_s (x_s (x_s (x_s (x_s (x_s (x_s (x_s co top 1) (top + 1) 0) (top + 1) 1) (top + 2) 1) (top + 3) 0) (top + 3) 1) (top + 4) 7) (top + 5) w1) (top + 6) 20) (top + 7) 0) ∧ ∀ j, j ≠ 2 → j ≠ 232 → j ≠ 450 → φ2 j = φ j)) := by
  refine x_f_of rfl ?_
  refine q_load (v := (6, 232, 0)) (p2 := 1) rfl rfl rfl rfl ?_
  refine q_getv (v := (0, top, 0)) (p2 := 2) rfl hE (by decide) rfl rfl ?_
  refine q_store (loc2 := [(6, 232, 0), (0, top, 0), (11, 0, 0)]) (p2 := 3) rfl rfl rfl rfl rfl ?_
  refine q_load (v := (6, 232, 0)) (p2 := 4) rfl rfl rfl rfl ?_
  refine q_const (p2 := 5) rfl rfl ?_
  refine q_const (p2 := 6) rfl rfl ?_
  refine q_callvE (xs := [(0, 0, 0), (0, 1, 0), (6, 232, 0)]) (p2 := 7) rfl rfl rfl rfl (x_rcv_s 232 hE) rfl (zc_x_em2 hE hC hS (by omega)) (Nat.le_refl _) (Nat.le_refl _) rfl (fun φ1 hR1 => ?_)
  obtain ⟨hs1_0, hs1_1, fr1⟩ := hR1
  refine q_load (v := (6, 232, 0)) (p2 := 8) rfl rfl rfl rfl ?_
  refine q_getv (v := (6, 2, 0)) (p2 := 9) rfl hs1_0 (by decide) rfl rfl ?_
  have hm2 := (zq_T_at hT (fr1 2 (by decide) (by decide)) (fr1 3 (by decide) (by decide)) (fr1 4 (by decide) (by decide)) (fr1 5 (by decide) (by decide)) (fr1 6 (by decide) (by decide)))
  refine q_getv (v := (0, 1, 0)) (p2 := 10) rfl hm2.1 (by decide) rfl rfl ?_
  refine q_store (loc2 := [(6, 232, 0), (0, top, 0), (0, 1, 0)]) (p2 := 11) rfl rfl rfl rfl rfl ?_
  refine q_load (v := (0, 1, 0)) (p2 := 12) rfl rfl rfl rfl ?_
  refine q_const (p2 := 13) rfl rfl ?_
  refine q_icmp_s (p2 := 14) rfl (by decide) (by omega) (by omega) rfl (fun hb => absurd hb (show ¬ (1 = 70) by omega)) (fun _ => ?_)
  refine q_load (v := (0, 1, 0)) (p2 := 15) rfl rfl rfl rfl ?_
  refine q_const (p2 := 16) rfl rfl ?_
  refine q_icmp_s (p2 := 17) rfl (by decide) (by omega) (by omega) rfl (fun hb => absurd hb (show ¬ (1 = 51) by omega)) (fun _ => ?_)
  refine q_load (v := (6, 232, 0)) (p2 := 18) rfl rfl rfl rfl ?_
  refine q_load (v := (0, top, 0)) (p2 := 19) rfl rfl rfl rfl ?_
  have hm3 := (x_sch_at hS (fun j h1 h2 => (fr1 j (by omega) (by omega))))
  have hm4 := (zq_nm_at hN (fr1 239 (by decide) (by decide)) (fr1 242 (by decide) (by decide)) (fr1 244 (by decide) (by decide)))
  refine q_callvE (xs := [(0, top, 0), (6, 232, 0)]) (p2 := 20) rfl rfl rfl rfl (x_rcv_s 232 hs1_0) rfl (zc_x_part_call hm2 hs1_0 hs1_1 hm3 hm4 (by omega) (by omega) (x_s_eq) (by omega) hc1 hc2 hc3 hc4 hc5 hc6 (by omega)) (Nat.le_refl _) (Nat.le_refl _) rfl (fun φ5 hR5 => ?_)
  obtain ⟨hs5_0, hs5_1, hs5_2, fr5⟩ := hR5
  exact q_ret rfl (⟨rfl, rfl, rfl, hs5_0, hs5_1, hs5_2, fun j hj0 hj1 hj2 => ((fr5 j (by omega) (by omega) (by omega)).trans (fr1 j (by omega) (by omega)))⟩)
theorem zc_x_term_call {d n sl : Nat} {φ : FH} {pl : Nat} {fp : Nat} {sp : Nat} {K : Nat → Nat} {P : Nat → Nat} {V : Nat → Nat} {top : Nat} {hid : Nat} {lc : Nat} {slo : Nat} {own : Nat} {sk : Nat} {co : Nat → Nat} {w1 : Nat} (hT : zq_T φ 6 0 1 pl 6 0 fp 0 sp 0 0 K P V) (hE : zq_E φ 1 top hid lc slo own sk) (hC : zq_co φ co) (hS : x_sch φ) (hN : zq_nm φ) (hc0 : top < 800) (hc1 : K 1 = 73) (hc2 : K 2 = 82) (hc3 : K 3 = 2) (hc4 : V 3 = w1) (hc5 : K 4 = 74) (hc6 : K 5 = 0) (hc7 : w1 < 2147483648) : x_f x_P (d + 14) 291 [(6, 232, 0), (11, 0, 0), (11, 0, 0), (11, 0, 0)] φ n sl (x_vR n sl (fun φ2 => zq_T φ2 6 5 0 (P 5) (V 5) 0 fp 0 sp 2 0 K P V ∧ zq_E φ2 1 (top + 8) hid lc slo own sk ∧ zq_co φ2 (x_s (x_s (x_s (x_s (x_s (x_s (x_s (x_s (x_s (x_s co top 1) (top + 1) 0) (top + 1) 1) (top + 2) 1) (top + 3) 0) (top + 3) 1) (top + 4) 7) (top + 5) w1) (top + 6) 20) (top + 7) 0) ∧ ∀ j, j ≠ 2 → j ≠ 232 → j ≠ 450 → φ2 j = φ j)) := by
  refine x_f_of rfl ?_
  refine q_load (v := (6, 232, 0)) (p2 := 1) rfl rfl rfl rfl ?_
  refine q_getv (v := (0, top, 0)) (p2 := 2) rfl hE (by decide) rfl rfl ?_
  refine q_store (loc2 := [(6, 232, 0), (0, top, 0), (11, 0, 0), (11, 0, 0)]) (p2 := 3) rfl rfl rfl rfl rfl ?_
  refine q_load (v := (6, 232, 0)) (p2 := 4) rfl rfl rfl rfl ?_
  refine q_callvE (xs := [(6, 232, 0)]) (p2 := 5) rfl rfl rfl rfl (x_rcv_s 232 hE) rfl (zc_x_fact_call hT hE hC hS hN (by omega) hc1 hc2 hc3 hc4 hc5 hc6 (by omega)) (Nat.le_refl _) (Nat.le_refl _) rfl (fun φ1 hR1 => ?_)
  obtain ⟨hs1_0, hs1_1, hs1_2, fr1⟩ := hR1
  refine q_const (p2 := 6) rfl rfl ?_
  refine q_store (loc2 := [(6, 232, 0), (0, top, 0), (0, 0, 0), (11, 0, 0)]) (p2 := 7) rfl rfl rfl rfl rfl ?_
  refine q_load (v := (0, 0, 0)) (p2 := 8) rfl rfl rfl rfl ?_
  refine q_const (p2 := 9) rfl rfl ?_
  refine q_icmp_s (p2 := 10) rfl (by decide) (by omega) (by omega) rfl (fun hb => absurd hb (show ¬ (¬ (0 < 1000000)) by omega)) (fun _ => ?_)
  refine q_load (v := (6, 232, 0)) (p2 := 11) rfl rfl rfl rfl ?_
  refine q_getv (v := (6, 2, 0)) (p2 := 12) rfl hs1_1 (by decide) rfl rfl ?_
  refine q_getv (v := (0, 0, 0)) (p2 := 13) rfl hs1_0.1 (by decide) rfl rfl ?_
  refine q_callr (xs := [(0, 0, 0)]) (p2 := 14) rfl rfl rfl rfl (fun _ _ => rfl) rfl (zc_a_319_0 ) (Nat.le_refl _) (Nat.le_refl _) rfl ?_
  refine q_if0_s (p2 := 15) rfl (by decide) (by omega) rfl (fun _ => ?_) (fun hb => absurd (show 0 = 0 by omega) hb)
  exact q_ret rfl (⟨rfl, rfl, rfl, hs1_0, hs1_1, hs1_2, fun j hj0 hj1 hj2 => (fr1 j (by omega) (by omega) (by omega))⟩)
theorem zc_x_sum_call {d n sl : Nat} {φ : FH} {pl : Nat} {fp : Nat} {sp : Nat} {K : Nat → Nat} {P : Nat → Nat} {V : Nat → Nat} {top : Nat} {hid : Nat} {lc : Nat} {slo : Nat} {own : Nat} {sk : Nat} {co : Nat → Nat} {w1 : Nat} (hT : zq_T φ 6 0 1 pl 6 0 fp 0 sp 0 0 K P V) (hE : zq_E φ 1 top hid lc slo own sk) (hC : zq_co φ co) (hS : x_sch φ) (hN : zq_nm φ) (hc0 : top < 700) (hc1 : K 1 = 73) (hc2 : K 2 = 82) (hc3 : K 3 = 2) (hc4 : V 3 = w1) (hc5 : K 4 = 74) (hc6 : K 5 = 0) (hc7 : w1 < 2147483648) : x_f x_P (d + 15) 245 [(6, 232, 0), (11, 0, 0), (11, 0, 0), (11, 0, 0)] φ n sl (x_vR n sl (fun φ2 => zq_T φ2 6 5 0 (P 5) (V 5) 0 fp 0 sp 2 0 K P V ∧ zq_E φ2 1 (top + 8) hid lc slo own sk ∧ zq_co φ2 (x_s (x_s (x_s (x_s (x_s (x_s (x_s (x_s (x_s (x_s co top 1) (top + 1) 0) (top + 1) 1) (top + 2) 1) (top + 3) 0) (top + 3) 1) (top + 4) 7) (top + 5) w1) (top + 6) 20) (top + 7) 0) ∧ ∀ j, j ≠ 2 → j ≠ 232 → j ≠ 450 → φ2 j = φ j)) := by
  refine x_f_of rfl ?_
  refine q_load (v := (6, 232, 0)) (p2 := 1) rfl rfl rfl rfl ?_
  refine q_getv (v := (0, top, 0)) (p2 := 2) rfl hE (by decide) rfl rfl ?_
  refine q_store (loc2 := [(6, 232, 0), (0, top, 0), (11, 0, 0), (11, 0, 0)]) (p2 := 3) rfl rfl rfl rfl rfl ?_
  refine q_load (v := (6, 232, 0)) (p2 := 4) rfl rfl rfl rfl ?_
  refine q_callvE (xs := [(6, 232, 0)]) (p2 := 5) rfl rfl rfl rfl (x_rcv_s 232 hE) rfl (zc_x_term_call hT hE hC hS hN (by omega) hc1 hc2 hc3 hc4 hc5 hc6 (by omega)) (Nat.le_refl _) (Nat.le_refl _) rfl (fun φ1 hR1 => ?_)
  obtain ⟨hs1_0, hs1_1, hs1_2, fr1⟩ := hR1
  refine q_const (p2 := 6) rfl rfl ?_
  refine q_store (loc2 := [(6, 232, 0), (0, top, 0), (0, 0, 0), (11, 0, 0)]) (p2 := 7) rfl rfl rfl rfl rfl ?_
  refine q_load (v := (0, 0, 0)) (p2 := 8) rfl rfl rfl rfl ?_
  refine q_const (p2 := 9) rfl rfl ?_
  refine q_icmp_s (p2 := 10) rfl (by decide) (by omega) (by omega) rfl (fun hb => absurd hb (show ¬ (¬ (0 < 1000000)) by omega)) (fun _ => ?_)
  refine q_load (v := (6, 232, 0)) (p2 := 11) rfl rfl rfl rfl ?_
  refine q_getv (v := (6, 2, 0)) (p2 := 12) rfl hs1_1 (by decide) rfl rfl ?_
  refine q_getv (v := (0, 0, 0)) (p2 := 13) rfl hs1_0.1 (by decide) rfl rfl ?_
  refine q_callr (xs := [(0, 0, 0)]) (p2 := 14) rfl rfl rfl rfl (fun _ _ => rfl) rfl (zc_a_292_0 ) (Nat.le_refl _) (Nat.le_refl _) rfl ?_
  refine q_if0_s (p2 := 15) rfl (by decide) (by omega) rfl (fun _ => ?_) (fun hb => absurd (show 0 = 0 by omega) hb)
  exact q_ret rfl (⟨rfl, rfl, rfl, hs1_0, hs1_1, hs1_2, fun j hj0 hj1 hj2 => (fr1 j (by omega) (by omega) (by omega))⟩)
theorem zc_x_exp_call {d n sl : Nat} {φ : FH} {pl : Nat} {fp : Nat} {sp : Nat} {K : Nat → Nat} {P : Nat → Nat} {V : Nat → Nat} {top : Nat} {hid : Nat} {lc : Nat} {slo : Nat} {own : Nat} {sk : Nat} {co : Nat → Nat} {w1 : Nat} (hT : zq_T φ 6 0 1 pl 6 0 fp 0 sp 0 0 K P V) (hE : zq_E φ 1 top hid lc slo own sk) (hC : zq_co φ co) (hS : x_sch φ) (hN : zq_nm φ) (hc0 : top < 600) (hc1 : K 1 = 73) (hc2 : K 2 = 82) (hc3 : K 3 = 2) (hc4 : V 3 = w1) (hc5 : K 4 = 74) (hc6 : K 5 = 0) (hc7 : w1 < 2147483648) : x_f x_P (d + 16) 177 [(6, 232, 0), (11, 0, 0), (11, 0, 0)] φ n sl (x_vR n sl (fun φ2 => zq_T φ2 6 5 0 (P 5) (V 5) 0 fp 0 sp 2 0 K P V ∧ zq_E φ2 1 (top + 8) hid lc slo own sk ∧ zq_co φ2 (x_s (x_s (x_s (x_s (x_s (x_s (x_s (x_s (x_s (x_s co top 1) (top + 1) 0) (top + 1) 1) (top + 2) 1) (top + 3) 0) (top + 3) 1) (top + 4) 7) (top + 5) w1) (top + 6) 20) (top + 7) 0) ∧ ∀ j, j ≠ 2 → j ≠ 232 → j ≠ 450 → φ2 j = φ j)) := by
  refine x_f_of rfl ?_
  refine q_load (v := (6, 232, 0)) (p2 := 1) rfl rfl rfl rfl ?_
  refine q_getv (v := (0, top, 0)) (p2 := 2) rfl hE (by decide) rfl rfl ?_
  refine q_store (loc2 := [(6, 232, 0), (0, top, 0), (11, 0, 0)]) (p2 := 3) rfl rfl rfl rfl rfl ?_
  refine q_load (v := (6, 232, 0)) (p2 := 4) rfl rfl rfl rfl ?_
  refine q_callvE (xs := [(6, 232, 0)]) (p2 := 5) rfl rfl rfl rfl (x_rcv_s 232 hE) rfl (zc_x_sum_call hT hE hC hS hN (by omega) hc1 hc2 hc3 hc4 hc5 hc6 (by omega)) (Nat.le_refl _) (Nat.le_refl _) rfl (fun φ1 hR1 => ?_)
  obtain ⟨hs1_0, hs1_1, hs1_2, fr1⟩ := hR1
  refine q_load (v := (6, 232, 0)) (p2 := 6) rfl rfl rfl rfl ?_
  refine q_getv (v := (6, 2, 0)) (p2 := 7) rfl hs1_1 (by decide) rfl rfl ?_
  refine q_getv (v := (0, 0, 0)) (p2 := 8) rfl hs1_0.1 (by decide) rfl rfl ?_
  refine q_store (loc2 := [(6, 232, 0), (0, top, 0), (0, 0, 0)]) (p2 := 9) rfl rfl rfl rfl rfl ?_
  refine q_load (v := (0, 0, 0)) (p2 := 10) rfl rfl rfl rfl ?_
  refine q_const (p2 := 11) rfl rfl ?_
  refine q_icmp_s (p2 := 12) rfl (by decide) (by omega) (by omega) rfl (fun _ => ?_) (fun hb => absurd (show 0 < 60 by omega) hb)
  refine q_load (v := (0, 0, 0)) (p2 := 16) rfl rfl rfl rfl ?_
  refine q_const (p2 := 17) rfl rfl ?_
  refine q_icmp_s (p2 := 18) rfl (by decide) (by omega) (by omega) rfl (fun _ => ?_) (fun hb => absurd (show ¬ (0 = 52) by omega) hb)
  exact q_ret rfl (⟨rfl, rfl, rfl, hs1_0, hs1_1, hs1_2, fun j hj0 hj1 hj2 => (fr1 j (by omega) (by omega) (by omega))⟩)
theorem zc_x_base_used {d n sl : Nat} {φ : FH} {pl : Nat} {fp : Nat} {sp : Nat} {K : Nat → Nat} {P : Nat → Nat} {V : Nat → Nat} {top : Nat} {hid : Nat} {lc : Nat} {slo : Nat} {own : Nat} {sk : Nat} {co : Nat → Nat} {w1 : Nat} {st : Nat} {cv : Nat} (hT : zq_T φ 6 0 1 pl 1703836604 0 fp 0 sp 0 0 K P V) (hE : zq_E φ 1 top hid lc slo own sk) (hC : zq_co φ co) (hS : x_sch φ) (hN : zq_nm φ) (hc0 : top < 1000) (hc1 : st < 1000) (hc2 : co (st + 1) = cv) (hc3 : cv < 100) (hc4 : K 1 = 73) (hc5 : K 2 = 82) (hc6 : K 3 = 2) (hc7 : V 3 = w1) (hc8 : K 4 = 74) (hc9 : K 5 = 0) (hc10 : w1 < 2147483648) : x_f x_P (d + 11) 324 [(6, 232, 0), (0, st, 0), (11, 0, 0), (11, 0, 0), (11, 0, 0), (11, 0, 0)] φ n sl (x_vR n sl (fun φ2 => zq_T φ2 6 5 0 (P 5) (V 5) 0 fp 0 sp 2 0 K P V ∧ zq_E φ2 1 (top + 6) hid lc slo own sk ∧ zq_co φ2 (x_s (x_s (x_s (x_s (x_s (x_s (x_s (x_s co (st + 1) (cv + 1)) top 1) (top + 1) 0) (top + 1) 1) (top + 2) 7) (top + 3) w1) (top + 4) 19) (top + 5) 9) ∧ ∀ j, j ≠ 2 → j ≠ 232 → j ≠ 450 → φ2 j = φ j)) := by
  refine x_f_of rfl ?_
  refine q_load (v := (6, 232, 0)) (p2 := 1) rfl rfl rfl rfl ?_
  refine q_getv (v := (6, 2, 0)) (p2 := 2) rfl hE (by decide) rfl rfl ?_
  refine q_getv (v := (0, 1, 0)) (p2 := 3) rfl hT.1 (by decide) rfl rfl ?_
  refine q_switch (tgt := 38) rfl (by decide) rfl ?_
  refine q_load (v := (6, 232, 0)) (p2 := 39) rfl rfl rfl rfl ?_
  refine q_load (v := (0, st, 0)) (p2 := 40) rfl rfl rfl rfl ?_
  refine q_callvE (xs := [(0, st, 0), (6, 232, 0)]) (p2 := 41) rfl rfl rfl rfl (x_rcv_s 232 hE) rfl (zc_x_named_used hT hE hC hS hN (by omega) (by omega) hc2 (by omega) hc4 hc5 hc6 hc7 hc8 hc9 (by omega)) (Nat.le_refl _) (Nat.le_refl _) rfl (fun φ1 hR1 => ?_)
  obtain ⟨hs1_0, hs1_1, hs1_2, fr1⟩ := hR1
  refine q_goto rfl ?_
  exact q_ret rfl (⟨rfl, rfl, rfl, hs1_0, hs1_1, hs1_2, fun j hj0 hj1 hj2 => (fr1 j (by omega) (by omega) (by omega))⟩)
theorem zc_x_part_used {d n sl : Nat} {φ : FH} {pl : Nat} {fp : Nat} {sp : Nat} {K : Nat → Nat} {P : Nat → Nat} {V : Nat → Nat} {top : Nat} {hid : Nat} {lc : Nat} {slo : Nat} {own : Nat} {sk : Nat} {co : Nat → Nat} {w1 : Nat} {st : Nat} {cv : Nat} (hT : zq_T φ 6 0 1 pl 1703836604 0 fp 0 sp 0 0 K P V) (hE : zq_E φ 1 top hid lc slo own sk) (hC : zq_co φ co) (hS : x_sch φ) (hN : zq_nm φ) (hc0 : top < 1000) (hc1 : st < 1000) (hc2 : co (st + 1) = cv) (hc3 : cv < 100) (hc4 : K 1 = 73) (hc5 : K 2 = 82) (hc6 : K 3 = 2) (hc7 : V 3 = w1) (hc8 : K 4 = 74) (hc9 : K 5 = 0) (hc10 : w1 < 2147483648) : x_f x_P (d + 12) 323 [(6, 232, 0), (0, st, 0), (11, 0, 0)] φ n sl (x_vR n sl (fun φ2 => zq_T φ2 6 5 0 (P 5) (V 5) 0 fp 0 sp 2 0 K P V ∧ zq_E φ2 1 (top + 6) hid lc slo own sk ∧ zq_co φ2 (x_s (x_s (x_s (x_s (x_s (x_s (x_s (x_s co (st + 1) (cv + 1)) top 1) (top + 1) 0) (top + 1) 1) (top + 2) 7) (top + 3) w1) (top + 4) 19) (top + 5) 9) ∧ ∀ j, j ≠ 2 → j ≠ 232 → j ≠ 450 → φ2 j = φ j)) := by
  refine x_f_of rfl ?_
  refine q_load (v := (6, 232, 0)) (p2 := 1) rfl rfl rfl rfl ?_
  refine q_load (v := (0, st, 0)) (p2 := 2) rfl rfl rfl rfl ?_
  refine q_callvE (xs := [(0, st, 0), (6, 232, 0)]) (p2 := 3) rfl rfl rfl rfl (x_rcv_s 232 hE) rfl (zc_x_base_used hT hE hC hS hN (by omega) (by omega) hc2 (by omega) hc4 hc5 hc6 hc7 hc8 hc9 (by omega)) (Nat.le_refl _) (Nat.le_refl _) rfl (fun φ1 hR1 => ?_)
  obtain ⟨hs1_0, hs1_1, hs1_2, fr1⟩ := hR1
  refine q_const (p2 := 4) rfl rfl ?_
  refine q_store (loc2 := [(6, 232, 0), (0, st, 0), (0, 0, 0)]) (p2 := 5) rfl rfl rfl rfl rfl ?_
  refine q_load (v := (0, 0, 0)) (p2 := 6) rfl rfl rfl rfl ?_
  refine q_const (p2 := 7) rfl rfl ?_
  refine q_icmp_s (p2 := 8) rfl (by decide) (by omega) (by omega) rfl (fun hb => absurd hb (show ¬ (¬ (0 < 1000000)) by omega)) (fun _ => ?_)
  refine q_load (v := (6, 232, 0)) (p2 := 9) rfl rfl rfl rfl ?_
  refine q_getv (v := (6, 2, 0)) (p2 := 10) rfl hs1_1 (by decide) rfl rfl ?_
  refine q_const (p2 := 11) rfl rfl ?_
  refine q_callr (xs := [(0, 80, 0), (6, 2, 0)]) (p2 := 12) rfl rfl rfl rfl (x_rcv_s 2 hs1_0.1) rfl (zc_t_is_0 hs1_0 (by omega) (by omega)) (Nat.le_refl _) (Nat.le_refl _) rfl ?_
  refine q_if0_s (p2 := 13) rfl (by decide) (by omega) rfl (fun hb => absurd hb (show ¬ (¬ (0 = 0)) by omega)) (fun _ => ?_)
  refine q_load (v := (6, 232, 0)) (p2 := 14) rfl rfl rfl rfl ?_
  refine q_getv (v := (6, 2, 0)) (p2 := 15) rfl hs1_1 (by decide) rfl rfl ?_
  refine q_const (p2 := 16) rfl rfl ?_
  refine q_callr (xs := [(0, 75, 0), (6, 2, 0)]) (p2 := 17) rfl rfl rfl rfl (x_rcv_s 2 hs1_0.1) rfl (zc_t_is_0 hs1_0 (by omega) (by omega)) (Nat.le_refl _) (Nat.le_refl _) rfl ?_
  refine q_if0_s (p2 := 18) rfl (by decide) (by omega) rfl (fun _ => ?_) (fun hb => absurd (show 0 = 0 by omega) hb)
  exact q_ret rfl (⟨rfl, rfl, rfl, hs1_0, hs1_1, hs1_2, fun j hj0 hj1 hj2 => (fr1 j (by omega) (by omega) (by omega))⟩)
theorem zc_x_fact_used {d n sl : Nat} {φ : FH} {pl : Nat} {fp : Nat} {sp : Nat} {K : Nat → Nat} {P : Nat → Nat} {V : Nat → Nat} {top : Nat} {hid : Nat} {lc : Nat} {slo : Nat} {own : Nat} {sk : Nat} {co : Nat → Nat} {w1 : Nat} (hT : zq_T φ 6 0 1 pl 1703836604 0 fp 0 sp 0 0 K P V) (hE : zq_E φ 1 top hid lc slo own sk) (hC : zq_co φ co) (hS : x_sch φ) (hN : zq_nm φ) (hc0 : top < 900) (hc1 : K 1 = 73) (hc2 : K 2 = 82) (hc3 : K 3 = 2) (hc4 : V 3 = w1) (hc5 : K 4 = 74) (hc6 : K 5 = 0) (hc7 : w1 < 2147483648) : x_f x_P (d + 13) 318 [(6, 232, 0), (11, 0, 0), (11, 0, 0)] φ n sl (x_vR n sl (fun φ2 => zq_T φ2 6 5 0 (P 5) (V 5) 0 fp 0 sp 2 0 K P V ∧ zq_E φ2 1 (top + 8) hid lc slo own sk ∧ zq_co φ2 (x_s (x_s (x_s (x_s (x_s (x_s (x_s (x_s (x_s (x_s co top 1) (top + 1) 0) (top + 1) 1) (top + 2) 1) (top + 3) 0) (top + 3) 1) (top + 4) 7) (top + 5) w1) (top + 6) 19) (top + 7) 9) ∧ ∀ j, j ≠ 2 → j ≠ 232 → j ≠ 450 → φ2 j = φ j)) := by
  refine x_f_of rfl ?_
  refine q_load (v := (6, 232, 0)) (p2 := 1) rfl rfl rfl rfl ?_
  refine q_getv (v := (0, top, 0)) (p2 := 2) rfl hE (by decide) rfl rfl ?_
  refine q_store (loc2 := [(6, 232, 0), (0, top, 0), (11, 0, 0)]) (p2 := 3) rfl rfl rfl rfl rfl ?_
  refine q_load (v := (6, 232, 0)) (p2 := 4) rfl rfl rfl rfl ?_
  refine q_const (p2 := 5) rfl rfl ?_
  refine q_const (p2 := 6) rfl rfl ?_
  refine q_callvE (xs := [(0, 0, 0), (0, 1, 0), (6, 232, 0)]) (p2 := 7) rfl rfl rfl rfl (x_rcv_s 232 hE) rfl (zc_x_em2 hE hC hS (by omega)) (Nat.le_refl _) (Nat.le_refl _) rfl (fun φ1 hR1 => ?_)
  obtain ⟨hs1_0, hs1_1, fr1⟩ := hR1
  refine q_load (v := (6, 232, 0)) (p2 := 8) rfl rfl rfl rfl ?_
  refine q_getv (v := (6, 2, 0)) (p2 := 9) rfl hs1_0 (by decide) rfl rfl ?_
  have hm2 := (zq_T_at hT (fr1 2 (by decide) (by decide)) (fr1 3 (by decide) (by decide)) (fr1 4 (by decide) (by decide)) (fr1 5 (by decide) (by decide)) (fr1 6 (by decide) (by decide)))
  refine q_getv (v := (0, 1, 0)) (p2 := 10) rfl hm2.1 (by decide) rfl rfl ?_
  refine q_store (loc2 := [(6, 232, 0), (0, top, 0), (0, 1, 0)]) (p2 := 11) rfl rfl rfl rfl rfl ?_
  refine q_load (v := (0, 1, 0)) (p2 := 12) rfl rfl rfl rfl ?_
  refine q_const (p2 := 13) rfl rfl ?_
  refine q_icmp_s (p2 := 14) rfl (by decide) (by omega) (by omega) rfl (fun hb => absurd hb (show ¬ (1 = 70) by omega)) (fun _ => ?_)
  refine q_load (v := (0, 1, 0)) (p2 := 15) rfl rfl rfl rfl ?_
  refine q_const (p2 := 16) rfl rfl ?_
  refine q_icmp_s (p2 := 17) rfl (by decide) (by omega) (by omega) rfl (fun hb => absurd hb (show ¬ (1 = 51) by omega)) (fun _ => ?_)
  refine q_load (v := (6, 232, 0)) (p2 := 18) rfl rfl rfl rfl ?_
  refine q_load (v := (0, top, 0)) (p2 := 19) rfl rfl rfl rfl ?_
  have hm3 := (x_sch_at hS (fun j h1 h2 => (fr1 j (by omega) (by omega))))
  have hm4 := (zq_nm_at hN (fr1 239 (by decide) (by decide)) (fr1 242 (by decide) (by decide)) (fr1 244 (by decide) (by decide)))
  refine q_callvE (xs := [(0, top, 0), (6, 232, 0)]) (p2 := 20) rfl rfl rfl rfl (x_rcv_s 232 hs1_0) rfl (zc_x_part_used hm2 hs1_0 hs1_1 hm3 hm4 (by omega) (by omega) (x_s_eq) (by omega) hc1 hc2 hc3 hc4 hc5 hc6 (by omega)) (Nat.le_refl _) (Nat.le_refl _) rfl (fun φ5 hR5 => ?_)
  obtain ⟨hs5_0, hs5_1, hs5_2, fr5⟩ := hR5
  exact q_ret rfl (⟨rfl, rfl, rfl, hs5_0, hs5_1, hs5_2, fun j hj0 hj1 hj2 => ((fr5 j (by omega) (by omega) (by omega)).trans (fr1 j (by omega) (by omega)))⟩)
theorem zc_x_term_used {d n sl : Nat} {φ : FH} {pl : Nat} {fp : Nat} {sp : Nat} {K : Nat → Nat} {P : Nat → Nat} {V : Nat → Nat} {top : Nat} {hid : Nat} {lc : Nat} {slo : Nat} {own : Nat} {sk : Nat} {co : Nat → Nat} {w1 : Nat} (hT : zq_T φ 6 0 1 pl 1703836604 0 fp 0 sp 0 0 K P V) (hE : zq_E φ 1 top hid lc slo own sk) (hC : zq_co φ co) (hS : x_sch φ) (hN : zq_nm φ) (hc0 : top < 800) (hc1 : K 1 = 73) (hc2 : K 2 = 82) (hc3 : K 3 = 2) (hc4 : V 3 = w1) (hc5 : K 4 = 74) (hc6 : K 5 = 0) (hc7 : w1 < 2147483648) : x_f x_P (d + 14) 291 [(6, 232, 0), (11, 0, 0), (11, 0, 0), (11, 0, 0)] φ n sl (x_vR n sl (fun φ2 => zq_T φ2 6 5 0 (P 5) (V 5) 0 fp 0 sp 2 0 K P V ∧ zq_E φ2 1 (top + 8) hid lc slo own sk ∧ zq_co φ2 (x_s (x_s (x_s (x_s (x_s (x_s (x_s (x_s (x_s (x_s co top 1) (top + 1) 0) (top + 1) 1) (top + 2) 1) (top + 3) 0) (top + 3) 1) (top + 4) 7) (top + 5) w1) (top + 6) 19) (top + 7) 9) ∧ ∀ j, j ≠ 2 → j ≠ 232 → j ≠ 450 → φ2 j = φ j)) := by
  refine x_f_of rfl ?_
  refine q_load (v := (6, 232, 0)) (p2 := 1) rfl rfl rfl rfl ?_
  refine q_getv (v := (0, top, 0)) (p2 := 2) rfl hE (by decide) rfl rfl ?_
  refine q_store (loc2 := [(6, 232, 0), (0, top, 0), (11, 0, 0), (11, 0, 0)]) (p2 := 3) rfl rfl rfl rfl rfl ?_
  refine q_load (v := (6, 232, 0)) (p2 := 4) rfl rfl rfl rfl ?_
  refine q_callvE (xs := [(6, 232, 0)]) (p2 := 5) rfl rfl rfl rfl (x_rcv_s 232 hE) rfl (zc_x_fact_used hT hE hC hS hN (by omega) hc1 hc2 hc3 hc4 hc5 hc6 (by omega)) (Nat.le_refl _) (Nat.le_refl _) rfl (fun φ1 hR1 => ?_)
  obtain ⟨hs1_0, hs1_1, hs1_2, fr1⟩ := hR1
  refine q_const (p2 := 6) rfl rfl ?_
  refine q_store (loc2 := [(6, 232, 0), (0, top, 0), (0, 0, 0), (11, 0, 0)]) (p2 := 7) rfl rfl rfl rfl rfl ?_
  refine q_load (v := (0, 0, 0)) (p2 := 8) rfl rfl rfl rfl ?_
  refine q_const (p2 := 9) rfl rfl ?_
  refine q_icmp_s (p2 := 10) rfl (by decide) (by omega) (by omega) rfl (fun hb => absurd hb (show ¬ (¬ (0 < 1000000)) by omega)) (fun _ => ?_)
  refine q_load (v := (6, 232, 0)) (p2 := 11) rfl rfl rfl rfl ?_
  refine q_getv (v := (6, 2, 0)) (p2 := 12) rfl hs1_1 (by decide) rfl rfl ?_
  refine q_getv (v := (0, 0, 0)) (p2 := 13) rfl hs1_0.1 (by decide) rfl rfl ?_
  refine q_callr (xs := [(0, 0, 0)]) (p2 := 14) rfl rfl rfl rfl (fun _ _ => rfl) rfl (zc_a_319_0 ) (Nat.le_refl _) (Nat.le_refl _) rfl ?_
  refine q_if0_s (p2 := 15) rfl (by decide) (by omega) rfl (fun _ => ?_) (fun hb => absurd (show 0 = 0 by omega) hb)
  exact q_ret rfl (⟨rfl, rfl, rfl, hs1_0, hs1_1, hs1_2, fun j hj0 hj1 hj2 => (fr1 j (by omega) (by omega) (by omega))⟩)
theorem zc_x_sum_used {d n sl : Nat} {φ : FH} {pl : Nat} {fp : Nat} {sp : Nat} {K : Nat → Nat} {P : Nat → Nat} {V : Nat → Nat} {top : Nat} {hid : Nat} {lc : Nat} {slo : Nat} {own : Nat} {sk : Nat} {co : Nat → Nat} {w1 : Nat} (hT : zq_T φ 6 0 1 pl 1703836604 0 fp 0 sp 0 0 K P V) (hE : zq_E φ 1 top hid lc slo own sk) (hC : zq_co φ co) (hS : x_sch φ) (hN : zq_nm φ) (hc0 : top < 700) (hc1 : K 1 = 73) (hc2 : K 2 = 82) (hc3 : K 3 = 2) (hc4 : V 3 = w1) (hc5 : K 4 = 74) (hc6 : K 5 = 0) (hc7 : w1 < 2147483648) : x_f x_P (d + 15) 245 [(6, 232, 0), (11, 0, 0), (11, 0, 0), (11, 0, 0)] φ n sl (x_vR n sl (fun φ2 => zq_T φ2 6 5 0 (P 5) (V 5) 0 fp 0 sp 2 0 K P V ∧ zq_E φ2 1 (top + 8) hid lc slo own sk ∧ zq_co φ2 (x_s (x_s (x_s (x_s (x_s (x_s (x_s (x_s (x_s (x_s co top 1) (top + 1) 0) (top + 1) 1) (top + 2) 1) (top + 3) 0) (top + 3) 1) (top + 4) 7) (top + 5) w1) (top + 6) 19) (top + 7) 9) ∧ ∀ j, j ≠ 2 → j ≠ 232 → j ≠ 450 → φ2 j = φ j)) := by
  refine x_f_of rfl ?_
  refine q_load (v := (6, 232, 0)) (p2 := 1) rfl rfl rfl rfl ?_
  refine q_getv (v := (0, top, 0)) (p2 := 2) rfl hE (by decide) rfl rfl ?_
  refine q_store (loc2 := [(6, 232, 0), (0, top, 0), (11, 0, 0), (11, 0, 0)]) (p2 := 3) rfl rfl rfl rfl rfl ?_
  refine q_load (v := (6, 232, 0)) (p2 := 4) rfl rfl rfl rfl ?_
  refine q_callvE (xs := [(6, 232, 0)]) (p2 := 5) rfl rfl rfl rfl (x_rcv_s 232 hE) rfl (zc_x_term_used hT hE hC hS hN (by omega) hc1 hc2 hc3 hc4 hc5 hc6 (by omega)) (Nat.le_refl _) (Nat.le_refl _) rfl (fun φ1 hR1 => ?_)
  obtain ⟨hs1_0, hs1_1, hs1_2, fr1⟩ := hR1
  refine q_const (p2 := 6) rfl rfl ?_
  refine q_store (loc2 := [(6, 232, 0), (0, top, 0), (0, 0, 0), (11, 0, 0)]) (p2 := 7) rfl rfl rfl rfl rfl ?_
  refine q_load (v := (0, 0, 0)) (p2 := 8) rfl rfl rfl rfl ?_
  refine q_const (p2 := 9) rfl rfl ?_
  refine q_icmp_s (p2 := 10) rfl (by decide) (by omega) (by omega) rfl (fun hb => absurd hb (show ¬ (¬ (0 < 1000000)) by omega)) (fun _ => ?_)
  refine q_load (v := (6, 232, 0)) (p2 := 11) rfl rfl rfl rfl ?_
  refine q_getv (v := (6, 2, 0)) (p2 := 12) rfl hs1_1 (by decide) rfl rfl ?_
  refine q_getv (v := (0, 0, 0)) (p2 := 13) rfl hs1_0.1 (by decide) rfl rfl ?_
  refine q_callr (xs := [(0, 0, 0)]) (p2 := 14) rfl rfl rfl rfl (fun _ _ => rfl) rfl (zc_a_292_0 ) (Nat.le_refl _) (Nat.le_refl _) rfl ?_
  refine q_if0_s (p2 := 15) rfl (by decide) (by omega) rfl (fun _ => ?_) (fun hb => absurd (show 0 = 0 by omega) hb)
  exact q_ret rfl (⟨rfl, rfl, rfl, hs1_0, hs1_1, hs1_2, fun j hj0 hj1 hj2 => (fr1 j (by omega) (by omega) (by omega))⟩)
theorem zc_x_exp_used {d n sl : Nat} {φ : FH} {pl : Nat} {fp : Nat} {sp : Nat} {K : Nat → Nat} {P : Nat → Nat} {V : Nat → Nat} {top : Nat} {hid : Nat} {lc : Nat} {slo : Nat} {own : Nat} {sk : Nat} {co : Nat → Nat} {w1 : Nat} (hT : zq_T φ 6 0 1 pl 1703836604 0 fp 0 sp 0 0 K P V) (hE : zq_E φ 1 top hid lc slo own sk) (hC : zq_co φ co) (hS : x_sch φ) (hN : zq_nm φ) (hc0 : top < 600) (hc1 : K 1 = 73) (hc2 : K 2 = 82) (hc3 : K 3 = 2) (hc4 : V 3 = w1) (hc5 : K 4 = 74) (hc6 : K 5 = 0) (hc7 : w1 < 2147483648) : x_f x_P (d + 16) 177 [(6, 232, 0), (11, 0, 0), (11, 0, 0)] φ n sl (x_vR n sl (fun φ2 => zq_T φ2 6 5 0 (P 5) (V 5) 0 fp 0 sp 2 0 K P V ∧ zq_E φ2 1 (top + 8) hid lc slo own sk ∧ zq_co φ2 (x_s (x_s (x_s (x_s (x_s (x_s (x_s (x_s (x_s (x_s co top 1) (top + 1) 0) (top + 1) 1) (top + 2) 1) (top + 3) 0) (top + 3) 1) (top + 4) 7) (top + 5) w1) (top + 6) 19) (top + 7) 9) ∧ ∀ j, j ≠ 2 → j ≠ 232 → j ≠ 450 → φ2 j = φ j)) := by
  refine x_f_of rfl ?_
  refine q_load (v := (6, 232, 0)) (p2 := 1) rfl rfl rfl rfl ?_
  refine q_getv (v := (0, top, 0)) (p2 := 2) rfl hE (by decide) rfl rfl ?_
  refine q_store (loc2 := [(6, 232, 0), (0, top, 0), (11, 0, 0)]) (p2 := 3) rfl rfl rfl rfl rfl ?_
  refine q_load (v := (6, 232, 0)) (p2 := 4) rfl rfl rfl rfl ?_
  refine q_callvE (xs := [(6, 232, 0)]) (p2 := 5) rfl rfl rfl rfl (x_rcv_s 232 hE) rfl (zc_x_sum_used hT hE hC hS hN (by omega) hc1 hc2 hc3 hc4 hc5 hc6 (by omega)) (Nat.le_refl _) (Nat.le_refl _) rfl (fun φ1 hR1 => ?_)
  obtain ⟨hs1_0, hs1_1, hs1_2, fr1⟩ := hR1
  refine q_load (v := (6, 232, 0)) (p2 := 6) rfl rfl rfl rfl ?_
  refine q_getv (v := (6, 2, 0)) (p2 := 7) rfl hs1_1 (by decide) rfl rfl ?_
  refine q_getv (v := (0, 0, 0)) (p2 := 8) rfl hs1_0.1 (by decide) rfl rfl ?_
  refine q_store (loc2 := [(6, 232, 0), (0, top, 0), (0, 0, 0)]) (p2 := 9) rfl rfl rfl rfl rfl ?_
  refine q_load (v := (0, 0, 0)) (p2 := 10) rfl rfl rfl rfl ?_
  refine q_const (p2 := 11) rfl rfl ?_
  refine q_icmp_s (p2 := 12) rfl (by decide) (by omega) (by omega) rfl (fun _ => ?_) (fun hb => absurd (show 0 < 60 by omega) hb)
  refine q_load (v := (0, 0, 0)) (p2 := 16) rfl rfl rfl rfl ?_
  refine q_const (p2 := 17) rfl rfl ?_
  refine q_icmp_s (p2 := 18) rfl (by decide) (by omega) (by omega) rfl (fun _ => ?_) (fun hb => absurd (show ¬ (0 = 52) by omega) hb)
  exact q_ret rfl (⟨rfl, rfl, rfl, hs1_0, hs1_1, hs1_2, fun j hj0 hj1 hj2 => (fr1 j (by omega) (by omega) (by omega))⟩)
theorem zc_x_some_77 {d n sl : Nat} {φ : FH} {tot : Nat} {at_ : Nat} {pl : Nat} {va : Nat} {fa : Nat} {fp : Nat} {sf : Nat} {sp : Nat} {no : Nat} {op : Nat} {K : Nat → Nat} {P : Nat → Nat} {V : Nat → Nat} {top : Nat} {hid : Nat} {lc : Nat} {slo : Nat} {own : Nat} {sk : Nat} {co : Nat → Nat} {w1 : Nat} (hT : zq_T φ tot at_ 82 pl va fa fp sf sp no op K P V) (hE : zq_E φ 1 top hid lc slo own sk) (hC : zq_co φ co) (hS : x_sch φ) (hc0 : no < 400) (hc1 : top < 10000) (hc2 : at_ + 2 < tot ∧ tot ≤ 3002) (hc3 : K (at_ + 1) = 2) (hc4 : V (at_ + 1) = w1) (hc5 : w1 < 2147483648) (hc6 : K (at_ + 2) = 77) : x_f x_P (d + 9) 330 [(6, 232, 0)] φ n sl (x_vR n sl (fun φ2 => zq_T φ2 tot (at_ + 2) 77 (P (at_ + 2)) (V (at_ + 2)) fa fp sf sp (no + 1) op K P V ∧ zq_E φ2 1 (top + 6) hid lc slo own sk ∧ zq_co φ2 (x_s (x_s (x_s (x_s (x_s (x_s (x_s co top 1) (top + 1) 0) (top + 1) 1) (top + 2) 7) (top + 3) w1) (top + 4) 3) (top + 5) 1) ∧ ∀ j, j ≠ 2 → j ≠ 232 → j ≠ 450 → φ2 j = φ j)) := by
  refine x_f_of rfl ?_
  refine q_load (v := (6, 232, 0)) (p2 := 1) rfl rfl rfl rfl ?_
  refine q_callvE (xs := [(6, 232, 0)]) (p2 := 2) rfl rfl rfl rfl (x_rcv_s 232 hE) rfl (zc_x_exp82_77 hT hE hC hS (by omega) (by omega) (by omega) hc3 hc4 (by omega) hc6) (Nat.le_refl _) (Nat.le_refl _) rfl (fun φ1 hR1 => ?_)
  obtain ⟨hs1_0, hs1_1, hs1_2, fr1⟩ := hR1
  refine q_load (v := (6, 232, 0)) (p2 := 3) rfl rfl rfl rfl ?_
  refine q_getv (v := (6, 2, 0)) (p2 := 4) rfl hs1_1 (by decide) rfl rfl ?_
  refine q_const (p2 := 5) rfl rfl ?_
  refine q_callr (xs := [(0, 79, 0), (6, 2, 0)]) (p2 := 6) rfl rfl rfl rfl (x_rcv_s 2 hs1_0.1) rfl (zc_t_is_0 hs1_0 (by omega) (by omega)) (Nat.le_refl _) (Nat.le_refl _) rfl ?_
  refine q_if0_s (p2 := 7) rfl (by decide) (by omega) rfl (fun _ => ?_) (fun hb => absurd (show 0 = 0 by omega) hb)
  refine q_load (v := (6, 232, 0)) (p2 := 14) rfl rfl rfl rfl ?_
  refine q_const (p2 := 15) rfl rfl ?_
  refine q_const (p2 := 16) rfl rfl ?_
  have hm2 := (x_sch_at hS (fun j h1 h2 => (fr1 j (by omega) (by omega) (by omega))))
  refine q_callvE (xs := [(0, 1, 0), (0, 3, 0), (6, 232, 0)]) (p2 := 17) rfl rfl rfl rfl (x_rcv_s 232 hs1_1) rfl (zc_x_em2 hs1_1 hs1_2 hm2 (by omega)) (Nat.le_refl _) (Nat.le_refl _) rfl (fun φ3 hR3 => ?_)
  obtain ⟨hs3_0, hs3_1, fr3⟩ := hR3
  have hm4 := (zq_T_at hs1_0 (fr3 2 (by decide) (by decide)) (fr3 3 (by decide) (by decide)) (fr3 4 (by decide) (by decide)) (fr3 5 (by decide) (by decide)) (fr3 6 (by decide) (by decide)))
  exact q_ret rfl (⟨rfl, rfl, rfl, hm4, hs3_0, hs3_1, fun j hj0 hj1 hj2 => ((fr3 j (by omega) (by omega)).trans (fr1 j (by omega) (by omega) (by omega)))⟩)
theorem zc_x_some_76 {d n sl : Nat} {φ : FH} {tot : Nat} {at_ : Nat} {pl : Nat} {va : Nat} {fa : Nat} {fp : Nat} {sf : Nat} {sp : Nat} {no : Nat} {op : Nat} {K : Nat → Nat} {P : Nat → Nat} {V : Nat → Nat} {top : Nat} {hid : Nat} {lc : Nat} {slo : Nat} {own : Nat} {sk : Nat} {co : Nat → Nat} {w1 : Nat} (hT : zq_T φ tot at_ 82 pl va fa fp sf sp no op K P V) (hE : zq_E φ 1 top hid lc slo own sk) (hC : zq_co φ co) (hS : x_sch φ) (hc0 : no < 400) (hc1 : top < 10000) (hc2 : at_ + 2 < tot ∧ tot ≤ 3002) (hc3 : K (at_ + 1) = 2) (hc4 : V (at_ + 1) = w1) (hc5 : w1 < 2147483648) (hc6 : K (at_ + 2) = 76) : x_f x_P (d + 9) 330 [(6, 232, 0)] φ n sl (x_vR n sl (fun φ2 => zq_T φ2 tot (at_ + 2) 76 (P (at_ + 2)) (V (at_ + 2)) fa fp sf sp (no + 1) op K P V ∧ zq_E φ2 1 (top + 6) hid lc slo own sk ∧ zq_co φ2 (x_s (x_s (x_s (x_s (x_s (x_s (x_s co top 1) (top + 1) 0) (top + 1) 1) (top + 2) 7) (top + 3) w1) (top + 4) 3) (top + 5) 1) ∧ ∀ j, j ≠ 2 → j ≠ 232 → j ≠ 450 → φ2 j = φ j)) := by
  refine x_f_of rfl ?_
  refine q_load (v := (6, 232, 0)) (p2 := 1) rfl rfl rfl rfl ?_
  refine q_callvE (xs := [(6, 232, 0)]) (p2 := 2) rfl rfl rfl rfl (x_rcv_s 232 hE) rfl (zc_x_exp82_76 hT hE hC hS (by omega) (by omega) (by omega) hc3 hc4 (by omega) hc6) (Nat.le_refl _) (Nat.le_refl _) rfl (fun φ1 hR1 => ?_)
  obtain ⟨hs1_0, hs1_1, hs1_2, fr1⟩ := hR1
  refine q_load (v := (6, 232, 0)) (p2 := 3) rfl rfl rfl rfl ?_
  refine q_getv (v := (6, 2, 0)) (p2 := 4) rfl hs1_1 (by decide) rfl rfl ?_
  refine q_const (p2 := 5) rfl rfl ?_
  refine q_callr (xs := [(0, 79, 0), (6, 2, 0)]) (p2 := 6) rfl rfl rfl rfl (x_rcv_s 2 hs1_0.1) rfl (zc_t_is_0 hs1_0 (by omega) (by omega)) (Nat.le_refl _) (Nat.le_refl _) rfl ?_
  refine q_if0_s (p2 := 7) rfl (by decide) (by omega) rfl (fun _ => ?_) (fun hb => absurd (show 0 = 0 by omega) hb)
  refine q_load (v := (6, 232, 0)) (p2 := 14) rfl rfl rfl rfl ?_
  refine q_const (p2 := 15) rfl rfl ?_
  refine q_const (p2 := 16) rfl rfl ?_
  have hm2 := (x_sch_at hS (fun j h1 h2 => (fr1 j (by omega) (by omega) (by omega))))
  refine q_callvE (xs := [(0, 1, 0), (0, 3, 0), (6, 232, 0)]) (p2 := 17) rfl rfl rfl rfl (x_rcv_s 232 hs1_1) rfl (zc_x_em2 hs1_1 hs1_2 hm2 (by omega)) (Nat.le_refl _) (Nat.le_refl _) rfl (fun φ3 hR3 => ?_)
  obtain ⟨hs3_0, hs3_1, fr3⟩ := hR3
  have hm4 := (zq_T_at hs1_0 (fr3 2 (by decide) (by decide)) (fr3 3 (by decide) (by decide)) (fr3 4 (by decide) (by decide)) (fr3 5 (by decide) (by decide)) (fr3 6 (by decide) (by decide)))
  exact q_ret rfl (⟨rfl, rfl, rfl, hm4, hs3_0, hs3_1, fun j hj0 hj1 hj2 => ((fr3 j (by omega) (by omega)).trans (fr1 j (by omega) (by omega) (by omega)))⟩)
theorem zc_x_list {d n sl : Nat} {φ : FH} {pl : Nat} {va : Nat} {fa : Nat} {fp : Nat} {sf : Nat} {sp : Nat} {no : Nat} {K : Nat → Nat} {P : Nat → Nat} {V : Nat → Nat} {top : Nat} {hid : Nat} {lc : Nat} {slo : Nat} {own : Nat} {sk : Nat} {co : Nat → Nat} {w1 : Nat} {w2 : Nat} (hT : zq_T φ 8 1 82 pl va fa fp sf sp no 1 K P V) (hE : zq_E φ 1 top hid lc slo own sk) (hC : zq_co φ co) (hS : x_sch φ) (hc0 : no < 100) (hc1 : top < 5000) (hc2 : K 1 = 82) (hc3 : K 2 = 2) (hc4 : V 2 = w1) (hc5 : K 3 = 77) (hc6 : K 4 = 82) (hc7 : K 5 = 2) (hc8 : V 5 = w2) (hc9 : K 6 = 76) (hc10 : K 7 = 0) (hc11 : w1 < 2147483648 ∧ w2 < 2147483648) : x_f x_P (d + 10) 326 [(6, 232, 0), (11, 0, 0), (11, 0, 0)] φ n sl (x_vR n sl (fun φ2 => zq_T φ2 8 7 0 (P 7) (V 7) fa fp sf sp (no + 2) 0 K P V ∧ zq_E φ2 1 (top + 14) hid lc slo own sk ∧ zq_co φ2 (x_s (x_s (x_s (x_s (x_s (x_s (x_s (x_s (x_s (x_s (x_s (x_s (x_s (x_s (x_s (x_s co top 1) (top + 1) 0) (top + 1) 1) (top + 2) 7) (top + 3) w1) (top + 4) 3) (top + 5) 1) (top + 6) 1) (top + 7) 0) (top + 7) 1) (top + 8) 7) (top + 9) w2) (top + 10) 3) (top + 11) 1) (top + 12) 18) (top + 13) 2) ∧ ∀ j, j ≠ 2 → j ≠ 232 → j ≠ 450 → φ2 j = φ j)) := by
  refine x_f_of rfl ?_
  refine q_const (p2 := 1) rfl rfl ?_
  refine q_store (loc2 := [(6, 232, 0), (0, 0, 0), (11, 0, 0)]) (p2 := 2) rfl rfl rfl rfl rfl ?_
  refine q_load (v := (6, 232, 0)) (p2 := 3) rfl rfl rfl rfl ?_
  refine q_getv (v := (6, 2, 0)) (p2 := 4) rfl hE (by decide) rfl rfl ?_
  refine q_const (p2 := 5) rfl rfl ?_
  refine q_callr (xs := [(0, 76, 0), (6, 2, 0)]) (p2 := 6) rfl rfl rfl rfl (x_rcv_s 2 hT.1) rfl (zc_t_is_0 hT (by omega) (by omega)) (Nat.le_refl _) (Nat.le_refl _) rfl ?_
  refine q_if0_s (p2 := 7) rfl (by decide) (by omega) rfl (fun hb => absurd hb (show ¬ (¬ (0 = 0)) by omega)) (fun _ => ?_)
  refine q_load (v := (6, 232, 0)) (p2 := 8) rfl rfl rfl rfl ?_
  refine q_callvE (xs := [(6, 232, 0)]) (p2 := 9) rfl rfl rfl rfl (x_rcv_s 232 hE) rfl (zc_x_some_77 hT hE hC hS (by omega) (by omega) (by omega) hc3 hc4 (by omega) hc5) (Nat.le_refl _) (Nat.le_refl _) rfl (fun φ1 hR1 => ?_)
  obtain ⟨hs1_0, hs1_1, hs1_2, fr1⟩ := hR1
  refine q_iinc (z := 1) (loc2 := [(6, 232, 0), (0, 1, 0), (11, 0, 0)]) (p2 := 10) rfl rfl (by decide) rfl rfl ?_
  refine q_const (p2 := 11) rfl rfl ?_
  refine q_store (loc2 := [(6, 232, 0), (0, 1, 0), (0, 0, 0)]) (p2 := 12) rfl rfl rfl rfl rfl ?_
  refine q_load (v := (0, 0, 0)) (p2 := 13) rfl rfl rfl rfl ?_
  refine q_const (p2 := 14) rfl rfl ?_
  refine q_icmp_s (p2 := 15) rfl (by decide) (by omega) (by omega) rfl (fun hb => absurd hb (show ¬ (¬ (0 < 1000000)) by omega)) (fun _ => ?_)
  refine q_load (v := (6, 232, 0)) (p2 := 16) rfl rfl rfl rfl ?_
  refine q_getv (v := (6, 2, 0)) (p2 := 17) rfl hs1_1 (by decide) rfl rfl ?_
  refine q_const (p2 := 18) rfl rfl ?_
  refine q_callr (xs := [(0, 77, 0), (6, 2, 0)]) (p2 := 19) rfl rfl rfl rfl (x_rcv_s 2 hs1_0.1) rfl (zc_t_is_1 hs1_0 (by omega) (by omega)) (Nat.le_refl _) (Nat.le_refl _) rfl ?_
  refine q_if0_s (p2 := 20) rfl (by decide) (by omega) rfl (fun hb => absurd hb (show ¬ (1 = 0) by omega)) (fun _ => ?_)
  refine q_load (v := (6, 232, 0)) (p2 := 21) rfl rfl rfl rfl ?_
  refine q_getv (v := (6, 2, 0)) (p2 := 22) rfl hs1_1 (by decide) rfl rfl ?_
  refine q_callvE (xs := [(6, 2, 0)]) (p2 := 23) rfl rfl rfl rfl (x_rcv_s 2 hs1_0.1) rfl (zc_t_adv hs1_0 (by omega) (by omega) hc6 rfl rfl) (Nat.le_refl _) (Nat.le_refl _) rfl (fun φ2 hR2 => ?_)
  obtain ⟨hs2_0, fr2⟩ := hR2
  refine q_load (v := (6, 232, 0)) (p2 := 24) rfl rfl rfl rfl ?_
  have hm3 := (zq_E_at hs1_1 (fr2 232 (by decide)))
  have hm4 := (zq_co_at hs1_2 (fr2 450 (by decide)))
  have hm5 := (x_sch_at hS (fun j h1 h2 => ((fr2 j (by omega)).trans (fr1 j (by omega) (by omega) (by omega)))))
  refine q_callvE (xs := [(6, 232, 0)]) (p2 := 25) rfl rfl rfl rfl (x_rcv_s 232 hm3) rfl (zc_x_some_76 hs2_0 hm3 hm4 hm5 (by omega) (by omega) (by omega) hc7 hc8 (by omega) hc9) (Nat.le_refl _) (Nat.le_refl _) rfl (fun φ6 hR6 => ?_)
  obtain ⟨hs6_0, hs6_1, hs6_2, fr6⟩ := hR6
  refine q_iinc (z := 2) (loc2 := [(6, 232, 0), (0, 2, 0), (0, 0, 0)]) (p2 := 26) rfl rfl (by decide) rfl rfl ?_
  refine q_iinc (z := 1) (loc2 := [(6, 232, 0), (0, 2, 0), (0, 1, 0)]) (p2 := 27) rfl rfl (by decide) rfl rfl ?_
  refine q_goto rfl ?_
  refine q_load (v := (0, 1, 0)) (p2 := 13) rfl rfl rfl rfl ?_
  refine q_const (p2 := 14) rfl rfl ?_
  refine q_icmp_s (p2 := 15) rfl (by decide) (by omega) (by omega) rfl (fun hb => absurd hb (show ¬ (¬ (1 < 1000000)) by omega)) (fun _ => ?_)
  refine q_load (v := (6, 232, 0)) (p2 := 16) rfl rfl rfl rfl ?_
  refine q_getv (v := (6, 2, 0)) (p2 := 17) rfl hs6_1 (by decide) rfl rfl ?_
  refine q_const (p2 := 18) rfl rfl ?_
  refine q_callr (xs := [(0, 77, 0), (6, 2, 0)]) (p2 := 19) rfl rfl rfl rfl (x_rcv_s 2 hs6_0.1) rfl (zc_t_is_0 hs6_0 (by omega) (by omega)) (Nat.le_refl _) (Nat.le_refl _) rfl ?_
  refine q_if0_s (p2 := 20) rfl (by decide) (by omega) rfl (fun _ => ?_) (fun hb => absurd (show 0 = 0 by omega) hb)
  refine q_load (v := (6, 232, 0)) (p2 := 29) rfl rfl rfl rfl ?_
  refine q_getv (v := (6, 2, 0)) (p2 := 30) rfl hs6_1 (by decide) rfl rfl ?_
  refine q_const (p2 := 31) rfl rfl ?_
  refine q_callvE (xs := [(0, 76, 0), (6, 2, 0)]) (p2 := 32) rfl rfl rfl rfl (x_rcv_s 2 hs6_0.1) rfl (zc_t_exp hs6_0 (by omega) (by omega) hc10 rfl rfl) (Nat.le_refl _) (Nat.le_refl _) rfl (fun φ7 hR7 => ?_)
  obtain ⟨hs7_0, fr7⟩ := hR7
  refine q_load (v := (6, 232, 0)) (p2 := 33) rfl rfl rfl rfl ?_
  have hm8 := (zq_E_at hs6_1 (fr7 232 (by decide)))
  refine q_getv (v := (6, 2, 0)) (p2 := 34) rfl hm8 (by decide) rfl rfl ?_
  refine q_callvE (xs := [(6, 2, 0)]) (p2 := 35) rfl rfl rfl rfl (x_rcv_s 2 hs7_0.1) rfl (zc_t_close hs7_0 (by omega)) (Nat.le_refl _) (Nat.le_refl _) rfl (fun φ9 hR9 => ?_)
  obtain ⟨hs9_0, fr9⟩ := hR9
  refine q_load (v := (6, 232, 0)) (p2 := 36) rfl rfl rfl rfl ?_
  refine q_const (p2 := 37) rfl rfl ?_
  refine q_load (v := (0, 2, 0)) (p2 := 38) rfl rfl rfl rfl ?_
  have hm10 := (zq_E_at hm8 (fr9 232 (by decide)))
  have hm11 := (zq_co_at hs6_2 ((fr9 450 (by decide)).trans (fr7 450 (by decide))))
  have hm12 := (x_sch_at hm5 (fun j h1 h2 => ((fr9 j (by omega)).trans ((fr7 j (by omega)).trans (fr6 j (by omega) (by omega) (by omega))))))
  refine q_callvE (xs := [(0, 2, 0), (0, 18, 0), (6, 232, 0)]) (p2 := 39) rfl rfl rfl rfl (x_rcv_s 232 hm10) rfl (zc_x_em2 hm10 hm11 hm12 (by omega)) (Nat.le_refl _) (Nat.le_refl _) rfl (fun φ13 hR13 => ?_)
  obtain ⟨hs13_0, hs13_1, fr13⟩ := hR13
  have hm14 := (zq_T_at hs9_0 (fr13 2 (by decide) (by decide)) (fr13 3 (by decide) (by decide)) (fr13 4 (by decide) (by decide)) (fr13 5 (by decide) (by decide)) (fr13 6 (by decide) (by decide)))
  exact q_ret rfl (⟨rfl, rfl, rfl, hm14, hs13_0, hs13_1, fun j hj0 hj1 hj2 => ((fr13 j (by omega) (by omega)).trans ((fr9 j (by omega)).trans ((fr7 j (by omega)).trans ((fr6 j (by omega) (by omega) (by omega)).trans ((fr2 j (by omega)).trans (fr1 j (by omega) (by omega) (by omega)))))))⟩)
theorem zc_x_base_list {d n sl : Nat} {φ : FH} {pl : Nat} {va : Nat} {fp : Nat} {sp : Nat} {K : Nat → Nat} {P : Nat → Nat} {V : Nat → Nat} {top : Nat} {hid : Nat} {lc : Nat} {slo : Nat} {own : Nat} {sk : Nat} {co : Nat → Nat} {w1 : Nat} {w2 : Nat} {st : Nat} {cv : Nat} (hT : zq_T φ 8 0 75 pl va 0 fp 0 sp 0 0 K P V) (hE : zq_E φ 1 top hid lc slo own sk) (hC : zq_co φ co) (hS : x_sch φ) (hN : zq_nm φ) (hc0 : top < 1000) (hc1 : st < 1000) (hc2 : co (st + 1) = cv) (hc3 : cv < 100) (hc4 : K 1 = 82) (hc5 : K 2 = 2) (hc6 : V 2 = w1) (hc7 : K 3 = 77) (hc8 : K 4 = 82) (hc9 : K 5 = 2) (hc10 : V 5 = w2) (hc11 : K 6 = 76) (hc12 : K 7 = 0) (hc13 : w1 < 2147483648 ∧ w2 < 2147483648) : x_f x_P (d + 11) 324 [(6, 232, 0), (0, st, 0), (11, 0, 0), (11, 0, 0), (11, 0, 0), (11, 0, 0)] φ n sl (x_vR n sl (fun φ2 => zq_T φ2 8 7 0 (P 7) (V 7) 0 fp 0 sp 3 0 K P V ∧ zq_E φ2 1 (top + 14) hid lc slo own sk ∧ zq_co φ2 (x_s (x_s (x_s (x_s (x_s (x_s (x_s (x_s (x_s (x_s (x_s (x_s (x_s (x_s (x_s (x_s (x_s co (st + 1) (cv + 1)) top 1) (top + 1) 0) (top + 1) 1) (top + 2) 7) (top + 3) w1) (top + 4) 3) (top + 5) 1) (top + 6) 1) (top + 7) 0) (top + 7) 1) (top + 8) 7) (top + 9) w2) (top + 10) 3) (top + 11) 1) (top + 12) 18) (top + 13) 2) ∧ ∀ j, j ≠ 2 → j ≠ 232 → j ≠ 450 → φ2 j = φ j)) := by
  refine x_f_of rfl ?_
  refine q_load (v := (6, 232, 0)) (p2 := 1) rfl rfl rfl rfl ?_
  refine q_getv (v := (6, 2, 0)) (p2 := 2) rfl hE (by decide) rfl rfl ?_
  refine q_getv (v := (0, 75, 0)) (p2 := 3) rfl hT.1 (by decide) rfl rfl ?_
  refine q_switch (tgt := 20) rfl (by decide) rfl ?_
  refine q_load (v := (6, 232, 0)) (p2 := 21) rfl rfl rfl rfl ?_
  refine q_getv (v := (6, 2, 0)) (p2 := 22) rfl hE (by decide) rfl rfl ?_
  refine q_callvE (xs := [(6, 2, 0)]) (p2 := 23) rfl rfl rfl rfl (x_rcv_s 2 hT.1) rfl (zc_t_open hT (by omega)) (Nat.le_refl _) (Nat.le_refl _) rfl (fun φ1 hR1 => ?_)
  obtain ⟨hs1_0, fr1⟩ := hR1
  refine q_load (v := (6, 232, 0)) (p2 := 24) rfl rfl rfl rfl ?_
  refine q_load (v := (0, st, 0)) (p2 := 25) rfl rfl rfl rfl ?_
  have hm2 := (zq_E_at hE (fr1 232 (by decide)))
  have hm3 := (zq_co_at hC (fr1 450 (by decide)))
  have hm4 := (x_sch_at hS (fun j h1 h2 => (fr1 j (by omega))))
  refine q_callvE (xs := [(0, st, 0), (6, 232, 0)]) (p2 := 26) rfl rfl rfl rfl (x_rcv_s 232 hm2) rfl (zc_x_oper hs1_0 hm2 hm3 hm4 (by omega) hc2 (by omega) (by omega) (by omega) (by omega) hc4 rfl rfl) (Nat.le_refl _) (Nat.le_refl _) rfl (fun φ5 hR5 => ?_)
  obtain ⟨hs5_0, hs5_1, fr5⟩ := hR5
  refine q_load (v := (6, 232, 0)) (p2 := 27) rfl rfl rfl rfl ?_
  have hm6 := (zq_E_at hm2 (fr5 232 (by decide) (by decide)))
  have hm7 := (x_sch_at hm4 (fun j h1 h2 => (fr5 j (by omega) (by omega))))
  refine q_callvE (xs := [(6, 232, 0)]) (p2 := 28) rfl rfl rfl rfl (x_rcv_s 232 hm6) rfl (zc_x_list hs5_0 hm6 hs5_1 hm7 (by omega) (by omega) hc4 hc5 hc6 hc7 hc8 hc9 hc10 hc11 hc12 (by omega)) (Nat.le_refl _) (Nat.le_refl _) rfl (fun φ8 hR8 => ?_)
  obtain ⟨hs8_0, hs8_1, hs8_2, fr8⟩ := hR8
  refine q_goto rfl ?_
  exact q_ret rfl (⟨rfl, rfl, rfl, hs8_0, hs8_1, hs8_2, fun j hj0 hj1 hj2 => ((fr8 j (by omega) (by omega) (by omega)).trans ((fr5 j (by omega) (by omega)).trans (fr1 j (by omega))))⟩)
theorem zc_x_part_list {d n sl : Nat} {φ : FH} {pl : Nat} {va : Nat} {fp : Nat} {sp : Nat} {K : Nat → Nat} {P : Nat → Nat} {V : Nat → Nat} {top : Nat} {hid : Nat} {lc : Nat} {slo : Nat} {own : Nat} {sk : Nat} {co : Nat → Nat} {w1 : Nat} {w2 : Nat} {st : Nat} {cv : Nat} (hT : zq_T φ 8 0 75 pl va 0 fp 0 sp 0 0 K P V) (hE : zq_E φ 1 top hid lc slo own sk) (hC : zq_co φ co) (hS : x_sch φ) (hN : zq_nm φ) (hc0 : top < 1000) (hc1 : st < 1000) (hc2 : co (st + 1) = cv) (hc3 : cv < 100) (hc4 : K 1 = 82) (hc5 : K 2 = 2) (hc6 : V 2 = w1) (hc7 : K 3 = 77) (hc8 : K 4 = 82) (hc9 : K 5 = 2) (hc10 : V 5 = w2) (hc11 : K 6 = 76) (hc12 : K 7 = 0) (hc13 : w1 < 2147483648 ∧ w2 < 2147483648) : x_f x_P (d + 12) 323 [(6, 232, 0), (0, st, 0), (11, 0, 0)] φ n sl (x_vR n sl (fun φ2 => zq_T φ2 8 7 0 (P 7) (V 7) 0 fp 0 sp 3 0 K P V ∧ zq_E φ2 1 (top + 14) hid lc slo own sk ∧ zq_co φ2 (x_s (x_s (x_s (x_s (x_s (x_s (x_s (x_s (x_s (x_s (x_s (x_s (x_s (x_s (x_s (x_s (x_s co (st + 1) (cv + 1)) top 1) (top + 1) 0) (top + 1) 1) (top + 2) 7) (top + 3) w1) (top + 4) 3) (top + 5) 1) (top + 6) 1) (top + 7) 0) (top + 7) 1) (top + 8) 7) (top + 9) w2) (top + 10) 3) (top + 11) 1) (top + 12) 18) (top + 13) 2) ∧ ∀ j, j ≠ 2 → j ≠ 232 → j ≠ 450 → φ2 j = φ j)) := by
  refine x_f_of rfl ?_
  refine q_load (v := (6, 232, 0)) (p2 := 1) rfl rfl rfl rfl ?_
  refine q_load (v := (0, st, 0)) (p2 := 2) rfl rfl rfl rfl ?_
  refine q_callvE (xs := [(0, st, 0), (6, 232, 0)]) (p2 := 3) rfl rfl rfl rfl (x_rcv_s 232 hE) rfl (zc_x_base_list hT hE hC hS hN (by omega) (by omega) hc2 (by omega) hc4 hc5 hc6 hc7 hc8 hc9 hc10 hc11 hc12 (by omega)) (Nat.le_refl _) (Nat.le_refl _) rfl (fun φ1 hR1 => ?_)
  obtain ⟨hs1_0, hs1_1, hs1_2, fr1⟩ := hR1
  refine q_const (p2 := 4) rfl rfl ?_
  refine q_store (loc2 := [(6, 232, 0), (0, st, 0), (0, 0, 0)]) (p2 := 5) rfl rfl rfl rfl rfl ?_
  refine q_load (v := (0, 0, 0)) (p2 := 6) rfl rfl rfl rfl ?_
  refine q_const (p2 := 7) rfl rfl ?_
  refine q_icmp_s (p2 := 8) rfl (by decide) (by omega) (by omega) rfl (fun hb => absurd hb (show ¬ (¬ (0 < 1000000)) by omega)) (fun _ => ?_)
  refine q_load (v := (6, 232, 0)) (p2 := 9) rfl rfl rfl rfl ?_
  refine q_getv (v := (6, 2, 0)) (p2 := 10) rfl hs1_1 (by decide) rfl rfl ?_
  refine q_const (p2 := 11) rfl rfl ?_
  refine q_callr (xs := [(0, 80, 0), (6, 2, 0)]) (p2 := 12) rfl rfl rfl rfl (x_rcv_s 2 hs1_0.1) rfl (zc_t_is_0 hs1_0 (by omega) (by omega)) (Nat.le_refl _) (Nat.le_refl _) rfl ?_
  refine q_if0_s (p2 := 13) rfl (by decide) (by omega) rfl (fun hb => absurd hb (show ¬ (¬ (0 = 0)) by omega)) (fun _ => ?_)
  refine q_load (v := (6, 232, 0)) (p2 := 14) rfl rfl rfl rfl ?_
  refine q_getv (v := (6, 2, 0)) (p2 := 15) rfl hs1_1 (by decide) rfl rfl ?_
  refine q_const (p2 := 16) rfl rfl ?_
  refine q_callr (xs := [(0, 75, 0), (6, 2, 0)]) (p2 := 17) rfl rfl rfl rfl (x_rcv_s 2 hs1_0.1) rfl (zc_t_is_0 hs1_0 (by omega) (by omega)) (Nat.le_refl _) (Nat.le_refl _) rfl ?_
  refine q_if0_s (p2 := 18) rfl (by decide) (by omega) rfl (fun _ => ?_) (fun hb => absurd (show 0 = 0 by omega) hb)
  exact q_ret rfl (⟨rfl, rfl, rfl, hs1_0, hs1_1, hs1_2, fun j hj0 hj1 hj2 => (fr1 j (by omega) (by omega) (by omega))⟩)
theorem zc_x_fact_list {d n sl : Nat} {φ : FH} {pl : Nat} {va : Nat} {fp : Nat} {sp : Nat} {K : Nat → Nat} {P : Nat → Nat} {V : Nat → Nat} {top : Nat} {hid : Nat} {lc : Nat} {slo : Nat} {own : Nat} {sk : Nat} {co : Nat → Nat} {w1 : Nat} {w2 : Nat} (hT : zq_T φ 8 0 75 pl va 0 fp 0 sp 0 0 K P V) (hE : zq_E φ 1 top hid lc slo own sk) (hC : zq_co φ co) (hS : x_sch φ) (hN : zq_nm φ) (hc0 : top < 900) (hc1 : K 1 = 82) (hc2 : K 2 = 2) (hc3 : V 2 = w1) (hc4 : K 3 = 77) (hc5 : K 4 = 82) (hc6 : K 5 = 2) (hc7 : V 5 = w2) (hc8 : K 6 = 76) (hc9 : K 7 = 0) (hc10 : w1 < 2147483648 ∧ w2 < 2147483648) : x_f x_P (d + 13) 318 [(6, 232, 0), (11, 0, 0), (11, 0, 0)] φ n sl (x_vR n sl (fun φ2 => zq_T φ2 8 7 0 (P 7) (V 7) 0 fp 0 sp 3 0 K P V ∧ zq_E φ2 1 (top + 16) hid lc slo own sk ∧ zq_co φ2 (x_s (x_s (x_s (x_s (x_s (x_s (x_s (x_s (x_s (x_s (x_s (x_s (x_s (x_s (x_s (x_s (x_s (x_s (x_s co top 1) (top + 1) 0) (top + 1) 1) (top + 2) 1) (top + 3) 0) (top + 3) 1) (top + 4) 7) (top + 5) w1) (top + 6) 3) (top + 7) 1) (top + 8) 1) (top + 9) 0) (top + 9) 1) (top + 10) 7) (top + 11) w2) (top + 12) 3) (top + 13) 1) (top + 14) 18) (top + 15) 2) ∧ ∀ j, j ≠ 2 → j ≠ 232 → j ≠ 450 → φ2 j = φ j)) := by
  refine x_f_of rfl ?_
  refine q_load (v := (6, 232, 0)) (p2 := 1) rfl rfl rfl rfl ?_
  refine q_getv (v := (0, top, 0)) (p2 := 2) rfl hE (by decide) rfl rfl ?_
  refine q_store (loc2 := [(6, 232, 0), (0, top, 0), (11, 0, 0)]) (p2 := 3) rfl rfl rfl rfl rfl ?_
  refine q_load (v := (6, 232, 0)) (p2 := 4) rfl rfl rfl rfl ?_
  refine q_const (p2 := 5) rfl rfl ?_
  refine q_const (p2 := 6) rfl rfl ?_
  refine q_callvE (xs := [(0, 0, 0), (0, 1, 0), (6, 232, 0)]) (p2 := 7) rfl rfl rfl rfl (x_rcv_s 232 hE) rfl (zc_x_em2 hE hC hS (by omega)) (Nat.le_refl _) (Nat.le_refl _) rfl (fun φ1 hR1 => ?_)
  obtain ⟨hs1_0, hs1_1, fr1⟩ := hR1
  refine q_load (v := (6, 232, 0)) (p2 := 8) rfl rfl rfl rfl ?_
  refine q_getv (v := (6, 2, 0)) (p2 := 9) rfl hs1_0 (by decide) rfl rfl ?_
  have hm2 := (zq_T_at hT (fr1 2 (by decide) (by decide)) (fr1 3 (by decide) (by decide)) (fr1 4 (by decide) (by decide)) (fr1 5 (by decide) (by decide)) (fr1 6 (by decide) (by decide)))
  refine q_getv (v := (0, 75, 0)) (p2 := 10) rfl hm2.1 (by decide) rfl rfl ?_
  refine q_store (loc2 := [(6, 232, 0), (0, top, 0), (0, 75, 0)]) (p2 := 11) rfl rfl rfl rfl rfl ?_
  refine q_load (v := (0, 75, 0)) (p2 := 12) rfl rfl rfl rfl ?_
  refine q_const (p2 := 13) rfl rfl ?_
  refine q_icmp_s (p2 := 14) rfl (by decide) (by omega) (by omega) rfl (fun hb => absurd hb (show ¬ (75 = 70) by omega)) (fun _ => ?_)
  refine q_load (v := (0, 75, 0)) (p2 := 15) rfl rfl rfl rfl ?_
  refine q_const (p2 := 16) rfl rfl ?_
  refine q_icmp_s (p2 := 17) rfl (by decide) (by omega) (by omega) rfl (fun hb => absurd hb (show ¬ (75 = 51) by omega)) (fun _ => ?_)
  refine q_load (v := (6, 232, 0)) (p2 := 18) rfl rfl rfl rfl ?_
  refine q_load (v := (0, top, 0)) (p2 := 19) rfl rfl rfl rfl ?_
  have hm3 := (x_sch_at hS (fun j h1 h2 => (fr1 j (by omega) (by omega))))
  have hm4 := (zq_nm_at hN (fr1 239 (by decide) (by decide)) (fr1 242 (by decide) (by decide)) (fr1 244 (by decide) (by decide)))
  refine q_callvE (xs := [(0, top, 0), (6, 232, 0)]) (p2 := 20) rfl rfl rfl rfl (x_rcv_s 232 hs1_0) rfl (zc_x_part_list hm2 hs1_0 hs1_1 hm3 hm4 (by omega) (by omega) (x_s_eq) (by omega) hc1 hc2 hc3 hc4 hc5 hc6 hc7 hc8 hc9 (by omega)) (Nat.le_refl _) (Nat.le_refl _) rfl (fun φ5 hR5 => ?_)
  obtain ⟨hs5_0, hs5_1, hs5_2, fr5⟩ := hR5
  exact q_ret rfl (⟨rfl, rfl, rfl, hs5_0, hs5_1, hs5_2, fun j hj0 hj1 hj2 => ((fr5 j (by omega) (by omega) (by omega)).trans (fr1 j (by omega) (by omega)))⟩)
theorem zc_x_term_list {d n sl : Nat} {φ : FH} {pl : Nat} {va : Nat} {fp : Nat} {sp : Nat} {K : Nat → Nat} {P : Nat → Nat} {V : Nat → Nat} {top : Nat} {hid : Nat} {lc : Nat} {slo : Nat} {own : Nat} {sk : Nat} {co : Nat → Nat} {w1 : Nat} {w2 : Nat} (hT : zq_T φ 8 0 75 pl va 0 fp 0 sp 0 0 K P V) (hE : zq_E φ 1 top hid lc slo own sk) (hC : zq_co φ co) (hS : x_sch φ) (hN : zq_nm φ) (hc0 : top < 800) (hc1 : K 1 = 82) (hc2 : K 2 = 2) (hc3 : V 2 = w1) (hc4 : K 3 = 77) (hc5 : K 4 = 82) (hc6 : K 5 = 2) (hc7 : V 5 = w2) (hc8 : K 6 = 76) (hc9 : K 7 = 0) (hc10 : w1 < 2147483648 ∧ w2 < 2147483648) : x_f x_P (d + 14) 291 [(6, 232, 0), (11, 0, 0), (11, 0, 0), (11, 0, 0)] φ n sl (x_vR n sl (fun φ2 => zq_T φ2 8 7 0 (P 7) (V 7) 0 fp 0 sp 3 0 K P V ∧ zq_E φ2 1 (top + 16) hid lc slo own sk ∧ zq_co φ2 (x_s (x_s (x_s (x_s (x_s (x_s (x_s (x_s (x_s (x_s (x_s (x_s (x_s (x_s (x_s (x_s (x_s (x_s (x_s co top 1) (top + 1) 0) (top + 1) 1) (top + 2) 1) (top + 3) 0) (top + 3) 1) (top + 4) 7) (top + 5) w1) (top + 6) 3) (top + 7) 1) (top + 8) 1) (top + 9) 0) (top + 9) 1) (top + 10) 7) (top + 11) w2) (top + 12) 3) (top + 13) 1) (top + 14) 18) (top + 15) 2) ∧ ∀ j, j ≠ 2 → j ≠ 232 → j ≠ 450 → φ2 j = φ j)) := by
  refine x_f_of rfl ?_
  refine q_load (v := (6, 232, 0)) (p2 := 1) rfl rfl rfl rfl ?_
  refine q_getv (v := (0, top, 0)) (p2 := 2) rfl hE (by decide) rfl rfl ?_
  refine q_store (loc2 := [(6, 232, 0), (0, top, 0), (11, 0, 0), (11, 0, 0)]) (p2 := 3) rfl rfl rfl rfl rfl ?_
  refine q_load (v := (6, 232, 0)) (p2 := 4) rfl rfl rfl rfl ?_
  refine q_callvE (xs := [(6, 232, 0)]) (p2 := 5) rfl rfl rfl rfl (x_rcv_s 232 hE) rfl (zc_x_fact_list hT hE hC hS hN (by omega) hc1 hc2 hc3 hc4 hc5 hc6 hc7 hc8 hc9 (by omega)) (Nat.le_refl _) (Nat.le_refl _) rfl (fun φ1 hR1 => ?_)
  obtain ⟨hs1_0, hs1_1, hs1_2, fr1⟩ := hR1
  refine q_const (p2 := 6) rfl rfl ?_
  refine q_store (loc2 := [(6, 232, 0), (0, top, 0), (0, 0, 0), (11, 0, 0)]) (p2 := 7) rfl rfl rfl rfl rfl ?_
  refine q_load (v := (0, 0, 0)) (p2 := 8) rfl rfl rfl rfl ?_
  refine q_const (p2 := 9) rfl rfl ?_
  refine q_icmp_s (p2 := 10) rfl (by decide) (by omega) (by omega) rfl (fun hb => absurd hb (show ¬ (¬ (0 < 1000000)) by omega)) (fun _ => ?_)
  refine q_load (v := (6, 232, 0)) (p2 := 11) rfl rfl rfl rfl ?_
  refine q_getv (v := (6, 2, 0)) (p2 := 12) rfl hs1_1 (by decide) rfl rfl ?_
  refine q_getv (v := (0, 0, 0)) (p2 := 13) rfl hs1_0.1 (by decide) rfl rfl ?_
  refine q_callr (xs := [(0, 0, 0)]) (p2 := 14) rfl rfl rfl rfl (fun _ _ => rfl) rfl (zc_a_319_0 ) (Nat.le_refl _) (Nat.le_refl _) rfl ?_
  refine q_if0_s (p2 := 15) rfl (by decide) (by omega) rfl (fun _ => ?_) (fun hb => absurd (show 0 = 0 by omega) hb)
  exact q_ret rfl (⟨rfl, rfl, rfl, hs1_0, hs1_1, hs1_2, fun j hj0 hj1 hj2 => (fr1 j (by omega) (by omega) (by omega))⟩)
theorem zc_x_sum_list {d n sl : Nat} {φ : FH} {pl : Nat} {va : Nat} {fp : Nat} {sp : Nat} {K : Nat → Nat} {P : Nat → Nat} {V : Nat → Nat} {top : Nat} {hid : Nat} {lc : Nat} {slo : Nat} {own : Nat} {sk : Nat} {co : Nat → Nat} {w1 : Nat} {w2 : Nat} (hT : zq_T φ 8 0 75 pl va 0 fp 0 sp 0 0 K P V) (hE : zq_E φ 1 top hid lc slo own sk) (hC : zq_co φ co) (hS : x_sch φ) (hN : zq_nm φ) (hc0 : top < 700) (hc1 : K 1 = 82) (hc2 : K 2 = 2) (hc3 : V 2 = w1) (hc4 : K 3 = 77) (hc5 : K 4 = 82) (hc6 : K 5 = 2) (hc7 : V 5 = w2) (hc8 : K 6 = 76) (hc9 : K 7 = 0) (hc10 : w1 < 2147483648 ∧ w2 < 2147483648) : x_f x_P (d + 15) 245 [(6, 232, 0), (11, 0, 0), (11, 0, 0), (11, 0, 0)] φ n sl (x_vR n sl (fun φ2 => zq_T φ2 8 7 0 (P 7) (V 7) 0 fp 0 sp 3 0 K P V ∧ zq_E φ2 1 (top + 16) hid lc slo own sk ∧ zq_co φ2 (x_s (x_s (x_s (x_s (x_s (x_s (x_s (x_s (x_s (x_s (x_s (x_s (x_s (x_s (x_s (x_s (x_s (x_s (x_s co top 1) (top + 1) 0) (top + 1) 1) (top + 2) 1) (top + 3) 0) (top + 3) 1) (top + 4) 7) (top + 5) w1) (top + 6) 3) (top + 7) 1) (top + 8) 1) (top + 9) 0) (top + 9) 1) (top + 10) 7) (top + 11) w2) (top + 12) 3) (top + 13) 1) (top + 14) 18) (top + 15) 2) ∧ ∀ j, j ≠ 2 → j ≠ 232 → j ≠ 450 → φ2 j = φ j)) := by
  refine x_f_of rfl ?_
  refine q_load (v := (6, 232, 0)) (p2 := 1) rfl rfl rfl rfl ?_
  refine q_getv (v := (0, top, 0)) (p2 := 2) rfl hE (by decide) rfl rfl ?_
  refine q_store (loc2 := [(6, 232, 0), (0, top, 0), (11, 0, 0), (11, 0, 0)]) (p2 := 3) rfl rfl rfl rfl rfl ?_
  refine q_load (v := (6, 232, 0)) (p2 := 4) rfl rfl rfl rfl ?_
  refine q_callvE (xs := [(6, 232, 0)]) (p2 := 5) rfl rfl rfl rfl (x_rcv_s 232 hE) rfl (zc_x_term_list hT hE hC hS hN (by omega) hc1 hc2 hc3 hc4 hc5 hc6 hc7 hc8 hc9 (by omega)) (Nat.le_refl _) (Nat.le_refl _) rfl (fun φ1 hR1 => ?_)
  obtain ⟨hs1_0, hs1_1, hs1_2, fr1⟩ := hR1
  refine q_const (p2 := 6) rfl rfl ?_
  refine q_store (loc2 := [(6, 232, 0), (0, top, 0), (0, 0, 0), (11, 0, 0)]) (p2 := 7) rfl rfl rfl rfl rfl ?_
  refine q_load (v := (0, 0, 0)) (p2 := 8) rfl rfl rfl rfl ?_
  refine q_const (p2 := 9) rfl rfl ?_
  refine q_icmp_s (p2 := 10) rfl (by decide) (by omega) (by omega) rfl (fun hb => absurd hb (show ¬ (¬ (0 < 1000000)) by omega)) (fun _ => ?_)
  refine q_load (v := (6, 232, 0)) (p2 := 11) rfl rfl rfl rfl ?_
  refine q_getv (v := (6, 2, 0)) (p2 := 12) rfl hs1_1 (by decide) rfl rfl ?_
  refine q_getv (v := (0, 0, 0)) (p2 := 13) rfl hs1_0.1 (by decide) rfl rfl ?_
  refine q_callr (xs := [(0, 0, 0)]) (p2 := 14) rfl rfl rfl rfl (fun _ _ => rfl) rfl (zc_a_292_0 ) (Nat.le_refl _) (Nat.le_refl _) rfl ?_
  refine q_if0_s (p2 := 15) rfl (by decide) (by omega) rfl (fun _ => ?_) (fun hb => absurd (show 0 = 0 by omega) hb)
  exact q_ret rfl (⟨rfl, rfl, rfl, hs1_0, hs1_1, hs1_2, fun j hj0 hj1 hj2 => (fr1 j (by omega) (by omega) (by omega))⟩)
theorem zc_x_exp_list {d n sl : Nat} {φ : FH} {pl : Nat} {va : Nat} {fp : Nat} {sp : Nat} {K : Nat → Nat} {P : Nat → Nat} {V : Nat → Nat} {top : Nat} {hid : Nat} {lc : Nat} {slo : Nat} {own : Nat} {sk : Nat} {co : Nat → Nat} {w1 : Nat} {w2 : Nat} (hT : zq_T φ 8 0 75 pl va 0 fp 0 sp 0 0 K P V) (hE : zq_E φ 1 top hid lc slo own sk) (hC : zq_co φ co) (hS : x_sch φ) (hN : zq_nm φ) (hc0 : top < 600) (hc1 : K 1 = 82) (hc2 : K 2 = 2) (hc3 : V 2 = w1) (hc4 : K 3 = 77) (hc5 : K 4 = 82) (hc6 : K 5 = 2) (hc7 : V 5 = w2) (hc8 : K 6 = 76) (hc9 : K 7 = 0) (hc10 : w1 < 2147483648 ∧ w2 < 2147483648) : x_f x_P (d + 16) 177 [(6, 232, 0), (11, 0, 0), (11, 0, 0)] φ n sl (x_vR n sl (fun φ2 => zq_T φ2 8 7 0 (P 7) (V 7) 0 fp 0 sp 3 0 K P V ∧ zq_E φ2 1 (top + 16) hid lc slo own sk ∧ zq_co φ2 (x_s (x_s (x_s (x_s (x_s (x_s (x_s (x_s (x_s (x_s (x_s (x_s (x_s (x_s (x_s (x_s (x_s (x_s (x_s co top 1) (top + 1) 0) (top + 1) 1) (top + 2) 1) (top + 3) 0) (top + 3) 1) (top + 4) 7) (top + 5) w1) (top + 6) 3) (top + 7) 1) (top + 8) 1) (top + 9) 0) (top + 9) 1) (top + 10) 7) (top + 11) w2) (top + 12) 3) (top + 13) 1) (top + 14) 18) (top + 15) 2) ∧ ∀ j, j ≠ 2 → j ≠ 232 → j ≠ 450 → φ2 j = φ j)) := by
  refine x_f_of rfl ?_
  refine q_load (v := (6, 232, 0)) (p2 := 1) rfl rfl rfl rfl ?_
  refine q_getv (v := (0, top, 0)) (p2 := 2) rfl hE (by decide) rfl rfl ?_
  refine q_store (loc2 := [(6, 232, 0), (0, top, 0), (11, 0, 0)]) (p2 := 3) rfl rfl rfl rfl rfl ?_
  refine q_load (v := (6, 232, 0)) (p2 := 4) rfl rfl rfl rfl ?_
  refine q_callvE (xs := [(6, 232, 0)]) (p2 := 5) rfl rfl rfl rfl (x_rcv_s 232 hE) rfl (zc_x_sum_list hT hE hC hS hN (by omega) hc1 hc2 hc3 hc4 hc5 hc6 hc7 hc8 hc9 (by omega)) (Nat.le_refl _) (Nat.le_refl _) rfl (fun φ1 hR1 => ?_)
  obtain ⟨hs1_0, hs1_1, hs1_2, fr1⟩ := hR1
  refine q_load (v := (6, 232, 0)) (p2 := 6) rfl rfl rfl rfl ?_
  refine q_getv (v := (6, 2, 0)) (p2 := 7) rfl hs1_1 (by decide) rfl rfl ?_
  refine q_getv (v := (0, 0, 0)) (p2 := 8) rfl hs1_0.1 (by decide) rfl rfl ?_
  refine q_store (loc2 := [(6, 232, 0), (0, top, 0), (0, 0, 0)]) (p2 := 9) rfl rfl rfl rfl rfl ?_
  refine q_load (v := (0, 0, 0)) (p2 := 10) rfl rfl rfl rfl ?_
  refine q_const (p2 := 11) rfl rfl ?_
  refine q_icmp_s (p2 := 12) rfl (by decide) (by omega) (by omega) rfl (fun _ => ?_) (fun hb => absurd (show 0 < 60 by omega) hb)
  refine q_load (v := (0, 0, 0)) (p2 := 16) rfl rfl rfl rfl ?_
  refine q_const (p2 := 17) rfl rfl ?_
  refine q_icmp_s (p2 := 18) rfl (by decide) (by omega) (by omega) rfl (fun _ => ?_) (fun hb => absurd (show ¬ (0 = 52) by omega) hb)
  exact q_ret rfl (⟨rfl, rfl, rfl, hs1_0, hs1_1, hs1_2, fun j hj0 hj1 hj2 => (fr1 j (by omega) (by omega) (by omega))⟩)
theorem zc_x_exp_eq {d n sl : Nat} {φ : FH} {pl : Nat} {va : Nat} {fp : Nat} {sp : Nat} {K : Nat → Nat} {P : Nat → Nat} {V : Nat → Nat} {top : Nat} {hid : Nat} {lc : Nat} {slo : Nat} {own : Nat} {sk : Nat} {co : Nat → Nat} {w1 : Nat} {w2 : Nat} (hT : zq_T φ 6 0 82 pl va 0 fp 0 sp 0 0 K P V) (hE : zq_E φ 1 top hid lc slo own sk) (hC : zq_co φ co) (hS : x_sch φ) (hN : zq_nm φ) (hc0 : top < 600) (hc1 : K 1 = 2) (hc2 : V 1 = w1) (hc3 : K 2 = 64) (hc4 : K 3 = 82) (hc5 : K 4 = 2) (hc6 : V 4 = w2) (hc7 : K 5 = 0) (hc8 : w1 < 2147483648 ∧ w2 < 2147483648) : x_f x_P (d + 8) 177 [(6, 232, 0), (11, 0, 0), (11, 0, 0)] φ n sl (x_vR n sl (fun φ2 => zq_T φ2 6 5 0 (P 5) (V 5) 0 fp 0 sp 3 0 K P V ∧ zq_E φ2 1 (top + 10) hid lc slo own sk ∧ zq_co φ2 (x_s (x_s (x_s (x_s (x_s (x_s (x_s (x_s (x_s (x_s (x_s (x_s (x_s co top 1) (top + 1) 0) (top + 1) 1) (top + 2) 7) (top + 3) w1) (top + 1) 2) (top + 4) 1) (top + 5) 0) (top + 5) 1) (top + 6) 7) (top + 7) w2) (top + 8) 15) (top + 9) 64) ∧ ∀ j, j ≠ 2 → j ≠ 232 → j ≠ 450 → φ2 j = φ j)) := by
  refine x_f_of rfl ?_
  refine q_load (v := (6, 232, 0)) (p2 := 1) rfl rfl rfl rfl ?_
  refine q_getv (v := (0, top, 0)) (p2 := 2) rfl hE (by decide) rfl rfl ?_
  refine q_store (loc2 := [(6, 232, 0), (0, top, 0), (11, 0, 0)]) (p2 := 3) rfl rfl rfl rfl rfl ?_
  refine q_load (v := (6, 232, 0)) (p2 := 4) rfl rfl rfl rfl ?_
  refine q_callvE (xs := [(6, 232, 0)]) (p2 := 5) rfl rfl rfl rfl (x_rcv_s 232 hE) rfl (zc_x_sum82_64 hT hE hC hS (by omega) (by omega) (by omega) hc1 hc2 (by omega) hc3) (Nat.le_refl _) (Nat.le_refl _) rfl (fun φ1 hR1 => ?_)
  obtain ⟨hs1_0, hs1_1, hs1_2, fr1⟩ := hR1
  refine q_load (v := (6, 232, 0)) (p2 := 6) rfl rfl rfl rfl ?_
  refine q_getv (v := (6, 2, 0)) (p2 := 7) rfl hs1_1 (by decide) rfl rfl ?_
  refine q_getv (v := (0, 64, 0)) (p2 := 8) rfl hs1_0.1 (by decide) rfl rfl ?_
  refine q_store (loc2 := [(6, 232, 0), (0, top, 0), (0, 64, 0)]) (p2 := 9) rfl rfl rfl rfl rfl ?_
  refine q_load (v := (0, 64, 0)) (p2 := 10) rfl rfl rfl rfl ?_
  refine q_const (p2 := 11) rfl rfl ?_
  refine q_icmp_s (p2 := 12) rfl (by decide) (by omega) (by omega) rfl (fun hb => absurd hb (show ¬ (64 < 60) by omega)) (fun _ => ?_)
  refine q_load (v := (0, 64, 0)) (p2 := 13) rfl rfl rfl rfl ?_
  refine q_const (p2 := 14) rfl rfl ?_
  refine q_icmp_s (p2 := 15) rfl (by decide) (by omega) (by omega) rfl (fun _ => ?_) (fun hb => absurd (show ¬ (66 < 64) by omega) hb)
  refine q_load (v := (6, 232, 0)) (p2 := 19) rfl rfl rfl rfl ?_
  refine q_load (v := (0, top, 0)) (p2 := 20) rfl rfl rfl rfl ?_
  have hm2 := (x_sch_at hS (fun j h1 h2 => (fr1 j (by omega) (by omega) (by omega))))
  refine q_callvE (xs := [(0, top, 0), (6, 232, 0)]) (p2 := 21) rfl rfl rfl rfl (x_rcv_s 232 hs1_1) rfl (zc_x_oper hs1_0 hs1_1 hs1_2 hm2 (by omega) ((x_s_ne (by omega)).trans ((x_s_ne (by omega)).trans (x_s_eq))) (by omega) (by omega) (by omega) (by omega) hc4 rfl rfl) (Nat.le_refl _) (Nat.le_refl _) rfl (fun φ3 hR3 => ?_)
  obtain ⟨hs3_0, hs3_1, fr3⟩ := hR3
  refine q_load (v := (6, 232, 0)) (p2 := 22) rfl rfl rfl rfl ?_
  have hm4 := (zq_E_at hs1_1 (fr3 232 (by decide) (by decide)))
  have hm5 := (x_sch_at hm2 (fun j h1 h2 => (fr3 j (by omega) (by omega))))
  refine q_callvE (xs := [(6, 232, 0)]) (p2 := 23) rfl rfl rfl rfl (x_rcv_s 232 hm4) rfl (zc_x_sum82_0 hs3_0 hm4 hs3_1 hm5 (by omega) (by omega) (by omega) hc5 hc6 (by omega) hc7) (Nat.le_refl _) (Nat.le_refl _) rfl (fun φ6 hR6 => ?_)
  obtain ⟨hs6_0, hs6_1, hs6_2, fr6⟩ := hR6
  refine q_load (v := (6, 232, 0)) (p2 := 24) rfl rfl rfl rfl ?_
  refine q_const (p2 := 25) rfl rfl ?_
  refine q_load (v := (0, 64, 0)) (p2 := 26) rfl rfl rfl rfl ?_
  have hm7 := (x_sch_at hm5 (fun j h1 h2 => (fr6 j (by omega) (by omega) (by omega))))
  refine q_callvE (xs := [(0, 64, 0), (0, 15, 0), (6, 232, 0)]) (p2 := 27) rfl rfl rfl rfl (x_rcv_s 232 hs6_1) rfl (zc_x_em2 hs6_1 hs6_2 hm7 (by omega)) (Nat.le_refl _) (Nat.le_refl _) rfl (fun φ8 hR8 => ?_)
  obtain ⟨hs8_0, hs8_1, fr8⟩ := hR8
  have hm9 := (zq_T_at hs6_0 (fr8 2 (by decide) (by decide)) (fr8 3 (by decide) (by decide)) (fr8 4 (by decide) (by decide)) (fr8 5 (by decide) (by decide)) (fr8 6 (by decide) (by decide)))
  exact q_ret rfl (⟨rfl, rfl, rfl, hm9, hs8_0, hs8_1, fun j hj0 hj1 hj2 => ((fr8 j (by omega) (by omega)).trans ((fr6 j (by omega) (by omega) (by omega)).trans ((fr3 j (by omega) (by omega)).trans (fr1 j (by omega) (by omega) (by omega)))))⟩)
theorem zc_a_228_0 {d n sl : Nat} {φ : FH}    : x_f x_P (d + 1) 228 [(0, 0, 0)] φ n sl (x_r φ n sl (0, 0, 0)) := by
  refine x_f_of rfl ?_
  refine q_load (v := (0, 0, 0)) (p2 := 1) rfl rfl rfl rfl ?_
  refine q_switch (tgt := 4) rfl (by decide) rfl ?_
  refine q_const (p2 := 5) rfl rfl ?_
  exact q_retv (v := (0, 0, 0)) rfl rfl (⟨rfl, rfl, rfl, rfl, rfl⟩)
theorem zc_x_base_end {d n sl : Nat} {φ : FH} {tot : Nat} {at_ : Nat} {pl : Nat} {va : Nat} {fa : Nat} {fp : Nat} {sf : Nat} {sp : Nat} {no : Nat} {op : Nat} {K : Nat → Nat} {P : Nat → Nat} {V : Nat → Nat} {top : Nat} {hid : Nat} {lc : Nat} {slo : Nat} {own : Nat} {sk : Nat} {co : Nat → Nat} {st : Nat} (hT : zq_T φ tot at_ 0 pl va fa fp sf sp no op K P V) (hE : zq_E φ 1 top hid lc slo own sk) (hC : zq_co φ co) (hS : x_sch φ) (hc0 : top < 5000) : x_f x_P (d + 3) 324 [(6, 232, 0), (0, st, 0), (11, 0, 0), (11, 0, 0), (11, 0, 0), (11, 0, 0)] φ n sl (x_vR n sl (fun φ2 => zq_T φ2 tot at_ 5 pl va 2 pl sf sp no op K P V ∧ ∀ j, j ≠ 2 → φ2 j = φ j)) := by
  refine x_f_of rfl ?_
  refine q_load (v := (6, 232, 0)) (p2 := 1) rfl rfl rfl rfl ?_
  refine q_getv (v := (6, 2, 0)) (p2 := 2) rfl hE (by decide) rfl rfl ?_
  refine q_getv (v := (0, 0, 0)) (p2 := 3) rfl hT.1 (by decide) rfl rfl ?_
  refine q_switch (tgt := 42) rfl (by decide) rfl ?_
  refine q_load (v := (6, 232, 0)) (p2 := 43) rfl rfl rfl rfl ?_
  refine q_getv (v := (6, 2, 0)) (p2 := 44) rfl hE (by decide) rfl rfl ?_
  refine q_getv (v := (0, 0, 0)) (p2 := 45) rfl hT.1 (by decide) rfl rfl ?_
  refine q_store (loc2 := [(6, 232, 0), (0, st, 0), (0, 0, 0), (11, 0, 0), (11, 0, 0), (11, 0, 0)]) (p2 := 46) rfl rfl rfl rfl rfl ?_
  refine q_load (v := (6, 232, 0)) (p2 := 47) rfl rfl rfl rfl ?_
  refine q_getv (v := (6, 2, 0)) (p2 := 48) rfl hE (by decide) rfl rfl ?_
  refine q_getv (v := (2, va, 0)) (p2 := 49) rfl hT.1 (by decide) rfl rfl ?_
  refine q_store2 (loc2 := [(6, 232, 0), (0, st, 0), (0, 0, 0), (2, va, 0), (11, 0, 0), (11, 0, 0)]) (p2 := 50) rfl rfl rfl rfl rfl ?_
  refine q_load (v := (6, 232, 0)) (p2 := 51) rfl rfl rfl rfl ?_
  refine q_getv (v := (6, 2, 0)) (p2 := 52) rfl hE (by decide) rfl rfl ?_
  refine q_getv (v := (0, pl, 0)) (p2 := 53) rfl hT.1 (by decide) rfl rfl ?_
  refine q_store (loc2 := [(6, 232, 0), (0, st, 0), (0, 0, 0), (2, va, 0), (11, 0, 0), (0, pl, 0)]) (p2 := 54) rfl rfl rfl rfl rfl ?_
  refine q_load (v := (0, 0, 0)) (p2 := 55) rfl rfl rfl rfl ?_
  refine q_callr (xs := [(0, 0, 0)]) (p2 := 56) rfl rfl rfl rfl (fun _ _ => rfl) rfl (zc_a_228_0 ) (Nat.le_refl _) (Nat.le_refl _) rfl ?_
  refine q_if0_s (p2 := 57) rfl (by decide) (by omega) rfl (fun _ => ?_) (fun hb => absurd (show 0 = 0 by omega) hb)
  refine q_load (v := (6, 232, 0)) (p2 := 73) rfl rfl rfl rfl ?_
  refine q_getv (v := (6, 2, 0)) (p2 := 74) rfl hE (by decide) rfl rfl ?_
  refine q_callvE (xs := [(6, 2, 0)]) (p2 := 75) rfl rfl rfl rfl (x_rcv_s 2 hT.1) rfl (zc_t_refuse hT) (Nat.le_refl _) (Nat.le_refl _) rfl (fun φ1 hR1 => ?_)
  obtain ⟨hs1_0, fr1⟩ := hR1
  exact q_ret rfl (⟨rfl, rfl, rfl, hs1_0, fun j hj0 => (fr1 j (by omega))⟩)
theorem zc_x_part_end {d n sl : Nat} {φ : FH} {tot : Nat} {at_ : Nat} {pl : Nat} {va : Nat} {fa : Nat} {fp : Nat} {sf : Nat} {sp : Nat} {no : Nat} {op : Nat} {K : Nat → Nat} {P : Nat → Nat} {V : Nat → Nat} {top : Nat} {hid : Nat} {lc : Nat} {slo : Nat} {own : Nat} {sk : Nat} {co : Nat → Nat} {st : Nat} (hT : zq_T φ tot at_ 0 pl va fa fp sf sp no op K P V) (hE : zq_E φ 1 top hid lc slo own sk) (hC : zq_co φ co) (hS : x_sch φ) (hc0 : top < 4900) : x_f x_P (d + 4) 323 [(6, 232, 0), (0, st, 0), (11, 0, 0)] φ n sl (x_vR n sl (fun φ2 => zq_T φ2 tot at_ 5 pl va 2 pl sf sp no op K P V ∧ ∀ j, j ≠ 2 → φ2 j = φ j)) := by
  refine x_f_of rfl ?_
  refine q_load (v := (6, 232, 0)) (p2 := 1) rfl rfl rfl rfl ?_
  refine q_load (v := (0, st, 0)) (p2 := 2) rfl rfl rfl rfl ?_
  refine q_callvE (xs := [(0, st, 0), (6, 232, 0)]) (p2 := 3) rfl rfl rfl rfl (x_rcv_s 232 hE) rfl (zc_x_base_end hT hE hC hS (by omega)) (Nat.le_refl _) (Nat.le_refl _) rfl (fun φ1 hR1 => ?_)
  obtain ⟨hs1_0, fr1⟩ := hR1
  refine q_const (p2 := 4) rfl rfl ?_
  refine q_store (loc2 := [(6, 232, 0), (0, st, 0), (0, 0, 0)]) (p2 := 5) rfl rfl rfl rfl rfl ?_
  refine q_load (v := (0, 0, 0)) (p2 := 6) rfl rfl rfl rfl ?_
  refine q_const (p2 := 7) rfl rfl ?_
  refine q_icmp_s (p2 := 8) rfl (by decide) (by omega) (by omega) rfl (fun hb => absurd hb (show ¬ (¬ (0 < 1000000)) by omega)) (fun _ => ?_)
  refine q_load (v := (6, 232, 0)) (p2 := 9) rfl rfl rfl rfl ?_
  have hm2 := (zq_E_at hE (fr1 232 (by decide)))
  refine q_getv (v := (6, 2, 0)) (p2 := 10) rfl hm2 (by decide) rfl rfl ?_
  refine q_const (p2 := 11) rfl rfl ?_
  refine q_callr (xs := [(0, 80, 0), (6, 2, 0)]) (p2 := 12) rfl rfl rfl rfl (x_rcv_s 2 hs1_0.1) rfl (zc_t_is_0 hs1_0 (by omega) (by omega)) (Nat.le_refl _) (Nat.le_refl _) rfl ?_
  refine q_if0_s (p2 := 13) rfl (by decide) (by omega) rfl (fun hb => absurd hb (show ¬ (¬ (0 = 0)) by omega)) (fun _ => ?_)
  refine q_load (v := (6, 232, 0)) (p2 := 14) rfl rfl rfl rfl ?_
  refine q_getv (v := (6, 2, 0)) (p2 := 15) rfl hm2 (by decide) rfl rfl ?_
  refine q_const (p2 := 16) rfl rfl ?_
  refine q_callr (xs := [(0, 75, 0), (6, 2, 0)]) (p2 := 17) rfl rfl rfl rfl (x_rcv_s 2 hs1_0.1) rfl (zc_t_is_0 hs1_0 (by omega) (by omega)) (Nat.le_refl _) (Nat.le_refl _) rfl ?_
  refine q_if0_s (p2 := 18) rfl (by decide) (by omega) rfl (fun _ => ?_) (fun hb => absurd (show 0 = 0 by omega) hb)
  exact q_ret rfl (⟨rfl, rfl, rfl, hs1_0, fun j hj0 => (fr1 j (by omega))⟩)
theorem zc_x_fact_end {d n sl : Nat} {φ : FH} {tot : Nat} {at_ : Nat} {pl : Nat} {va : Nat} {fa : Nat} {fp : Nat} {sf : Nat} {sp : Nat} {no : Nat} {op : Nat} {K : Nat → Nat} {P : Nat → Nat} {V : Nat → Nat} {top : Nat} {hid : Nat} {lc : Nat} {slo : Nat} {own : Nat} {sk : Nat} {co : Nat → Nat} (hT : zq_T φ tot at_ 0 pl va fa fp sf sp no op K P V) (hE : zq_E φ 1 top hid lc slo own sk) (hC : zq_co φ co) (hS : x_sch φ) (hc0 : top < 4800) : x_f x_P (d + 5) 318 [(6, 232, 0), (11, 0, 0), (11, 0, 0)] φ n sl (x_vR n sl (fun φ2 => zq_T φ2 tot at_ 5 pl va 2 pl sf sp no op K P V ∧ zq_E φ2 1 (top + 2) hid lc slo own sk ∧ zq_co φ2 (x_s (x_s co top 1) (top + 1) 0) ∧ ∀ j, j ≠ 2 → j ≠ 232 → j ≠ 450 → φ2 j = φ j)) := by
  refine x_f_of rfl ?_
  refine q_load (v := (6, 232, 0)) (p2 := 1) rfl rfl rfl rfl ?_
  refine q_getv (v := (0, top, 0)) (p2 := 2) rfl hE (by decide) rfl rfl ?_
  refine q_store (loc2 := [(6, 232, 0), (0, top, 0), (11, 0, 0)]) (p2 := 3) rfl rfl rfl rfl rfl ?_
  refine q_load (v := (6, 232, 0)) (p2 := 4) rfl rfl rfl rfl ?_
  refine q_const (p2 := 5) rfl rfl ?_
  refine q_const (p2 := 6) rfl rfl ?_
  refine q_callvE (xs := [(0, 0, 0), (0, 1, 0), (6, 232, 0)]) (p2 := 7) rfl rfl rfl rfl (x_rcv_s 232 hE) rfl (zc_x_em2 hE hC hS (by omega)) (Nat.le_refl _) (Nat.le_refl _) rfl (fun φ1 hR1 => ?_)
  obtain ⟨hs1_0, hs1_1, fr1⟩ := hR1
  refine q_load (v := (6, 232, 0)) (p2 := 8) rfl rfl rfl rfl ?_
  refine q_getv (v := (6, 2, 0)) (p2 := 9) rfl hs1_0 (by decide) rfl rfl ?_
  have hm2 := (zq_T_at hT (fr1 2 (by decide) (by decide)) (fr1 3 (by decide) (by decide)) (fr1 4 (by decide) (by decide)) (fr1 5 (by decide) (by decide)) (fr1 6 (by decide) (by decide)))
  refine q_getv (v := (0, 0, 0)) (p2 := 10) rfl hm2.1 (by decide) rfl rfl ?_
  refine q_store (loc2 := [(6, 232, 0), (0, top, 0), (0, 0, 0)]) (p2 := 11) rfl rfl rfl rfl rfl ?_
  refine q_load (v := (0, 0, 0)) (p2 := 12) rfl rfl rfl rfl ?_
  refine q_const (p2 := 13) rfl rfl ?_
  refine q_icmp_s (p2 := 14) rfl (by decide) (by omega) (by omega) rfl (fun hb => absurd hb (show ¬ (0 = 70) by omega)) (fun _ => ?_)
  refine q_load (v := (0, 0, 0)) (p2 := 15) rfl rfl rfl rfl ?_
  refine q_const (p2 := 16) rfl rfl ?_
  refine q_icmp_s (p2 := 17) rfl (by decide) (by omega) (by omega) rfl (fun hb => absurd hb (show ¬ (0 = 51) by omega)) (fun _ => ?_)
  refine q_load (v := (6, 232, 0)) (p2 := 18) rfl rfl rfl rfl ?_
  refine q_load (v := (0, top, 0)) (p2 := 19) rfl rfl rfl rfl ?_
  have hm3 := (x_sch_at hS (fun j h1 h2 => (fr1 j (by omega) (by omega))))
  refine q_callvE (xs := [(0, top, 0), (6, 232, 0)]) (p2 := 20) rfl rfl rfl rfl (x_rcv_s 232 hs1_0) rfl (zc_x_part_end hm2 hs1_0 hs1_1 hm3 (by omega)) (Nat.le_refl _) (Nat.le_refl _) rfl (fun φ4 hR4 => ?_)
  obtain ⟨hs4_0, fr4⟩ := hR4
  have hm5 := (zq_E_at hs1_0 (fr4 232 (by decide)))
  have hm6 := (zq_co_at hs1_1 (fr4 450 (by decide)))
  exact q_ret rfl (⟨rfl, rfl, rfl, hs4_0, hm5, hm6, fun j hj0 hj1 hj2 => ((fr4 j (by omega)).trans (fr1 j (by omega) (by omega)))⟩)
theorem zc_a_319_5 {d n sl : Nat} {φ : FH}    : x_f x_P (d + 1) 319 [(0, 5, 0)] φ n sl (x_r φ n sl (0, 0, 0)) := by
  refine x_f_of rfl ?_
  refine q_load (v := (0, 5, 0)) (p2 := 1) rfl rfl rfl rfl ?_
  refine q_const (p2 := 2) rfl rfl ?_
  refine q_icmp_s (p2 := 3) rfl (by decide) (by omega) (by omega) rfl (fun hb => absurd hb (show ¬ (5 = 71) by omega)) (fun _ => ?_)
  refine q_load (v := (0, 5, 0)) (p2 := 4) rfl rfl rfl rfl ?_
  refine q_const (p2 := 5) rfl rfl ?_
  refine q_icmp_s (p2 := 6) rfl (by decide) (by omega) (by omega) rfl (fun hb => absurd hb (show ¬ (5 = 72) by omega)) (fun _ => ?_)
  refine q_load (v := (0, 5, 0)) (p2 := 7) rfl rfl rfl rfl ?_
  refine q_const (p2 := 8) rfl rfl ?_
  refine q_icmp_s (p2 := 9) rfl (by decide) (by omega) (by omega) rfl (fun hb => absurd hb (show ¬ (5 = 53) by omega)) (fun _ => ?_)
  refine q_load (v := (0, 5, 0)) (p2 := 10) rfl rfl rfl rfl ?_
  refine q_const (p2 := 11) rfl rfl ?_
  refine q_icmp_s (p2 := 12) rfl (by decide) (by omega) (by omega) rfl (fun hb => absurd hb (show ¬ (5 = 54) by omega)) (fun _ => ?_)
  refine q_load (v := (0, 5, 0)) (p2 := 13) rfl rfl rfl rfl ?_
  refine q_const (p2 := 14) rfl rfl ?_
  refine q_icmp_s (p2 := 15) rfl (by decide) (by omega) (by omega) rfl (fun _ => ?_) (fun hb => absurd (show ¬ (5 = 48) by omega) hb)
  refine q_const (p2 := 18) rfl rfl ?_
  exact q_retv (v := (0, 0, 0)) rfl rfl (⟨rfl, rfl, rfl, rfl, rfl⟩)
theorem zc_x_term_end {d n sl : Nat} {φ : FH} {tot : Nat} {at_ : Nat} {pl : Nat} {va : Nat} {fa : Nat} {fp : Nat} {sf : Nat} {sp : Nat} {no : Nat} {op : Nat} {K : Nat → Nat} {P : Nat → Nat} {V : Nat → Nat} {top : Nat} {hid : Nat} {lc : Nat} {slo : Nat} {own : Nat} {sk : Nat} {co : Nat → Nat} (hT : zq_T φ tot at_ 0 pl va fa fp sf sp no op K P V) (hE : zq_E φ 1 top hid lc slo own sk) (hC : zq_co φ co) (hS : x_sch φ) (hc0 : top < 4700) : x_f x_P (d + 6) 291 [(6, 232, 0), (11, 0, 0), (11, 0, 0), (11, 0, 0)] φ n sl (x_vR n sl (fun φ2 => zq_T φ2 tot at_ 5 pl va 2 pl sf sp no op K P V ∧ zq_E φ2 1 (top + 2) hid lc slo own sk ∧ zq_co φ2 (x_s (x_s co top 1) (top + 1) 0) ∧ ∀ j, j ≠ 2 → j ≠ 232 → j ≠ 450 → φ2 j = φ j)) := by
  refine x_f_of rfl ?_
  refine q_load (v := (6, 232, 0)) (p2 := 1) rfl rfl rfl rfl ?_
  refine q_getv (v := (0, top, 0)) (p2 := 2) rfl hE (by decide) rfl rfl ?_
  refine q_store (loc2 := [(6, 232, 0), (0, top, 0), (11, 0, 0), (11, 0, 0)]) (p2 := 3) rfl rfl rfl rfl rfl ?_
  refine q_load (v := (6, 232, 0)) (p2 := 4) rfl rfl rfl rfl ?_
  refine q_callvE (xs := [(6, 232, 0)]) (p2 := 5) rfl rfl rfl rfl (x_rcv_s 232 hE) rfl (zc_x_fact_end hT hE hC hS (by omega)) (Nat.le_refl _) (Nat.le_refl _) rfl (fun φ1 hR1 => ?_)
  obtain ⟨hs1_0, hs1_1, hs1_2, fr1⟩ := hR1
  refine q_const (p2 := 6) rfl rfl ?_
  refine q_store (loc2 := [(6, 232, 0), (0, top, 0), (0, 0, 0), (11, 0, 0)]) (p2 := 7) rfl rfl rfl rfl rfl ?_
  refine q_load (v := (0, 0, 0)) (p2 := 8) rfl rfl rfl rfl ?_
  refine q_const (p2 := 9) rfl rfl ?_
  refine q_icmp_s (p2 := 10) rfl (by decide) (by omega) (by omega) rfl (fun hb => absurd hb (show ¬ (¬ (0 < 1000000)) by omega)) (fun _ => ?_)
  refine q_load (v := (6, 232, 0)) (p2 := 11) rfl rfl rfl rfl ?_
  refine q_getv (v := (6, 2, 0)) (p2 := 12) rfl hs1_1 (by decide) rfl rfl ?_
  refine q_getv (v := (0, 5, 0)) (p2 := 13) rfl hs1_0.1 (by decide) rfl rfl ?_
  refine q_callr (xs := [(0, 5, 0)]) (p2 := 14) rfl rfl rfl rfl (fun _ _ => rfl) rfl (zc_a_319_5 ) (Nat.le_refl _) (Nat.le_refl _) rfl ?_
  refine q_if0_s (p2 := 15) rfl (by decide) (by omega) rfl (fun _ => ?_) (fun hb => absurd (show 0 = 0 by omega) hb)
  exact q_ret rfl (⟨rfl, rfl, rfl, hs1_0, hs1_1, hs1_2, fun j hj0 hj1 hj2 => (fr1 j (by omega) (by omega) (by omega))⟩)
theorem zc_x_emop_69 {d n sl : Nat} {φ : FH} {top : Nat} {hid : Nat} {lc : Nat} {slo : Nat} {own : Nat} {sk : Nat} {co : Nat → Nat} (hE : zq_E φ 1 top hid lc slo own sk) (hC : zq_co φ co) (hS : x_sch φ) (hc0 : top < 11000) : x_f x_P (d + 2) 293 [(6, 232, 0), (0, 69, 0), (11, 0, 0)] φ n sl (x_vR n sl (fun φ2 => zq_E φ2 1 (top + 2) hid lc slo own sk ∧ zq_co φ2 (x_s (x_s co top 13) (top + 1) 69) ∧ ∀ j, j ≠ 232 → j ≠ 450 → φ2 j = φ j)) := by
  refine x_f_of rfl ?_
  refine q_load (v := (0, 69, 0)) (p2 := 1) rfl rfl rfl rfl ?_
  refine q_const (p2 := 2) rfl rfl ?_
  refine q_icmp_s (p2 := 3) rfl (by decide) (by omega) (by omega) rfl (fun hb => absurd hb (show ¬ (69 = 48) by omega)) (fun _ => ?_)
  refine q_load (v := (0, 69, 0)) (p2 := 4) rfl rfl rfl rfl ?_
  refine q_const (p2 := 5) rfl rfl ?_
  refine q_icmp_s (p2 := 6) rfl (by decide) (by omega) (by omega) rfl (fun hb => absurd hb (show ¬ (69 = 49) by omega)) (fun _ => ?_)
  refine q_load (v := (0, 69, 0)) (p2 := 7) rfl rfl rfl rfl ?_
  refine q_const (p2 := 8) rfl rfl ?_
  refine q_icmp_s (p2 := 9) rfl (by decide) (by omega) (by omega) rfl (fun _ => ?_) (fun hb => absurd (show ¬ (69 = 50) by omega) hb)
  refine q_const (p2 := 12) rfl rfl ?_
  refine q_store (loc2 := [(6, 232, 0), (0, 69, 0), (0, 0, 0)]) (p2 := 13) rfl rfl rfl rfl rfl ?_
  refine q_load (v := (6, 232, 0)) (p2 := 14) rfl rfl rfl rfl ?_
  refine q_load (v := (0, 0, 0)) (p2 := 15) rfl rfl rfl rfl ?_
  refine q_if0_s (p2 := 16) rfl (by decide) (by omega) rfl (fun _ => ?_) (fun hb => absurd (show 0 = 0 by omega) hb)
  refine q_const (p2 := 19) rfl rfl ?_
  refine q_load (v := (0, 69, 0)) (p2 := 20) rfl rfl rfl rfl ?_
  refine q_callvE (xs := [(0, 69, 0), (0, 13, 0), (6, 232, 0)]) (p2 := 21) rfl rfl rfl rfl (x_rcv_s 232 hE) rfl (zc_x_em2 hE hC hS (by omega)) (Nat.le_refl _) (Nat.le_refl _) rfl (fun φ1 hR1 => ?_)
  obtain ⟨hs1_0, hs1_1, fr1⟩ := hR1
  exact q_ret rfl (⟨rfl, rfl, rfl, hs1_0, hs1_1, fun j hj0 hj1 => (fr1 j (by omega) (by omega))⟩)
theorem zc_a_292_69 {d n sl : Nat} {φ : FH}    : x_f x_P (d + 1) 292 [(0, 69, 0)] φ n sl (x_r φ n sl (0, 1, 0)) := by
  refine x_f_of rfl ?_
  refine q_load (v := (0, 69, 0)) (p2 := 1) rfl rfl rfl rfl ?_
  refine q_const (p2 := 2) rfl rfl ?_
  refine q_icmp_s (p2 := 3) rfl (by decide) (by omega) (by omega) rfl (fun _ => ?_) (fun hb => absurd (show 69 = 69 by omega) hb)
  refine q_const (p2 := 13) rfl rfl ?_
  refine q_goto rfl ?_
  exact q_retv (v := (0, 1, 0)) rfl rfl (⟨rfl, rfl, rfl, rfl, rfl⟩)
theorem zc_a_292_5 {d n sl : Nat} {φ : FH}    : x_f x_P (d + 1) 292 [(0, 5, 0)] φ n sl (x_r φ n sl (0, 0, 0)) := by
  refine x_f_of rfl ?_
  refine q_load (v := (0, 5, 0)) (p2 := 1) rfl rfl rfl rfl ?_
  refine q_const (p2 := 2) rfl rfl ?_
  refine q_icmp_s (p2 := 3) rfl (by decide) (by omega) (by omega) rfl (fun hb => absurd hb (show ¬ (5 = 69) by omega)) (fun _ => ?_)
  refine q_load (v := (0, 5, 0)) (p2 := 4) rfl rfl rfl rfl ?_
  refine q_const (p2 := 5) rfl rfl ?_
  refine q_icmp_s (p2 := 6) rfl (by decide) (by omega) (by omega) rfl (fun hb => absurd hb (show ¬ (5 = 70) by omega)) (fun _ => ?_)
  refine q_load (v := (0, 5, 0)) (p2 := 7) rfl rfl rfl rfl ?_
  refine q_const (p2 := 8) rfl rfl ?_
  refine q_icmp_s (p2 := 9) rfl (by decide) (by omega) (by omega) rfl (fun hb => absurd hb (show ¬ (5 = 49) by omega)) (fun _ => ?_)
  refine q_load (v := (0, 5, 0)) (p2 := 10) rfl rfl rfl rfl ?_
  refine q_const (p2 := 11) rfl rfl ?_
  refine q_icmp_s (p2 := 12) rfl (by decide) (by omega) (by omega) rfl (fun _ => ?_) (fun hb => absurd (show ¬ (5 = 50) by omega) hb)
  refine q_const (p2 := 15) rfl rfl ?_
  exact q_retv (v := (0, 0, 0)) rfl rfl (⟨rfl, rfl, rfl, rfl, rfl⟩)
theorem zc_x_sum_err {d n sl : Nat} {φ : FH} {pl : Nat} {va : Nat} {fp : Nat} {sp : Nat} {K : Nat → Nat} {P : Nat → Nat} {V : Nat → Nat} {top : Nat} {hid : Nat} {lc : Nat} {slo : Nat} {own : Nat} {sk : Nat} {co : Nat → Nat} {w1 : Nat} (hT : zq_T φ 4 0 82 pl va 0 fp 0 sp 0 0 K P V) (hE : zq_E φ 1 top hid lc slo own sk) (hC : zq_co φ co) (hS : x_sch φ) (hN : zq_nm φ) (hc0 : top < 700) (hc1 : K 1 = 2) (hc2 : V 1 = w1) (hc3 : K 2 = 69) (hc4 : K 3 = 0) (hc5 : w1 < 2147483648) : x_f x_P (d + 7) 245 [(6, 232, 0), (11, 0, 0), (11, 0, 0), (11, 0, 0)] φ n sl (x_vR n sl (fun φ2 => zq_T φ2 4 3 5 (P 3) (V 3) 2 (P 3) 0 sp 2 0 K P V ∧ zq_E φ2 1 (top + 8) hid lc slo own sk ∧ zq_co φ2 (x_s (x_s (x_s (x_s (x_s (x_s (x_s (x_s (x_s (x_s co top 1) (top + 1) 0) (top + 1) 1) (top + 2) 7) (top + 3) w1) (top + 1) 2) (top + 4) 1) (top + 5) 0) (top + 6) 13) (top + 7) 69) ∧ ∀ j, j ≠ 2 → j ≠ 232 → j ≠ 450 → φ2 j = φ j)) := by
  refine x_f_of rfl ?_
  refine q_load (v := (6, 232, 0)) (p2 := 1) rfl rfl rfl rfl ?_
  refine q_getv (v := (0, top, 0)) (p2 := 2) rfl hE (by decide) rfl rfl ?_
  refine q_store (loc2 := [(6, 232, 0), (0, top, 0), (11, 0, 0), (11, 0, 0)]) (p2 := 3) rfl rfl rfl rfl rfl ?_
  refine q_load (v := (6, 232, 0)) (p2 := 4) rfl rfl rfl rfl ?_
  refine q_callvE (xs := [(6, 232, 0)]) (p2 := 5) rfl rfl rfl rfl (x_rcv_s 232 hE) rfl (zc_x_term82_69 hT hE hC hS (by omega) (by omega) (by omega) hc1 hc2 (by omega) hc3) (Nat.le_refl _) (Nat.le_refl _) rfl (fun φ1 hR1 => ?_)
  obtain ⟨hs1_0, hs1_1, hs1_2, fr1⟩ := hR1
  refine q_const (p2 := 6) rfl rfl ?_
  refine q_store (loc2 := [(6, 232, 0), (0, top, 0), (0, 0, 0), (11, 0, 0)]) (p2 := 7) rfl rfl rfl rfl rfl ?_
  refine q_load (v := (0, 0, 0)) (p2 := 8) rfl rfl rfl rfl ?_
  refine q_const (p2 := 9) rfl rfl ?_
  refine q_icmp_s (p2 := 10) rfl (by decide) (by omega) (by omega) rfl (fun hb => absurd hb (show ¬ (¬ (0 < 1000000)) by omega)) (fun _ => ?_)
  refine q_load (v := (6, 232, 0)) (p2 := 11) rfl rfl rfl rfl ?_
  refine q_getv (v := (6, 2, 0)) (p2 := 12) rfl hs1_1 (by decide) rfl rfl ?_
  refine q_getv (v := (0, 69, 0)) (p2 := 13) rfl hs1_0.1 (by decide) rfl rfl ?_
  refine q_callr (xs := [(0, 69, 0)]) (p2 := 14) rfl rfl rfl rfl (fun _ _ => rfl) rfl (zc_a_292_69 ) (Nat.le_refl _) (Nat.le_refl _) rfl ?_
  refine q_if0_s (p2 := 15) rfl (by decide) (by omega) rfl (fun hb => absurd hb (show ¬ (1 = 0) by omega)) (fun _ => ?_)
  refine q_load (v := (6, 232, 0)) (p2 := 16) rfl rfl rfl rfl ?_
  refine q_getv (v := (6, 2, 0)) (p2 := 17) rfl hs1_1 (by decide) rfl rfl ?_
  refine q_getv (v := (0, 69, 0)) (p2 := 18) rfl hs1_0.1 (by decide) rfl rfl ?_
  refine q_store (loc2 := [(6, 232, 0), (0, top, 0), (0, 0, 0), (0, 69, 0)]) (p2 := 19) rfl rfl rfl rfl rfl ?_
  refine q_load (v := (6, 232, 0)) (p2 := 20) rfl rfl rfl rfl ?_
  refine q_load (v := (0, top, 0)) (p2 := 21) rfl rfl rfl rfl ?_
  have hm2 := (x_sch_at hS (fun j h1 h2 => (fr1 j (by omega) (by omega) (by omega))))
  refine q_callvE (xs := [(0, top, 0), (6, 232, 0)]) (p2 := 22) rfl rfl rfl rfl (x_rcv_s 232 hs1_1) rfl (zc_x_oper hs1_0 hs1_1 hs1_2 hm2 (by omega) ((x_s_ne (by omega)).trans ((x_s_ne (by omega)).trans (x_s_eq))) (by omega) (by omega) (by omega) (by omega) hc4 rfl rfl) (Nat.le_refl _) (Nat.le_refl _) rfl (fun φ3 hR3 => ?_)
  obtain ⟨hs3_0, hs3_1, fr3⟩ := hR3
  refine q_load (v := (6, 232, 0)) (p2 := 23) rfl rfl rfl rfl ?_
  have hm4 := (zq_E_at hs1_1 (fr3 232 (by decide) (by decide)))
  have hm5 := (x_sch_at hm2 (fun j h1 h2 => (fr3 j (by omega) (by omega))))
  refine q_callvE (xs := [(6, 232, 0)]) (p2 := 24) rfl rfl rfl rfl (x_rcv_s 232 hm4) rfl (zc_x_term_end hs3_0 hm4 hs3_1 hm5 (by omega)) (Nat.le_refl _) (Nat.le_refl _) rfl (fun φ6 hR6 => ?_)
  obtain ⟨hs6_0, hs6_1, hs6_2, fr6⟩ := hR6
  refine q_load (v := (6, 232, 0)) (p2 := 25) rfl rfl rfl rfl ?_
  refine q_load (v := (0, 69, 0)) (p2 := 26) rfl rfl rfl rfl ?_
  have hm7 := (x_sch_at hm5 (fun j h1 h2 => (fr6 j (by omega) (by omega) (by omega))))
  refine q_callvE (xs := [(0, 69, 0), (6, 232, 0)]) (p2 := 27) rfl rfl rfl rfl (x_rcv_s 232 hs6_1) rfl (zc_x_emop_69 hs6_1 hs6_2 hm7 (by omega)) (Nat.le_refl _) (Nat.le_refl _) rfl (fun φ8 hR8 => ?_)
  obtain ⟨hs8_0, hs8_1, fr8⟩ := hR8
  refine q_iinc (z := 1) (loc2 := [(6, 232, 0), (0, top, 0), (0, 1, 0), (0, 69, 0)]) (p2 := 28) rfl rfl (by decide) rfl rfl ?_
  refine q_goto rfl ?_
  refine q_load (v := (0, 1, 0)) (p2 := 8) rfl rfl rfl rfl ?_
  refine q_const (p2 := 9) rfl rfl ?_
  refine q_icmp_s (p2 := 10) rfl (by decide) (by omega) (by omega) rfl (fun hb => absurd hb (show ¬ (¬ (1 < 1000000)) by omega)) (fun _ => ?_)
  refine q_load (v := (6, 232, 0)) (p2 := 11) rfl rfl rfl rfl ?_
  refine q_getv (v := (6, 2, 0)) (p2 := 12) rfl hs8_0 (by decide) rfl rfl ?_
  have hm9 := (zq_T_at hs6_0 (fr8 2 (by decide) (by decide)) (fr8 3 (by decide) (by decide)) (fr8 4 (by decide) (by decide)) (fr8 5 (by decide) (by decide)) (fr8 6 (by decide) (by decide)))
  refine q_getv (v := (0, 5, 0)) (p2 := 13) rfl hm9.1 (by decide) rfl rfl ?_
  refine q_callr (xs := [(0, 5, 0)]) (p2 := 14) rfl rfl rfl rfl (fun _ _ => rfl) rfl (zc_a_292_5 ) (Nat.le_refl _) (Nat.le_refl _) rfl ?_
  refine q_if0_s (p2 := 15) rfl (by decide) (by omega) rfl (fun _ => ?_) (fun hb => absurd (show 0 = 0 by omega) hb)
  exact q_ret rfl (⟨rfl, rfl, rfl, hm9, hs8_0, hs8_1, fun j hj0 hj1 hj2 => ((fr8 j (by omega) (by omega)).trans ((fr6 j (by omega) (by omega) (by omega)).trans ((fr3 j (by omega) (by omega)).trans (fr1 j (by omega) (by omega) (by omega)))))⟩)
theorem zc_x_exp_err {d n sl : Nat} {φ : FH} {pl : Nat} {va : Nat} {fp : Nat} {sp : Nat} {K : Nat → Nat} {P : Nat → Nat} {V : Nat → Nat} {top : Nat} {hid : Nat} {lc : Nat} {slo : Nat} {own : Nat} {sk : Nat} {co : Nat → Nat} {w1 : Nat} (hT : zq_T φ 4 0 82 pl va 0 fp 0 sp 0 0 K P V) (hE : zq_E φ 1 top hid lc slo own sk) (hC : zq_co φ co) (hS : x_sch φ) (hN : zq_nm φ) (hc0 : top < 600) (hc1 : K 1 = 2) (hc2 : V 1 = w1) (hc3 : K 2 = 69) (hc4 : K 3 = 0) (hc5 : w1 < 2147483648) : x_f x_P (d + 8) 177 [(6, 232, 0), (11, 0, 0), (11, 0, 0)] φ n sl (x_vR n sl (fun φ2 => zq_T φ2 4 3 5 (P 3) (V 3) 2 (P 3) 0 sp 2 0 K P V ∧ zq_E φ2 1 (top + 8) hid lc slo own sk ∧ zq_co φ2 (x_s (x_s (x_s (x_s (x_s (x_s (x_s (x_s (x_s (x_s co top 1) (top + 1) 0) (top + 1) 1) (top + 2) 7) (top + 3) w1) (top + 1) 2) (top + 4) 1) (top + 5) 0) (top + 6) 13) (top + 7) 69) ∧ ∀ j, j ≠ 2 → j ≠ 232 → j ≠ 450 → φ2 j = φ j)) := by
  refine x_f_of rfl ?_
  refine q_load (v := (6, 232, 0)) (p2 := 1) rfl rfl rfl rfl ?_
  refine q_getv (v := (0, top, 0)) (p2 := 2) rfl hE (by decide) rfl rfl ?_
  refine q_store (loc2 := [(6, 232, 0), (0, top, 0), (11, 0, 0)]) (p2 := 3) rfl rfl rfl rfl rfl ?_
  refine q_load (v := (6, 232, 0)) (p2 := 4) rfl rfl rfl rfl ?_
  refine q_callvE (xs := [(6, 232, 0)]) (p2 := 5) rfl rfl rfl rfl (x_rcv_s 232 hE) rfl (zc_x_sum_err hT hE hC hS hN (by omega) hc1 hc2 hc3 hc4 (by omega)) (Nat.le_refl _) (Nat.le_refl _) rfl (fun φ1 hR1 => ?_)
  obtain ⟨hs1_0, hs1_1, hs1_2, fr1⟩ := hR1
  refine q_load (v := (6, 232, 0)) (p2 := 6) rfl rfl rfl rfl ?_
  refine q_getv (v := (6, 2, 0)) (p2 := 7) rfl hs1_1 (by decide) rfl rfl ?_
  refine q_getv (v := (0, 5, 0)) (p2 := 8) rfl hs1_0.1 (by decide) rfl rfl ?_
  refine q_store (loc2 := [(6, 232, 0), (0, top, 0), (0, 5, 0)]) (p2 := 9) rfl rfl rfl rfl rfl ?_
  refine q_load (v := (0, 5, 0)) (p2 := 10) rfl rfl rfl rfl ?_
  refine q_const (p2 := 11) rfl rfl ?_
  refine q_icmp_s (p2 := 12) rfl (by decide) (by omega) (by omega) rfl (fun _ => ?_) (fun hb => absurd (show 5 < 60 by omega) hb)
  refine q_load (v := (0, 5, 0)) (p2 := 16) rfl rfl rfl rfl ?_
  refine q_const (p2 := 17) rfl rfl ?_
  refine q_icmp_s (p2 := 18) rfl (by decide) (by omega) (by omega) rfl (fun _ => ?_) (fun hb => absurd (show ¬ (5 = 52) by omega) hb)
  exact q_ret rfl (⟨rfl, rfl, rfl, hs1_0, hs1_1, hs1_2, fun j hj0 hj1 hj2 => (fr1 j (by omega) (by omega) (by omega))⟩)
theorem zc_x_enter {d n sl : Nat} {φ : FH} {bi : Nat} {top : Nat} {hid : Nat} {lc : Nat} {slo : Nat} {own : Nat} {sk : Nat} (hE : zq_E φ bi top hid lc slo own sk)  : x_f x_P (d + 1) 150 [(6, 232, 0), (0, 4294967293, 0), (0, 0, 0)] φ n sl (x_vR n sl (fun φ2 => zq_E φ2 bi top 0 0 0 4294967293 0 ∧ ∀ j, j ≠ 232 → φ2 j = φ j)) := by
  refine x_f_of rfl ?_
  refine q_load (v := (6, 232, 0)) (p2 := 1) rfl rfl rfl rfl ?_
  refine q_load (v := (0, 4294967293, 0)) (p2 := 2) rfl rfl rfl rfl ?_
  refine q_putfE (v := (0, 4294967293, 0)) (p2 := 3) rfl hE (by decide) rfl rfl (fun φ1 f1 hh1 hg1 ho1 fr1 => ?_)
  have hs1 := zq_E_put_232_10 hE hh1 hg1 ho1 fr1
  refine q_load (v := (6, 232, 0)) (p2 := 4) rfl rfl rfl rfl ?_
  refine q_load (v := (0, 0, 0)) (p2 := 5) rfl rfl rfl rfl ?_
  refine q_putfE (v := (0, 0, 0)) (p2 := 6) rfl hs1 (by decide) rfl rfl (fun φ2 f2 hh2 hg2 ho2 fr2 => ?_)
  have hs2 := zq_E_put_232_11 hs1 hh2 hg2 ho2 fr2
  refine q_load (v := (6, 232, 0)) (p2 := 7) rfl rfl rfl rfl ?_
  refine q_const (p2 := 8) rfl rfl ?_
  refine q_putfE (v := (0, 0, 0)) (p2 := 9) rfl hs2 (by decide) rfl rfl (fun φ3 f3 hh3 hg3 ho3 fr3 => ?_)
  have hs3 := zq_E_put_232_6 hs2 hh3 hg3 ho3 fr3
  refine q_load (v := (6, 232, 0)) (p2 := 10) rfl rfl rfl rfl ?_
  refine q_const (p2 := 11) rfl rfl ?_
  refine q_putfE (v := (0, 0, 0)) (p2 := 12) rfl hs3 (by decide) rfl rfl (fun φ4 f4 hh4 hg4 ho4 fr4 => ?_)
  have hs4 := zq_E_put_232_8 hs3 hh4 hg4 ho4 fr4
  refine q_load (v := (6, 232, 0)) (p2 := 13) rfl rfl rfl rfl ?_
  refine q_const (p2 := 14) rfl rfl ?_
  refine q_putfE (v := (0, 0, 0)) (p2 := 15) rfl hs4 (by decide) rfl rfl (fun φ5 f5 hh5 hg5 ho5 fr5 => ?_)
  have hs5 := zq_E_put_232_9 hs4 hh5 hg5 ho5 fr5
  exact q_ret rfl (⟨rfl, rfl, rfl, hs5, fun j hj0 => ((fr5 j (by omega)).trans ((fr4 j (by omega)).trans ((fr3 j (by omega)).trans ((fr2 j (by omega)).trans (fr1 j (by omega))))))⟩)
theorem zc_x_alone_whole {d n sl : Nat} {φ : FH} {pl : Nat} {va : Nat} {fp : Nat} {sp : Nat} {K : Nat → Nat} {P : Nat → Nat} {V : Nat → Nat} {bi : Nat} {top : Nat} {hid : Nat} {lc : Nat} {slo : Nat} {own : Nat} {sk : Nat} {co : Nat → Nat} (hT : zq_T φ 2 0 2 pl va 0 fp 0 sp 0 0 K P V) (hE : zq_E φ bi top hid lc slo own sk) (hC : zq_co φ co) (hS : x_sch φ) (hN : zq_nm φ) (hc0 : K 1 = 0) (hc1 : va < 2147483648) : x_f x_P (d + 9) 105 [(6, 232, 0), (6, 237, 0)] φ n sl (x_rR (0, 60, 0) n sl (fun φ2 => zq_T φ2 2 1 0 (P 1) (V 1) 0 fp 0 sp 1 0 K P V ∧ zq_E φ2 1 65 0 0 0 4294967293 0 ∧ zq_co φ2 (x_s (x_s (x_s (x_s (x_s (x_s co 60 1) 61 0) 61 1) 62 3) 63 va) 64 31) ∧ ∀ j, j ≠ 2 → j ≠ 232 → j ≠ 450 → φ2 j = φ j)) := by
  refine x_f_of rfl ?_
  refine q_load (v := (6, 232, 0)) (p2 := 1) rfl rfl rfl rfl ?_
  refine q_load (v := (6, 237, 0)) (p2 := 2) rfl rfl rfl rfl ?_
  refine q_putfE (v := (6, 237, 0)) (p2 := 3) rfl hE (by decide) rfl rfl (fun φ1 f1 hh1 hg1 ho1 fr1 => ?_)
  have hs1 := zq_E_same_232_1 hE hh1 hg1 ho1 fr1
  refine q_load (v := (6, 232, 0)) (p2 := 4) rfl rfl rfl rfl ?_
  refine q_const (p2 := 5) rfl rfl ?_
  refine q_putfE (v := (0, 1, 0)) (p2 := 6) rfl hs1 (by decide) rfl rfl (fun φ2 f2 hh2 hg2 ho2 fr2 => ?_)
  have hs2 := zq_E_put_232_2 hs1 hh2 hg2 ho2 fr2
  refine q_load (v := (6, 232, 0)) (p2 := 7) rfl rfl rfl rfl ?_
  refine q_load (v := (6, 237, 0)) (p2 := 8) rfl rfl rfl rfl ?_
  have hm3 := (x_sch_at hS (fun j h1 h2 => ((fr2 j (by omega)).trans (fr1 j (by omega)))))
  refine q_getv (v := (0, 60, 0)) (p2 := 9) rfl hm3.1.choose_spec.1 (by decide) hm3.1.choose_spec.2.2.2.2.2.2.2.2.2.2.2.2.2.2.1 rfl ?_
  refine q_putfE (v := (0, 60, 0)) (p2 := 10) rfl hs2 (by decide) rfl rfl (fun φ4 f4 hh4 hg4 ho4 fr4 => ?_)
  have hs4 := zq_E_put_232_3 hs2 hh4 hg4 ho4 fr4
  refine q_load (v := (6, 232, 0)) (p2 := 11) rfl rfl rfl rfl ?_
  refine q_const (p2 := 12) rfl rfl ?_
  refine q_const (p2 := 13) rfl rfl ?_
  refine q_callvE (xs := [(0, 0, 0), (0, 4294967293, 0), (6, 232, 0)]) (p2 := 14) rfl rfl rfl rfl (x_rcv_s 232 hs4) rfl (zc_x_enter hs4) (Nat.le_refl _) (Nat.le_refl _) rfl (fun φ5 hR5 => ?_)
  obtain ⟨hs5_0, fr5⟩ := hR5
  refine q_load (v := (6, 232, 0)) (p2 := 15) rfl rfl rfl rfl ?_
  have hm6 := (zq_T_at hT ((fr5 2 (by decide)).trans ((fr4 2 (by decide)).trans ((fr2 2 (by decide)).trans (fr1 2 (by decide))))) ((fr5 3 (by decide)).trans ((fr4 3 (by decide)).trans ((fr2 3 (by decide)).trans (fr1 3 (by decide))))) ((fr5 4 (by decide)).trans ((fr4 4 (by decide)).trans ((fr2 4 (by decide)).trans (fr1 4 (by decide))))) ((fr5 5 (by decide)).trans ((fr4 5 (by decide)).trans ((fr2 5 (by decide)).trans (fr1 5 (by decide))))) ((fr5 6 (by decide)).trans ((fr4 6 (by decide)).trans ((fr2 6 (by decide)).trans (fr1 6 (by decide))))))
  have hm7 := (zq_co_at hC ((fr5 450 (by decide)).trans ((fr4 450 (by decide)).trans ((fr2 450 (by decide)).trans (fr1 450 (by decide))))))
  have hm8 := (x_sch_at hm3 (fun j h1 h2 => ((fr5 j (by omega)).trans (fr4 j (by omega)))))
  refine q_callvE (xs := [(6, 232, 0)]) (p2 := 16) rfl rfl rfl rfl (x_rcv_s 232 hs5_0) rfl (zc_x_exp2_0 hm6 hs5_0 hm7 hm8 (by omega) (by omega) (by omega) (by omega) hc0) (Nat.le_refl _) (Nat.le_refl _) rfl (fun φ9 hR9 => ?_)
  obtain ⟨hs9_0, hs9_1, hs9_2, fr9⟩ := hR9
  refine q_load (v := (6, 232, 0)) (p2 := 17) rfl rfl rfl rfl ?_
  refine q_getv (v := (6, 2, 0)) (p2 := 18) rfl hs9_1 (by decide) rfl rfl ?_
  refine q_const (p2 := 19) rfl rfl ?_
  refine q_callv (xs := [(0, 0, 0), (6, 2, 0)]) (p2 := 20) rfl rfl rfl rfl (x_rcv_s 2 hs9_0.1) rfl (zc_t_expE hs9_0 (by omega)) (Nat.le_refl _) (Nat.le_refl _) rfl ?_
  refine q_load (v := (6, 232, 0)) (p2 := 21) rfl rfl rfl rfl ?_
  refine q_const (p2 := 22) rfl rfl ?_
  have hm10 := (x_sch_at hm8 (fun j h1 h2 => (fr9 j (by omega) (by omega) (by omega))))
  refine q_callvE (xs := [(0, 31, 0), (6, 232, 0)]) (p2 := 23) rfl rfl rfl rfl (x_rcv_s 232 hs9_1) rfl (zc_x_em1 hs9_1 hs9_2 hm10 (by omega)) (Nat.le_refl _) (Nat.le_refl _) rfl (fun φ11 hR11 => ?_)
  obtain ⟨hs11_0, hs11_1, fr11⟩ := hR11
  refine q_load (v := (6, 237, 0)) (p2 := 24) rfl rfl rfl rfl ?_
  have hm12 := (x_sch_at hm10 (fun j h1 h2 => (fr11 j (by omega) (by omega))))
  refine q_getv (v := (0, 60, 0)) (p2 := 25) rfl hm12.1.choose_spec.1 (by decide) hm12.1.choose_spec.2.2.2.2.2.2.2.2.2.2.2.2.2.2.1 rfl ?_
  have hm13 := (zq_T_at hs9_0 (fr11 2 (by decide) (by decide)) (fr11 3 (by decide) (by decide)) (fr11 4 (by decide) (by decide)) (fr11 5 (by decide) (by decide)) (fr11 6 (by decide) (by decide)))
  exact q_retv (v := (0, 60, 0)) rfl rfl (⟨rfl, rfl, rfl, rfl, hm13, hs11_0, hs11_1, fun j hj0 hj1 hj2 => ((fr11 j (by omega) (by omega)).trans ((fr9 j (by omega) (by omega) (by omega)).trans ((fr5 j (by omega)).trans ((fr4 j (by omega)).trans ((fr2 j (by omega)).trans (fr1 j (by omega)))))))⟩)
theorem zc_x_alone_hash {d n sl : Nat} {φ : FH} {pl : Nat} {va : Nat} {fp : Nat} {sp : Nat} {K : Nat → Nat} {P : Nat → Nat} {V : Nat → Nat} {bi : Nat} {top : Nat} {hid : Nat} {lc : Nat} {slo : Nat} {own : Nat} {sk : Nat} {co : Nat → Nat} {w1 : Nat} (hT : zq_T φ 3 0 82 pl va 0 fp 0 sp 0 0 K P V) (hE : zq_E φ bi top hid lc slo own sk) (hC : zq_co φ co) (hS : x_sch φ) (hN : zq_nm φ) (hc0 : K 1 = 2) (hc1 : V 1 = w1) (hc2 : K 2 = 0) (hc3 : w1 < 2147483648) : x_f x_P (d + 9) 105 [(6, 232, 0), (6, 237, 0)] φ n sl (x_rR (0, 60, 0) n sl (fun φ2 => zq_T φ2 3 2 0 (P 2) (V 2) 0 fp 0 sp 1 0 K P V ∧ zq_E φ2 1 65 0 0 0 4294967293 0 ∧ zq_co φ2 (x_s (x_s (x_s (x_s (x_s (x_s co 60 1) 61 0) 61 1) 62 7) 63 w1) 64 31) ∧ ∀ j, j ≠ 2 → j ≠ 232 → j ≠ 450 → φ2 j = φ j)) := by
  refine x_f_of rfl ?_
  refine q_load (v := (6, 232, 0)) (p2 := 1) rfl rfl rfl rfl ?_
  refine q_load (v := (6, 237, 0)) (p2 := 2) rfl rfl rfl rfl ?_
  refine q_putfE (v := (6, 237, 0)) (p2 := 3) rfl hE (by decide) rfl rfl (fun φ1 f1 hh1 hg1 ho1 fr1 => ?_)
  have hs1 := zq_E_same_232_1 hE hh1 hg1 ho1 fr1
  refine q_load (v := (6, 232, 0)) (p2 := 4) rfl rfl rfl rfl ?_
  refine q_const (p2 := 5) rfl rfl ?_
  refine q_putfE (v := (0, 1, 0)) (p2 := 6) rfl hs1 (by decide) rfl rfl (fun φ2 f2 hh2 hg2 ho2 fr2 => ?_)
  have hs2 := zq_E_put_232_2 hs1 hh2 hg2 ho2 fr2
  refine q_load (v := (6, 232, 0)) (p2 := 7) rfl rfl rfl rfl ?_
  refine q_load (v := (6, 237, 0)) (p2 := 8) rfl rfl rfl rfl ?_
  have hm3 := (x_sch_at hS (fun j h1 h2 => ((fr2 j (by omega)).trans (fr1 j (by omega)))))
  refine q_getv (v := (0, 60, 0)) (p2 := 9) rfl hm3.1.choose_spec.1 (by decide) hm3.1.choose_spec.2.2.2.2.2.2.2.2.2.2.2.2.2.2.1 rfl ?_
  refine q_putfE (v := (0, 60, 0)) (p2 := 10) rfl hs2 (by decide) rfl rfl (fun φ4 f4 hh4 hg4 ho4 fr4 => ?_)
  have hs4 := zq_E_put_232_3 hs2 hh4 hg4 ho4 fr4
  refine q_load (v := (6, 232, 0)) (p2 := 11) rfl rfl rfl rfl ?_
  refine q_const (p2 := 12) rfl rfl ?_
  refine q_const (p2 := 13) rfl rfl ?_
  refine q_callvE (xs := [(0, 0, 0), (0, 4294967293, 0), (6, 232, 0)]) (p2 := 14) rfl rfl rfl rfl (x_rcv_s 232 hs4) rfl (zc_x_enter hs4) (Nat.le_refl _) (Nat.le_refl _) rfl (fun φ5 hR5 => ?_)
  obtain ⟨hs5_0, fr5⟩ := hR5
  refine q_load (v := (6, 232, 0)) (p2 := 15) rfl rfl rfl rfl ?_
  have hm6 := (zq_T_at hT ((fr5 2 (by decide)).trans ((fr4 2 (by decide)).trans ((fr2 2 (by decide)).trans (fr1 2 (by decide))))) ((fr5 3 (by decide)).trans ((fr4 3 (by decide)).trans ((fr2 3 (by decide)).trans (fr1 3 (by decide))))) ((fr5 4 (by decide)).trans ((fr4 4 (by decide)).trans ((fr2 4 (by decide)).trans (fr1 4 (by decide))))) ((fr5 5 (by decide)).trans ((fr4 5 (by decide)).trans ((fr2 5 (by decide)).trans (fr1 5 (by decide))))) ((fr5 6 (by decide)).trans ((fr4 6 (by decide)).trans ((fr2 6 (by decide)).trans (fr1 6 (by decide))))))
  have hm7 := (zq_co_at hC ((fr5 450 (by decide)).trans ((fr4 450 (by decide)).trans ((fr2 450 (by decide)).trans (fr1 450 (by decide))))))
  have hm8 := (x_sch_at hm3 (fun j h1 h2 => ((fr5 j (by omega)).trans (fr4 j (by omega)))))
  refine q_callvE (xs := [(6, 232, 0)]) (p2 := 16) rfl rfl rfl rfl (x_rcv_s 232 hs5_0) rfl (zc_x_exp82_0 hm6 hs5_0 hm7 hm8 (by omega) (by omega) (by omega) hc0 hc1 (by omega) hc2) (Nat.le_refl _) (Nat.le_refl _) rfl (fun φ9 hR9 => ?_)
  obtain ⟨hs9_0, hs9_1, hs9_2, fr9⟩ := hR9
  refine q_load (v := (6, 232, 0)) (p2 := 17) rfl rfl rfl rfl ?_
  refine q_getv (v := (6, 2, 0)) (p2 := 18) rfl hs9_1 (by decide) rfl rfl ?_
  refine q_const (p2 := 19) rfl rfl ?_
  refine q_callv (xs := [(0, 0, 0), (6, 2, 0)]) (p2 := 20) rfl rfl rfl rfl (x_rcv_s 2 hs9_0.1) rfl (zc_t_expE hs9_0 (by omega)) (Nat.le_refl _) (Nat.le_refl _) rfl ?_
  refine q_load (v := (6, 232, 0)) (p2 := 21) rfl rfl rfl rfl ?_
  refine q_const (p2 := 22) rfl rfl ?_
  have hm10 := (x_sch_at hm8 (fun j h1 h2 => (fr9 j (by omega) (by omega) (by omega))))
  refine q_callvE (xs := [(0, 31, 0), (6, 232, 0)]) (p2 := 23) rfl rfl rfl rfl (x_rcv_s 232 hs9_1) rfl (zc_x_em1 hs9_1 hs9_2 hm10 (by omega)) (Nat.le_refl _) (Nat.le_refl _) rfl (fun φ11 hR11 => ?_)
  obtain ⟨hs11_0, hs11_1, fr11⟩ := hR11
  refine q_load (v := (6, 237, 0)) (p2 := 24) rfl rfl rfl rfl ?_
  have hm12 := (x_sch_at hm10 (fun j h1 h2 => (fr11 j (by omega) (by omega))))
  refine q_getv (v := (0, 60, 0)) (p2 := 25) rfl hm12.1.choose_spec.1 (by decide) hm12.1.choose_spec.2.2.2.2.2.2.2.2.2.2.2.2.2.2.1 rfl ?_
  have hm13 := (zq_T_at hs9_0 (fr11 2 (by decide) (by decide)) (fr11 3 (by decide) (by decide)) (fr11 4 (by decide) (by decide)) (fr11 5 (by decide) (by decide)) (fr11 6 (by decide) (by decide)))
  exact q_retv (v := (0, 60, 0)) rfl rfl (⟨rfl, rfl, rfl, rfl, hm13, hs11_0, hs11_1, fun j hj0 hj1 hj2 => ((fr11 j (by omega) (by omega)).trans ((fr9 j (by omega) (by omega) (by omega)).trans ((fr5 j (by omega)).trans ((fr4 j (by omega)).trans ((fr2 j (by omega)).trans (fr1 j (by omega)))))))⟩)
theorem zc_x_alone_list {d n sl : Nat} {φ : FH} {pl : Nat} {va : Nat} {fp : Nat} {sp : Nat} {K : Nat → Nat} {P : Nat → Nat} {V : Nat → Nat} {bi : Nat} {top : Nat} {hid : Nat} {lc : Nat} {slo : Nat} {own : Nat} {sk : Nat} {co : Nat → Nat} {w1 : Nat} {w2 : Nat} (hT : zq_T φ 8 0 75 pl va 0 fp 0 sp 0 0 K P V) (hE : zq_E φ bi top hid lc slo own sk) (hC : zq_co φ co) (hS : x_sch φ) (hN : zq_nm φ) (hc0 : K 1 = 82) (hc1 : K 2 = 2) (hc2 : V 2 = w1) (hc3 : K 3 = 77) (hc4 : K 4 = 82) (hc5 : K 5 = 2) (hc6 : V 5 = w2) (hc7 : K 6 = 76) (hc8 : K 7 = 0) (hc9 : w1 < 2147483648 ∧ w2 < 2147483648) : x_f x_P (d + 17) 105 [(6, 232, 0), (6, 237, 0)] φ n sl (x_rR (0, 60, 0) n sl (fun φ2 => zq_T φ2 8 7 0 (P 7) (V 7) 0 fp 0 sp 3 0 K P V ∧ zq_E φ2 1 77 0 0 0 4294967293 0 ∧ zq_co φ2 (x_s (x_s (x_s (x_s (x_s (x_s (x_s (x_s (x_s (x_s (x_s (x_s (x_s (x_s (x_s (x_s (x_s (x_s (x_s (x_s co 60 1) 61 0) 61 1) 62 1) 63 0) 63 1) 64 7) 65 w1) 66 3) 67 1) 68 1) 69 0) 69 1) 70 7) 71 w2) 72 3) 73 1) 74 18) 75 2) 76 31) ∧ ∀ j, j ≠ 2 → j ≠ 232 → j ≠ 450 → φ2 j = φ j)) := by
  refine x_f_of rfl ?_
  refine q_load (v := (6, 232, 0)) (p2 := 1) rfl rfl rfl rfl ?_
  refine q_load (v := (6, 237, 0)) (p2 := 2) rfl rfl rfl rfl ?_
  refine q_putfE (v := (6, 237, 0)) (p2 := 3) rfl hE (by decide) rfl rfl (fun φ1 f1 hh1 hg1 ho1 fr1 => ?_)
  have hs1 := zq_E_same_232_1 hE hh1 hg1 ho1 fr1
  refine q_load (v := (6, 232, 0)) (p2 := 4) rfl rfl rfl rfl ?_
  refine q_const (p2 := 5) rfl rfl ?_
  refine q_putfE (v := (0, 1, 0)) (p2 := 6) rfl hs1 (by decide) rfl rfl (fun φ2 f2 hh2 hg2 ho2 fr2 => ?_)
  have hs2 := zq_E_put_232_2 hs1 hh2 hg2 ho2 fr2
  refine q_load (v := (6, 232, 0)) (p2 := 7) rfl rfl rfl rfl ?_
  refine q_load (v := (6, 237, 0)) (p2 := 8) rfl rfl rfl rfl ?_
  have hm3 := (x_sch_at hS (fun j h1 h2 => ((fr2 j (by omega)).trans (fr1 j (by omega)))))
  refine q_getv (v := (0, 60, 0)) (p2 := 9) rfl hm3.1.choose_spec.1 (by decide) hm3.1.choose_spec.2.2.2.2.2.2.2.2.2.2.2.2.2.2.1 rfl ?_
  refine q_putfE (v := (0, 60, 0)) (p2 := 10) rfl hs2 (by decide) rfl rfl (fun φ4 f4 hh4 hg4 ho4 fr4 => ?_)
  have hs4 := zq_E_put_232_3 hs2 hh4 hg4 ho4 fr4
  refine q_load (v := (6, 232, 0)) (p2 := 11) rfl rfl rfl rfl ?_
  refine q_const (p2 := 12) rfl rfl ?_
  refine q_const (p2 := 13) rfl rfl ?_
  refine q_callvE (xs := [(0, 0, 0), (0, 4294967293, 0), (6, 232, 0)]) (p2 := 14) rfl rfl rfl rfl (x_rcv_s 232 hs4) rfl (zc_x_enter hs4) (Nat.le_refl _) (Nat.le_refl _) rfl (fun φ5 hR5 => ?_)
  obtain ⟨hs5_0, fr5⟩ := hR5
  refine q_load (v := (6, 232, 0)) (p2 := 15) rfl rfl rfl rfl ?_
  have hm6 := (zq_T_at hT ((fr5 2 (by decide)).trans ((fr4 2 (by decide)).trans ((fr2 2 (by decide)).trans (fr1 2 (by decide))))) ((fr5 3 (by decide)).trans ((fr4 3 (by decide)).trans ((fr2 3 (by decide)).trans (fr1 3 (by decide))))) ((fr5 4 (by decide)).trans ((fr4 4 (by decide)).trans ((fr2 4 (by decide)).trans (fr1 4 (by decide))))) ((fr5 5 (by decide)).trans ((fr4 5 (by decide)).trans ((fr2 5 (by decide)).trans (fr1 5 (by decide))))) ((fr5 6 (by decide)).trans ((fr4 6 (by decide)).trans ((fr2 6 (by decide)).trans (fr1 6 (by decide))))))
  have hm7 := (zq_co_at hC ((fr5 450 (by decide)).trans ((fr4 450 (by decide)).trans ((fr2 450 (by decide)).trans (fr1 450 (by decide))))))
  have hm8 := (x_sch_at hm3 (fun j h1 h2 => ((fr5 j (by omega)).trans (fr4 j (by omega)))))
  have hm9 := (zq_nm_at hN ((fr5 239 (by decide)).trans ((fr4 239 (by decide)).trans ((fr2 239 (by decide)).trans (fr1 239 (by decide))))) ((fr5 242 (by decide)).trans ((fr4 242 (by decide)).trans ((fr2 242 (by decide)).trans (fr1 242 (by decide))))) ((fr5 244 (by decide)).trans ((fr4 244 (by decide)).trans ((fr2 244 (by decide)).trans (fr1 244 (by decide))))))
  refine q_callvE (xs := [(6, 232, 0)]) (p2 := 16) rfl rfl rfl rfl (x_rcv_s 232 hs5_0) rfl (zc_x_exp_list hm6 hs5_0 hm7 hm8 hm9 (by omega) hc0 hc1 hc2 hc3 hc4 hc5 hc6 hc7 hc8 (by omega)) (Nat.le_refl _) (Nat.le_refl _) rfl (fun φ10 hR10 => ?_)
  obtain ⟨hs10_0, hs10_1, hs10_2, fr10⟩ := hR10
  refine q_load (v := (6, 232, 0)) (p2 := 17) rfl rfl rfl rfl ?_
  refine q_getv (v := (6, 2, 0)) (p2 := 18) rfl hs10_1 (by decide) rfl rfl ?_
  refine q_const (p2 := 19) rfl rfl ?_
  refine q_callv (xs := [(0, 0, 0), (6, 2, 0)]) (p2 := 20) rfl rfl rfl rfl (x_rcv_s 2 hs10_0.1) rfl (zc_t_expE hs10_0 (by omega)) (Nat.le_refl _) (Nat.le_refl _) rfl ?_
  refine q_load (v := (6, 232, 0)) (p2 := 21) rfl rfl rfl rfl ?_
  refine q_const (p2 := 22) rfl rfl ?_
  have hm11 := (x_sch_at hm8 (fun j h1 h2 => (fr10 j (by omega) (by omega) (by omega))))
  refine q_callvE (xs := [(0, 31, 0), (6, 232, 0)]) (p2 := 23) rfl rfl rfl rfl (x_rcv_s 232 hs10_1) rfl (zc_x_em1 hs10_1 hs10_2 hm11 (by omega)) (Nat.le_refl _) (Nat.le_refl _) rfl (fun φ12 hR12 => ?_)
  obtain ⟨hs12_0, hs12_1, fr12⟩ := hR12
  refine q_load (v := (6, 237, 0)) (p2 := 24) rfl rfl rfl rfl ?_
  have hm13 := (x_sch_at hm11 (fun j h1 h2 => (fr12 j (by omega) (by omega))))
  refine q_getv (v := (0, 60, 0)) (p2 := 25) rfl hm13.1.choose_spec.1 (by decide) hm13.1.choose_spec.2.2.2.2.2.2.2.2.2.2.2.2.2.2.1 rfl ?_
  have hm14 := (zq_T_at hs10_0 (fr12 2 (by decide) (by decide)) (fr12 3 (by decide) (by decide)) (fr12 4 (by decide) (by decide)) (fr12 5 (by decide) (by decide)) (fr12 6 (by decide) (by decide)))
  exact q_retv (v := (0, 60, 0)) rfl rfl (⟨rfl, rfl, rfl, rfl, hm14, hs12_0, hs12_1, fun j hj0 hj1 hj2 => ((fr12 j (by omega) (by omega)).trans ((fr10 j (by omega) (by omega) (by omega)).trans ((fr5 j (by omega)).trans ((fr4 j (by omega)).trans ((fr2 j (by omega)).trans (fr1 j (by omega)))))))⟩)
theorem zc_x_alone_call {d n sl : Nat} {φ : FH} {pl : Nat} {fp : Nat} {sp : Nat} {K : Nat → Nat} {P : Nat → Nat} {V : Nat → Nat} {bi : Nat} {top : Nat} {hid : Nat} {lc : Nat} {slo : Nat} {own : Nat} {sk : Nat} {co : Nat → Nat} {w1 : Nat} (hT : zq_T φ 6 0 1 pl 6 0 fp 0 sp 0 0 K P V) (hE : zq_E φ bi top hid lc slo own sk) (hC : zq_co φ co) (hS : x_sch φ) (hN : zq_nm φ) (hc0 : K 1 = 73) (hc1 : K 2 = 82) (hc2 : K 3 = 2) (hc3 : V 3 = w1) (hc4 : K 4 = 74) (hc5 : K 5 = 0) (hc6 : w1 < 2147483648) : x_f x_P (d + 17) 105 [(6, 232, 0), (6, 237, 0)] φ n sl (x_rR (0, 60, 0) n sl (fun φ2 => zq_T φ2 6 5 0 (P 5) (V 5) 0 fp 0 sp 2 0 K P V ∧ zq_E φ2 1 69 0 0 0 4294967293 0 ∧ zq_co φ2 (x_s (x_s (x_s (x_s (x_s (x_s (x_s (x_s (x_s (x_s (x_s co 60 1) 61 0) 61 1) 62 1) 63 0) 63 1) 64 7) 65 w1) 66 20) 67 0) 68 31) ∧ ∀ j, j ≠ 2 → j ≠ 232 → j ≠ 450 → φ2 j = φ j)) := by
  refine x_f_of rfl ?_
  refine q_load (v := (6, 232, 0)) (p2 := 1) rfl rfl rfl rfl ?_
  refine q_load (v := (6, 237, 0)) (p2 := 2) rfl rfl rfl rfl ?_
  refine q_putfE (v := (6, 237, 0)) (p2 := 3) rfl hE (by decide) rfl rfl (fun φ1 f1 hh1 hg1 ho1 fr1 => ?_)
  have hs1 := zq_E_same_232_1 hE hh1 hg1 ho1 fr1
  refine q_load (v := (6, 232, 0)) (p2 := 4) rfl rfl rfl rfl ?_
  refine q_const (p2 := 5) rfl rfl ?_
  refine q_putfE (v := (0, 1, 0)) (p2 := 6) rfl hs1 (by decide) rfl rfl (fun φ2 f2 hh2 hg2 ho2 fr2 => ?_)
  have hs2 := zq_E_put_232_2 hs1 hh2 hg2 ho2 fr2
  refine q_load (v := (6, 232, 0)) (p2 := 7) rfl rfl rfl rfl ?_
  refine q_load (v := (6, 237, 0)) (p2 := 8) rfl rfl rfl rfl ?_
  have hm3 := (x_sch_at hS (fun j h1 h2 => ((fr2 j (by omega)).trans (fr1 j (by omega)))))
  refine q_getv (v := (0, 60, 0)) (p2 := 9) rfl hm3.1.choose_spec.1 (by decide) hm3.1.choose_spec.2.2.2.2.2.2.2.2.2.2.2.2.2.2.1 rfl ?_
  refine q_putfE (v := (0, 60, 0)) (p2 := 10) rfl hs2 (by decide) rfl rfl (fun φ4 f4 hh4 hg4 ho4 fr4 => ?_)
  have hs4 := zq_E_put_232_3 hs2 hh4 hg4 ho4 fr4
  refine q_load (v := (6, 232, 0)) (p2 := 11) rfl rfl rfl rfl ?_
  refine q_const (p2 := 12) rfl rfl ?_
  refine q_const (p2 := 13) rfl rfl ?_
  refine q_callvE (xs := [(0, 0, 0), (0, 4294967293, 0), (6, 232, 0)]) (p2 := 14) rfl rfl rfl rfl (x_rcv_s 232 hs4) rfl (zc_x_enter hs4) (Nat.le_refl _) (Nat.le_refl _) rfl (fun φ5 hR5 => ?_)
  obtain ⟨hs5_0, fr5⟩ := hR5
  refine q_load (v := (6, 232, 0)) (p2 := 15) rfl rfl rfl rfl ?_
  have hm6 := (zq_T_at hT ((fr5 2 (by decide)).trans ((fr4 2 (by decide)).trans ((fr2 2 (by decide)).trans (fr1 2 (by decide))))) ((fr5 3 (by decide)).trans ((fr4 3 (by decide)).trans ((fr2 3 (by decide)).trans (fr1 3 (by decide))))) ((fr5 4 (by decide)).trans ((fr4 4 (by decide)).trans ((fr2 4 (by decide)).trans (fr1 4 (by decide))))) ((fr5 5 (by decide)).trans ((fr4 5 (by decide)).trans ((fr2 5 (by decide)).trans (fr1 5 (by decide))))) ((fr5 6 (by decide)).trans ((fr4 6 (by decide)).trans ((fr2 6 (by decide)).trans (fr1 6 (by decide))))))
  have hm7 := (zq_co_at hC ((fr5 450 (by decide)).trans ((fr4 450 (by decide)).trans ((fr2 450 (by decide)).trans (fr1 450 (by decide))))))
  have hm8 := (x_sch_at hm3 (fun j h1 h2 => ((fr5 j (by omega)).trans (fr4 j (by omega)))))
  have hm9 := (zq_nm_at hN ((fr5 239 (by decide)).trans ((fr4 239 (by decide)).trans ((fr2 239 (by decide)).trans (fr1 239 (by decide))))) ((fr5 242 (by decide)).trans ((fr4 242 (by decide)).trans ((fr2 242 (by decide)).trans (fr1 242 (by decide))))) ((fr5 244 (by decide)).trans ((fr4 244 (by decide)).trans ((fr2 244 (by decide)).trans (fr1 244 (by decide))))))
  refine q_callvE (xs := [(6, 232, 0)]) (p2 := 16) rfl rfl rfl rfl (x_rcv_s 232 hs5_0) rfl (zc_x_exp_call hm6 hs5_0 hm7 hm8 hm9 (by omega) hc0 hc1 hc2 hc3 hc4 hc5 (by omega)) (Nat.le_refl _) (Nat.le_refl _) rfl (fun φ10 hR10 => ?_)
  obtain ⟨hs10_0, hs10_1, hs10_2, fr10⟩ := hR10
  refine q_load (v := (6, 232, 0)) (p2 := 17) rfl rfl rfl rfl ?_
  refine q_getv (v := (6, 2, 0)) (p2 := 18) rfl hs10_1 (by decide) rfl rfl ?_
  refine q_const (p2 := 19) rfl rfl ?_
  refine q_callv (xs := [(0, 0, 0), (6, 2, 0)]) (p2 := 20) rfl rfl rfl rfl (x_rcv_s 2 hs10_0.1) rfl (zc_t_expE hs10_0 (by omega)) (Nat.le_refl _) (Nat.le_refl _) rfl ?_
  refine q_load (v := (6, 232, 0)) (p2 := 21) rfl rfl rfl rfl ?_
  refine q_const (p2 := 22) rfl rfl ?_
  have hm11 := (x_sch_at hm8 (fun j h1 h2 => (fr10 j (by omega) (by omega) (by omega))))
  refine q_callvE (xs := [(0, 31, 0), (6, 232, 0)]) (p2 := 23) rfl rfl rfl rfl (x_rcv_s 232 hs10_1) rfl (zc_x_em1 hs10_1 hs10_2 hm11 (by omega)) (Nat.le_refl _) (Nat.le_refl _) rfl (fun φ12 hR12 => ?_)
  obtain ⟨hs12_0, hs12_1, fr12⟩ := hR12
  refine q_load (v := (6, 237, 0)) (p2 := 24) rfl rfl rfl rfl ?_
  have hm13 := (x_sch_at hm11 (fun j h1 h2 => (fr12 j (by omega) (by omega))))
  refine q_getv (v := (0, 60, 0)) (p2 := 25) rfl hm13.1.choose_spec.1 (by decide) hm13.1.choose_spec.2.2.2.2.2.2.2.2.2.2.2.2.2.2.1 rfl ?_
  have hm14 := (zq_T_at hs10_0 (fr12 2 (by decide) (by decide)) (fr12 3 (by decide) (by decide)) (fr12 4 (by decide) (by decide)) (fr12 5 (by decide) (by decide)) (fr12 6 (by decide) (by decide)))
  exact q_retv (v := (0, 60, 0)) rfl rfl (⟨rfl, rfl, rfl, rfl, hm14, hs12_0, hs12_1, fun j hj0 hj1 hj2 => ((fr12 j (by omega) (by omega)).trans ((fr10 j (by omega) (by omega) (by omega)).trans ((fr5 j (by omega)).trans ((fr4 j (by omega)).trans ((fr2 j (by omega)).trans (fr1 j (by omega)))))))⟩)
theorem zc_x_alone_used {d n sl : Nat} {φ : FH} {pl : Nat} {fp : Nat} {sp : Nat} {K : Nat → Nat} {P : Nat → Nat} {V : Nat → Nat} {bi : Nat} {top : Nat} {hid : Nat} {lc : Nat} {slo : Nat} {own : Nat} {sk : Nat} {co : Nat → Nat} {w1 : Nat} (hT : zq_T φ 6 0 1 pl 1703836604 0 fp 0 sp 0 0 K P V) (hE : zq_E φ bi top hid lc slo own sk) (hC : zq_co φ co) (hS : x_sch φ) (hN : zq_nm φ) (hc0 : K 1 = 73) (hc1 : K 2 = 82) (hc2 : K 3 = 2) (hc3 : V 3 = w1) (hc4 : K 4 = 74) (hc5 : K 5 = 0) (hc6 : w1 < 2147483648) : x_f x_P (d + 17) 105 [(6, 232, 0), (6, 237, 0)] φ n sl (x_rR (0, 60, 0) n sl (fun φ2 => zq_T φ2 6 5 0 (P 5) (V 5) 0 fp 0 sp 2 0 K P V ∧ zq_E φ2 1 69 0 0 0 4294967293 0 ∧ zq_co φ2 (x_s (x_s (x_s (x_s (x_s (x_s (x_s (x_s (x_s (x_s (x_s co 60 1) 61 0) 61 1) 62 1) 63 0) 63 1) 64 7) 65 w1) 66 19) 67 9) 68 31) ∧ ∀ j, j ≠ 2 → j ≠ 232 → j ≠ 450 → φ2 j = φ j)) := by
  refine x_f_of rfl ?_
  refine q_load (v := (6, 232, 0)) (p2 := 1) rfl rfl rfl rfl ?_
  refine q_load (v := (6, 237, 0)) (p2 := 2) rfl rfl rfl rfl ?_
  refine q_putfE (v := (6, 237, 0)) (p2 := 3) rfl hE (by decide) rfl rfl (fun φ1 f1 hh1 hg1 ho1 fr1 => ?_)
  have hs1 := zq_E_same_232_1 hE hh1 hg1 ho1 fr1
  refine q_load (v := (6, 232, 0)) (p2 := 4) rfl rfl rfl rfl ?_
  refine q_const (p2 := 5) rfl rfl ?_
  refine q_putfE (v := (0, 1, 0)) (p2 := 6) rfl hs1 (by decide) rfl rfl (fun φ2 f2 hh2 hg2 ho2 fr2 => ?_)
  have hs2 := zq_E_put_232_2 hs1 hh2 hg2 ho2 fr2
  refine q_load (v := (6, 232, 0)) (p2 := 7) rfl rfl rfl rfl ?_
  refine q_load (v := (6, 237, 0)) (p2 := 8) rfl rfl rfl rfl ?_
  have hm3 := (x_sch_at hS (fun j h1 h2 => ((fr2 j (by omega)).trans (fr1 j (by omega)))))
  refine q_getv (v := (0, 60, 0)) (p2 := 9) rfl hm3.1.choose_spec.1 (by decide) hm3.1.choose_spec.2.2.2.2.2.2.2.2.2.2.2.2.2.2.1 rfl ?_
  refine q_putfE (v := (0, 60, 0)) (p2 := 10) rfl hs2 (by decide) rfl rfl (fun φ4 f4 hh4 hg4 ho4 fr4 => ?_)
  have hs4 := zq_E_put_232_3 hs2 hh4 hg4 ho4 fr4
  refine q_load (v := (6, 232, 0)) (p2 := 11) rfl rfl rfl rfl ?_
  refine q_const (p2 := 12) rfl rfl ?_
  refine q_const (p2 := 13) rfl rfl ?_
  refine q_callvE (xs := [(0, 0, 0), (0, 4294967293, 0), (6, 232, 0)]) (p2 := 14) rfl rfl rfl rfl (x_rcv_s 232 hs4) rfl (zc_x_enter hs4) (Nat.le_refl _) (Nat.le_refl _) rfl (fun φ5 hR5 => ?_)
  obtain ⟨hs5_0, fr5⟩ := hR5
  refine q_load (v := (6, 232, 0)) (p2 := 15) rfl rfl rfl rfl ?_
  have hm6 := (zq_T_at hT ((fr5 2 (by decide)).trans ((fr4 2 (by decide)).trans ((fr2 2 (by decide)).trans (fr1 2 (by decide))))) ((fr5 3 (by decide)).trans ((fr4 3 (by decide)).trans ((fr2 3 (by decide)).trans (fr1 3 (by decide))))) ((fr5 4 (by decide)).trans ((fr4 4 (by decide)).trans ((fr2 4 (by decide)).trans (fr1 4 (by decide))))) ((fr5 5 (by decide)).trans ((fr4 5 (by decide)).trans ((fr2 5 (by decide)).trans (fr1 5 (by decide))))) ((fr5 6 (by decide)).trans ((fr4 6 (by decide)).trans ((fr2 6 (by decide)).trans (fr1 6 (by decide))))))
  have hm7 := (zq_co_at hC ((fr5 450 (by decide)).trans ((fr4 450 (by decide)).trans ((fr2 450 (by decide)).trans (fr1 450 (by decide))))))
  have hm8 := (x_sch_at hm3 (fun j h1 h2 => ((fr5 j (by omega)).trans (fr4 j (by omega)))))
  have hm9 := (zq_nm_at hN ((fr5 239 (by decide)).trans ((fr4 239 (by decide)).trans ((fr2 239 (by decide)).trans (fr1 239 (by decide))))) ((fr5 242 (by decide)).trans ((fr4 242 (by decide)).trans ((fr2 242 (by decide)).trans (fr1 242 (by decide))))) ((fr5 244 (by decide)).trans ((fr4 244 (by decide)).trans ((fr2 244 (by decide)).trans (fr1 244 (by decide))))))
  refine q_callvE (xs := [(6, 232, 0)]) (p2 := 16) rfl rfl rfl rfl (x_rcv_s 232 hs5_0) rfl (zc_x_exp_used hm6 hs5_0 hm7 hm8 hm9 (by omega) hc0 hc1 hc2 hc3 hc4 hc5 (by omega)) (Nat.le_refl _) (Nat.le_refl _) rfl (fun φ10 hR10 => ?_)
  obtain ⟨hs10_0, hs10_1, hs10_2, fr10⟩ := hR10
  refine q_load (v := (6, 232, 0)) (p2 := 17) rfl rfl rfl rfl ?_
  refine q_getv (v := (6, 2, 0)) (p2 := 18) rfl hs10_1 (by decide) rfl rfl ?_
  refine q_const (p2 := 19) rfl rfl ?_
  refine q_callv (xs := [(0, 0, 0), (6, 2, 0)]) (p2 := 20) rfl rfl rfl rfl (x_rcv_s 2 hs10_0.1) rfl (zc_t_expE hs10_0 (by omega)) (Nat.le_refl _) (Nat.le_refl _) rfl ?_
  refine q_load (v := (6, 232, 0)) (p2 := 21) rfl rfl rfl rfl ?_
  refine q_const (p2 := 22) rfl rfl ?_
  have hm11 := (x_sch_at hm8 (fun j h1 h2 => (fr10 j (by omega) (by omega) (by omega))))
  refine q_callvE (xs := [(0, 31, 0), (6, 232, 0)]) (p2 := 23) rfl rfl rfl rfl (x_rcv_s 232 hs10_1) rfl (zc_x_em1 hs10_1 hs10_2 hm11 (by omega)) (Nat.le_refl _) (Nat.le_refl _) rfl (fun φ12 hR12 => ?_)
  obtain ⟨hs12_0, hs12_1, fr12⟩ := hR12
  refine q_load (v := (6, 237, 0)) (p2 := 24) rfl rfl rfl rfl ?_
  have hm13 := (x_sch_at hm11 (fun j h1 h2 => (fr12 j (by omega) (by omega))))
  refine q_getv (v := (0, 60, 0)) (p2 := 25) rfl hm13.1.choose_spec.1 (by decide) hm13.1.choose_spec.2.2.2.2.2.2.2.2.2.2.2.2.2.2.1 rfl ?_
  have hm14 := (zq_T_at hs10_0 (fr12 2 (by decide) (by decide)) (fr12 3 (by decide) (by decide)) (fr12 4 (by decide) (by decide)) (fr12 5 (by decide) (by decide)) (fr12 6 (by decide) (by decide)))
  exact q_retv (v := (0, 60, 0)) rfl rfl (⟨rfl, rfl, rfl, rfl, hm14, hs12_0, hs12_1, fun j hj0 hj1 hj2 => ((fr12 j (by omega) (by omega)).trans ((fr10 j (by omega) (by omega) (by omega)).trans ((fr5 j (by omega)).trans ((fr4 j (by omega)).trans ((fr2 j (by omega)).trans (fr1 j (by omega)))))))⟩)
theorem zc_x_alone_eq {d n sl : Nat} {φ : FH} {pl : Nat} {va : Nat} {fp : Nat} {sp : Nat} {K : Nat → Nat} {P : Nat → Nat} {V : Nat → Nat} {bi : Nat} {top : Nat} {hid : Nat} {lc : Nat} {slo : Nat} {own : Nat} {sk : Nat} {co : Nat → Nat} {w1 : Nat} {w2 : Nat} (hT : zq_T φ 6 0 82 pl va 0 fp 0 sp 0 0 K P V) (hE : zq_E φ bi top hid lc slo own sk) (hC : zq_co φ co) (hS : x_sch φ) (hN : zq_nm φ) (hc0 : K 1 = 2) (hc1 : V 1 = w1) (hc2 : K 2 = 64) (hc3 : K 3 = 82) (hc4 : K 4 = 2) (hc5 : V 4 = w2) (hc6 : K 5 = 0) (hc7 : w1 < 2147483648 ∧ w2 < 2147483648) : x_f x_P (d + 9) 105 [(6, 232, 0), (6, 237, 0)] φ n sl (x_rR (0, 60, 0) n sl (fun φ2 => zq_T φ2 6 5 0 (P 5) (V 5) 0 fp 0 sp 3 0 K P V ∧ zq_E φ2 1 71 0 0 0 4294967293 0 ∧ zq_co φ2 (x_s (x_s (x_s (x_s (x_s (x_s (x_s (x_s (x_s (x_s (x_s (x_s (x_s (x_s co 60 1) 61 0) 61 1) 62 7) 63 w1) 61 2) 64 1) 65 0) 65 1) 66 7) 67 w2) 68 15) 69 64) 70 31) ∧ ∀ j, j ≠ 2 → j ≠ 232 → j ≠ 450 → φ2 j = φ j)) := by
  refine x_f_of rfl ?_
  refine q_load (v := (6, 232, 0)) (p2 := 1) rfl rfl rfl rfl ?_
  refine q_load (v := (6, 237, 0)) (p2 := 2) rfl rfl rfl rfl ?_
  refine q_putfE (v := (6, 237, 0)) (p2 := 3) rfl hE (by decide) rfl rfl (fun φ1 f1 hh1 hg1 ho1 fr1 => ?_)
  have hs1 := zq_E_same_232_1 hE hh1 hg1 ho1 fr1
  refine q_load (v := (6, 232, 0)) (p2 := 4) rfl rfl rfl rfl ?_
  refine q_const (p2 := 5) rfl rfl ?_
  refine q_putfE (v := (0, 1, 0)) (p2 := 6) rfl hs1 (by decide) rfl rfl (fun φ2 f2 hh2 hg2 ho2 fr2 => ?_)
  have hs2 := zq_E_put_232_2 hs1 hh2 hg2 ho2 fr2
  refine q_load (v := (6, 232, 0)) (p2 := 7) rfl rfl rfl rfl ?_
  refine q_load (v := (6, 237, 0)) (p2 := 8) rfl rfl rfl rfl ?_
  have hm3 := (x_sch_at hS (fun j h1 h2 => ((fr2 j (by omega)).trans (fr1 j (by omega)))))
  refine q_getv (v := (0, 60, 0)) (p2 := 9) rfl hm3.1.choose_spec.1 (by decide) hm3.1.choose_spec.2.2.2.2.2.2.2.2.2.2.2.2.2.2.1 rfl ?_
  refine q_putfE (v := (0, 60, 0)) (p2 := 10) rfl hs2 (by decide) rfl rfl (fun φ4 f4 hh4 hg4 ho4 fr4 => ?_)
  have hs4 := zq_E_put_232_3 hs2 hh4 hg4 ho4 fr4
  refine q_load (v := (6, 232, 0)) (p2 := 11) rfl rfl rfl rfl ?_
  refine q_const (p2 := 12) rfl rfl ?_
  refine q_const (p2 := 13) rfl rfl ?_
  refine q_callvE (xs := [(0, 0, 0), (0, 4294967293, 0), (6, 232, 0)]) (p2 := 14) rfl rfl rfl rfl (x_rcv_s 232 hs4) rfl (zc_x_enter hs4) (Nat.le_refl _) (Nat.le_refl _) rfl (fun φ5 hR5 => ?_)
  obtain ⟨hs5_0, fr5⟩ := hR5
  refine q_load (v := (6, 232, 0)) (p2 := 15) rfl rfl rfl rfl ?_
  have hm6 := (zq_T_at hT ((fr5 2 (by decide)).trans ((fr4 2 (by decide)).trans ((fr2 2 (by decide)).trans (fr1 2 (by decide))))) ((fr5 3 (by decide)).trans ((fr4 3 (by decide)).trans ((fr2 3 (by decide)).trans (fr1 3 (by decide))))) ((fr5 4 (by decide)).trans ((fr4 4 (by decide)).trans ((fr2 4 (by decide)).trans (fr1 4 (by decide))))) ((fr5 5 (by decide)).trans ((fr4 5 (by decide)).trans ((fr2 5 (by decide)).trans (fr1 5 (by decide))))) ((fr5 6 (by decide)).trans ((fr4 6 (by decide)).trans ((fr2 6 (by decide)).trans (fr1 6 (by decide))))))
  have hm7 := (zq_co_at hC ((fr5 450 (by decide)).trans ((fr4 450 (by decide)).trans ((fr2 450 (by decide)).trans (fr1 450 (by decide))))))
  have hm8 := (x_sch_at hm3 (fun j h1 h2 => ((fr5 j (by omega)).trans (fr4 j (by omega)))))
  have hm9 := (zq_nm_at hN ((fr5 239 (by decide)).trans ((fr4 239 (by decide)).trans ((fr2 239 (by decide)).trans (fr1 239 (by decide))))) ((fr5 242 (by decide)).trans ((fr4 242 (by decide)).trans ((fr2 242 (by decide)).trans (fr1 242 (by decide))))) ((fr5 244 (by decide)).trans ((fr4 244 (by decide)).trans ((fr2 244 (by decide)).trans (fr1 244 (by decide))))))
  refine q_callvE (xs := [(6, 232, 0)]) (p2 := 16) rfl rfl rfl rfl (x_rcv_s 232 hs5_0) rfl (zc_x_exp_eq hm6 hs5_0 hm7 hm8 hm9 (by omega) hc0 hc1 hc2 hc3 hc4 hc5 hc6 (by omega)) (Nat.le_refl _) (Nat.le_refl _) rfl (fun φ10 hR10 => ?_)
  obtain ⟨hs10_0, hs10_1, hs10_2, fr10⟩ := hR10
  refine q_load (v := (6, 232, 0)) (p2 := 17) rfl rfl rfl rfl ?_
  refine q_getv (v := (6, 2, 0)) (p2 := 18) rfl hs10_1 (by decide) rfl rfl ?_
  refine q_const (p2 := 19) rfl rfl ?_
  refine q_callv (xs := [(0, 0, 0), (6, 2, 0)]) (p2 := 20) rfl rfl rfl rfl (x_rcv_s 2 hs10_0.1) rfl (zc_t_expE hs10_0 (by omega)) (Nat.le_refl _) (Nat.le_refl _) rfl ?_
  refine q_load (v := (6, 232, 0)) (p2 := 21) rfl rfl rfl rfl ?_
  refine q_const (p2 := 22) rfl rfl ?_
  have hm11 := (x_sch_at hm8 (fun j h1 h2 => (fr10 j (by omega) (by omega) (by omega))))
  refine q_callvE (xs := [(0, 31, 0), (6, 232, 0)]) (p2 := 23) rfl rfl rfl rfl (x_rcv_s 232 hs10_1) rfl (zc_x_em1 hs10_1 hs10_2 hm11 (by omega)) (Nat.le_refl _) (Nat.le_refl _) rfl (fun φ12 hR12 => ?_)
  obtain ⟨hs12_0, hs12_1, fr12⟩ := hR12
  refine q_load (v := (6, 237, 0)) (p2 := 24) rfl rfl rfl rfl ?_
  have hm13 := (x_sch_at hm11 (fun j h1 h2 => (fr12 j (by omega) (by omega))))
  refine q_getv (v := (0, 60, 0)) (p2 := 25) rfl hm13.1.choose_spec.1 (by decide) hm13.1.choose_spec.2.2.2.2.2.2.2.2.2.2.2.2.2.2.1 rfl ?_
  have hm14 := (zq_T_at hs10_0 (fr12 2 (by decide) (by decide)) (fr12 3 (by decide) (by decide)) (fr12 4 (by decide) (by decide)) (fr12 5 (by decide) (by decide)) (fr12 6 (by decide) (by decide)))
  exact q_retv (v := (0, 60, 0)) rfl rfl (⟨rfl, rfl, rfl, rfl, hm14, hs12_0, hs12_1, fun j hj0 hj1 hj2 => ((fr12 j (by omega) (by omega)).trans ((fr10 j (by omega) (by omega) (by omega)).trans ((fr5 j (by omega)).trans ((fr4 j (by omega)).trans ((fr2 j (by omega)).trans (fr1 j (by omega)))))))⟩)
theorem zc_x_alone_err {d n sl : Nat} {φ : FH} {pl : Nat} {va : Nat} {fp : Nat} {sp : Nat} {K : Nat → Nat} {P : Nat → Nat} {V : Nat → Nat} {bi : Nat} {top : Nat} {hid : Nat} {lc : Nat} {slo : Nat} {own : Nat} {sk : Nat} {co : Nat → Nat} {w1 : Nat} (hT : zq_T φ 4 0 82 pl va 0 fp 0 sp 0 0 K P V) (hE : zq_E φ bi top hid lc slo own sk) (hC : zq_co φ co) (hS : x_sch φ) (hN : zq_nm φ) (hc0 : K 1 = 2) (hc1 : V 1 = w1) (hc2 : K 2 = 69) (hc3 : K 3 = 0) (hc4 : w1 < 2147483648) : x_f x_P (d + 9) 105 [(6, 232, 0), (6, 237, 0)] φ n sl (x_rR (0, 60, 0) n sl (fun φ2 => zq_T φ2 4 3 5 (P 3) (V 3) 2 (P 3) 0 sp 2 0 K P V ∧ zq_E φ2 1 69 0 0 0 4294967293 0 ∧ zq_co φ2 (x_s (x_s (x_s (x_s (x_s (x_s (x_s (x_s (x_s (x_s (x_s co 60 1) 61 0) 61 1) 62 7) 63 w1) 61 2) 64 1) 65 0) 66 13) 67 69) 68 31) ∧ ∀ j, j ≠ 2 → j ≠ 232 → j ≠ 450 → φ2 j = φ j)) := by
  refine x_f_of rfl ?_
  refine q_load (v := (6, 232, 0)) (p2 := 1) rfl rfl rfl rfl ?_
  refine q_load (v := (6, 237, 0)) (p2 := 2) rfl rfl rfl rfl ?_
  refine q_putfE (v := (6, 237, 0)) (p2 := 3) rfl hE (by decide) rfl rfl (fun φ1 f1 hh1 hg1 ho1 fr1 => ?_)
  have hs1 := zq_E_same_232_1 hE hh1 hg1 ho1 fr1
  refine q_load (v := (6, 232, 0)) (p2 := 4) rfl rfl rfl rfl ?_
  refine q_const (p2 := 5) rfl rfl ?_
  refine q_putfE (v := (0, 1, 0)) (p2 := 6) rfl hs1 (by decide) rfl rfl (fun φ2 f2 hh2 hg2 ho2 fr2 => ?_)
  have hs2 := zq_E_put_232_2 hs1 hh2 hg2 ho2 fr2
  refine q_load (v := (6, 232, 0)) (p2 := 7) rfl rfl rfl rfl ?_
  refine q_load (v := (6, 237, 0)) (p2 := 8) rfl rfl rfl rfl ?_
  have hm3 := (x_sch_at hS (fun j h1 h2 => ((fr2 j (by omega)).trans (fr1 j (by omega)))))
  refine q_getv (v := (0, 60, 0)) (p2 := 9) rfl hm3.1.choose_spec.1 (by decide) hm3.1.choose_spec.2.2.2.2.2.2.2.2.2.2.2.2.2.2.1 rfl ?_
  refine q_putfE (v := (0, 60, 0)) (p2 := 10) rfl hs2 (by decide) rfl rfl (fun φ4 f4 hh4 hg4 ho4 fr4 => ?_)
  have hs4 := zq_E_put_232_3 hs2 hh4 hg4 ho4 fr4
  refine q_load (v := (6, 232, 0)) (p2 := 11) rfl rfl rfl rfl ?_
  refine q_const (p2 := 12) rfl rfl ?_
  refine q_const (p2 := 13) rfl rfl ?_
  refine q_callvE (xs := [(0, 0, 0), (0, 4294967293, 0), (6, 232, 0)]) (p2 := 14) rfl rfl rfl rfl (x_rcv_s 232 hs4) rfl (zc_x_enter hs4) (Nat.le_refl _) (Nat.le_refl _) rfl (fun φ5 hR5 => ?_)
  obtain ⟨hs5_0, fr5⟩ := hR5
  refine q_load (v := (6, 232, 0)) (p2 := 15) rfl rfl rfl rfl ?_
  have hm6 := (zq_T_at hT ((fr5 2 (by decide)).trans ((fr4 2 (by decide)).trans ((fr2 2 (by decide)).trans (fr1 2 (by decide))))) ((fr5 3 (by decide)).trans ((fr4 3 (by decide)).trans ((fr2 3 (by decide)).trans (fr1 3 (by decide))))) ((fr5 4 (by decide)).trans ((fr4 4 (by decide)).trans ((fr2 4 (by decide)).trans (fr1 4 (by decide))))) ((fr5 5 (by decide)).trans ((fr4 5 (by decide)).trans ((fr2 5 (by decide)).trans (fr1 5 (by decide))))) ((fr5 6 (by decide)).trans ((fr4 6 (by decide)).trans ((fr2 6 (by decide)).trans (fr1 6 (by decide))))))
  have hm7 := (zq_co_at hC ((fr5 450 (by decide)).trans ((fr4 450 (by decide)).trans ((fr2 450 (by decide)).trans (fr1 450 (by decide))))))
  have hm8 := (x_sch_at hm3 (fun j h1 h2 => ((fr5 j (by omega)).trans (fr4 j (by omega)))))
  have hm9 := (zq_nm_at hN ((fr5 239 (by decide)).trans ((fr4 239 (by decide)).trans ((fr2 239 (by decide)).trans (fr1 239 (by decide))))) ((fr5 242 (by decide)).trans ((fr4 242 (by decide)).trans ((fr2 242 (by decide)).trans (fr1 242 (by decide))))) ((fr5 244 (by decide)).trans ((fr4 244 (by decide)).trans ((fr2 244 (by decide)).trans (fr1 244 (by decide))))))
  refine q_callvE (xs := [(6, 232, 0)]) (p2 := 16) rfl rfl rfl rfl (x_rcv_s 232 hs5_0) rfl (zc_x_exp_err hm6 hs5_0 hm7 hm8 hm9 (by omega) hc0 hc1 hc2 hc3 (by omega)) (Nat.le_refl _) (Nat.le_refl _) rfl (fun φ10 hR10 => ?_)
  obtain ⟨hs10_0, hs10_1, hs10_2, fr10⟩ := hR10
  refine q_load (v := (6, 232, 0)) (p2 := 17) rfl rfl rfl rfl ?_
  refine q_getv (v := (6, 2, 0)) (p2 := 18) rfl hs10_1 (by decide) rfl rfl ?_
  refine q_const (p2 := 19) rfl rfl ?_
  refine q_callvE (xs := [(0, 0, 0), (6, 2, 0)]) (p2 := 20) rfl rfl rfl rfl (x_rcv_s 2 hs10_0.1) rfl (zc_t_exp5 hs10_0 (by omega)) (Nat.le_refl _) (Nat.le_refl _) rfl (fun φ11 hR11 => ?_)
  obtain ⟨hs11_0, fr11⟩ := hR11
  refine q_load (v := (6, 232, 0)) (p2 := 21) rfl rfl rfl rfl ?_
  refine q_const (p2 := 22) rfl rfl ?_
  have hm12 := (zq_E_at hs10_1 (fr11 232 (by decide)))
  have hm13 := (zq_co_at hs10_2 (fr11 450 (by decide)))
  have hm14 := (x_sch_at hm8 (fun j h1 h2 => ((fr11 j (by omega)).trans (fr10 j (by omega) (by omega) (by omega)))))
  refine q_callvE (xs := [(0, 31, 0), (6, 232, 0)]) (p2 := 23) rfl rfl rfl rfl (x_rcv_s 232 hm12) rfl (zc_x_em1 hm12 hm13 hm14 (by omega)) (Nat.le_refl _) (Nat.le_refl _) rfl (fun φ15 hR15 => ?_)
  obtain ⟨hs15_0, hs15_1, fr15⟩ := hR15
  refine q_load (v := (6, 237, 0)) (p2 := 24) rfl rfl rfl rfl ?_
  have hm16 := (x_sch_at hm14 (fun j h1 h2 => (fr15 j (by omega) (by omega))))
  refine q_getv (v := (0, 60, 0)) (p2 := 25) rfl hm16.1.choose_spec.1 (by decide) hm16.1.choose_spec.2.2.2.2.2.2.2.2.2.2.2.2.2.2.1 rfl ?_
  have hm17 := (zq_T_at hs11_0 (fr15 2 (by decide) (by decide)) (fr15 3 (by decide) (by decide)) (fr15 4 (by decide) (by decide)) (fr15 5 (by decide) (by decide)) (fr15 6 (by decide) (by decide)))
  exact q_retv (v := (0, 60, 0)) rfl rfl (⟨rfl, rfl, rfl, rfl, hm17, hs15_0, hs15_1, fun j hj0 hj1 hj2 => ((fr15 j (by omega) (by omega)).trans ((fr11 j (by omega)).trans ((fr10 j (by omega) (by omega) (by omega)).trans ((fr5 j (by omega)).trans ((fr4 j (by omega)).trans ((fr2 j (by omega)).trans (fr1 j (by omega))))))))⟩)
end FPOP42
