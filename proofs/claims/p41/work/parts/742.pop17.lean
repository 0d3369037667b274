section FPOP17
theorem e_kc_0_8 {d n sl : Nat} {φ : FH} (hSc : x_sch φ) : x_f x_P (d + 1) 174 [(6, 237, 0), (0, 0, 0), (0, 8, 0)] φ n sl (x_r φ n sl (0, 0, 0)) := by
  obtain ⟨fS, hs237⟩ := hSc.1
  refine x_f_of rfl ?_
  refine q_load (p2 := 1) rfl rfl rfl rfl ?_
  refine q_if0_s (p2 := 2) rfl (by decide) (by omega) rfl (fun hb => absurd hb (show ¬ (0 < 0) by omega)) (fun _ => ?_)
  refine q_load (p2 := 3) rfl rfl rfl rfl ?_
  refine q_load (p2 := 4) rfl rfl rfl rfl ?_
  refine q_getv (p2 := 5) rfl hs237.1 (by decide) hs237.2.2.2.2.2.2.2.2.2.1 rfl ?_
  refine q_alen (p2 := 6) rfl (x_sc_312 hSc) rfl (by omega) rfl ?_
  refine q_icmp_s (p2 := 7) rfl (by decide) (by omega) (by omega) rfl (fun hb => absurd hb (show ¬ (¬ (0 < 128)) by omega)) (fun _ => ?_)
  refine q_load (p2 := 8) rfl rfl rfl rfl ?_
  refine q_if0_s (p2 := 9) rfl (by decide) (by omega) rfl (fun hb => absurd hb (show ¬ (8 < 0) by omega)) (fun _ => ?_)
  refine q_load (p2 := 10) rfl rfl rfl rfl ?_
  refine q_const (p2 := 11) rfl rfl ?_
  refine q_icmp_s (p2 := 12) rfl (by decide) (by omega) (by omega) rfl (fun _ => ?_) (fun hb => absurd (show 8 < 9 by omega) hb)
  refine q_load (p2 := 15) rfl rfl rfl rfl ?_
  refine q_getv (p2 := 16) rfl hs237.1 (by decide) hs237.2.2.2.2.2.2.2.2.2.1 rfl ?_
  refine q_load (p2 := 17) rfl rfl rfl rfl ?_
  refine q_aldv (v := (6, 313, 0)) (p2 := 18) rfl (x_sc_312 hSc) (by omega) (by omega) rfl rfl ?_
  refine q_load (p2 := 19) rfl rfl rfl rfl ?_
  refine q_aldv (v := (0, 0, 0)) (p2 := 20) rfl (x_sc_313 hSc) (by omega) (by omega) rfl rfl ?_
  exact q_retv rfl rfl (⟨rfl, rfl, rfl, rfl, rfl⟩)
theorem e_kc_1_5 {d n sl : Nat} {φ : FH} (hSc : x_sch φ) : x_f x_P (d + 1) 174 [(6, 237, 0), (0, 1, 0), (0, 5, 0)] φ n sl (x_r φ n sl (0, 0, 0)) := by
  obtain ⟨fS, hs237⟩ := hSc.1
  refine x_f_of rfl ?_
  refine q_load (p2 := 1) rfl rfl rfl rfl ?_
  refine q_if0_s (p2 := 2) rfl (by decide) (by omega) rfl (fun hb => absurd hb (show ¬ (1 < 0) by omega)) (fun _ => ?_)
  refine q_load (p2 := 3) rfl rfl rfl rfl ?_
  refine q_load (p2 := 4) rfl rfl rfl rfl ?_
  refine q_getv (p2 := 5) rfl hs237.1 (by decide) hs237.2.2.2.2.2.2.2.2.2.1 rfl ?_
  refine q_alen (p2 := 6) rfl (x_sc_312 hSc) rfl (by omega) rfl ?_
  refine q_icmp_s (p2 := 7) rfl (by decide) (by omega) (by omega) rfl (fun hb => absurd hb (show ¬ (¬ (1 < 128)) by omega)) (fun _ => ?_)
  refine q_load (p2 := 8) rfl rfl rfl rfl ?_
  refine q_if0_s (p2 := 9) rfl (by decide) (by omega) rfl (fun hb => absurd hb (show ¬ (5 < 0) by omega)) (fun _ => ?_)
  refine q_load (p2 := 10) rfl rfl rfl rfl ?_
  refine q_const (p2 := 11) rfl rfl ?_
  refine q_icmp_s (p2 := 12) rfl (by decide) (by omega) (by omega) rfl (fun _ => ?_) (fun hb => absurd (show 5 < 9 by omega) hb)
  refine q_load (p2 := 15) rfl rfl rfl rfl ?_
  refine q_getv (p2 := 16) rfl hs237.1 (by decide) hs237.2.2.2.2.2.2.2.2.2.1 rfl ?_
  refine q_load (p2 := 17) rfl rfl rfl rfl ?_
  refine q_aldv (v := (6, 314, 0)) (p2 := 18) rfl (x_sc_312 hSc) (by omega) (by omega) rfl rfl ?_
  refine q_load (p2 := 19) rfl rfl rfl rfl ?_
  refine q_aldv (v := (0, 0, 0)) (p2 := 20) rfl (x_sc_314 hSc) (by omega) (by omega) rfl rfl ?_
  exact q_retv rfl rfl (⟨rfl, rfl, rfl, rfl, rfl⟩)
theorem e_kc_1_6 {d n sl : Nat} {φ : FH} (hSc : x_sch φ) : x_f x_P (d + 1) 174 [(6, 237, 0), (0, 1, 0), (0, 6, 0)] φ n sl (x_r φ n sl (0, 5, 0)) := by
  obtain ⟨fS, hs237⟩ := hSc.1
  refine x_f_of rfl ?_
  refine q_load (p2 := 1) rfl rfl rfl rfl ?_
  refine q_if0_s (p2 := 2) rfl (by decide) (by omega) rfl (fun hb => absurd hb (show ¬ (1 < 0) by omega)) (fun _ => ?_)
  refine q_load (p2 := 3) rfl rfl rfl rfl ?_
  refine q_load (p2 := 4) rfl rfl rfl rfl ?_
  refine q_getv (p2 := 5) rfl hs237.1 (by decide) hs237.2.2.2.2.2.2.2.2.2.1 rfl ?_
  refine q_alen (p2 := 6) rfl (x_sc_312 hSc) rfl (by omega) rfl ?_
  refine q_icmp_s (p2 := 7) rfl (by decide) (by omega) (by omega) rfl (fun hb => absurd hb (show ¬ (¬ (1 < 128)) by omega)) (fun _ => ?_)
  refine q_load (p2 := 8) rfl rfl rfl rfl ?_
  refine q_if0_s (p2 := 9) rfl (by decide) (by omega) rfl (fun hb => absurd hb (show ¬ (6 < 0) by omega)) (fun _ => ?_)
  refine q_load (p2 := 10) rfl rfl rfl rfl ?_
  refine q_const (p2 := 11) rfl rfl ?_
  refine q_icmp_s (p2 := 12) rfl (by decide) (by omega) (by omega) rfl (fun _ => ?_) (fun hb => absurd (show 6 < 9 by omega) hb)
  refine q_load (p2 := 15) rfl rfl rfl rfl ?_
  refine q_getv (p2 := 16) rfl hs237.1 (by decide) hs237.2.2.2.2.2.2.2.2.2.1 rfl ?_
  refine q_load (p2 := 17) rfl rfl rfl rfl ?_
  refine q_aldv (v := (6, 314, 0)) (p2 := 18) rfl (x_sc_312 hSc) (by omega) (by omega) rfl rfl ?_
  refine q_load (p2 := 19) rfl rfl rfl rfl ?_
  refine q_aldv (v := (0, 5, 0)) (p2 := 20) rfl (x_sc_314 hSc) (by omega) (by omega) rfl rfl ?_
  exact q_retv rfl rfl (⟨rfl, rfl, rfl, rfl, rfl⟩)
theorem e_kc_2_8 {d n sl : Nat} {φ : FH} (hSc : x_sch φ) : x_f x_P (d + 1) 174 [(6, 237, 0), (0, 2, 0), (0, 8, 0)] φ n sl (x_r φ n sl (0, 0, 0)) := by
  obtain ⟨fS, hs237⟩ := hSc.1
  refine x_f_of rfl ?_
  refine q_load (p2 := 1) rfl rfl rfl rfl ?_
  refine q_if0_s (p2 := 2) rfl (by decide) (by omega) rfl (fun hb => absurd hb (show ¬ (2 < 0) by omega)) (fun _ => ?_)
  refine q_load (p2 := 3) rfl rfl rfl rfl ?_
  refine q_load (p2 := 4) rfl rfl rfl rfl ?_
  refine q_getv (p2 := 5) rfl hs237.1 (by decide) hs237.2.2.2.2.2.2.2.2.2.1 rfl ?_
  refine q_alen (p2 := 6) rfl (x_sc_312 hSc) rfl (by omega) rfl ?_
  refine q_icmp_s (p2 := 7) rfl (by decide) (by omega) (by omega) rfl (fun hb => absurd hb (show ¬ (¬ (2 < 128)) by omega)) (fun _ => ?_)
  refine q_load (p2 := 8) rfl rfl rfl rfl ?_
  refine q_if0_s (p2 := 9) rfl (by decide) (by omega) rfl (fun hb => absurd hb (show ¬ (8 < 0) by omega)) (fun _ => ?_)
  refine q_load (p2 := 10) rfl rfl rfl rfl ?_
  refine q_const (p2 := 11) rfl rfl ?_
  refine q_icmp_s (p2 := 12) rfl (by decide) (by omega) (by omega) rfl (fun _ => ?_) (fun hb => absurd (show 8 < 9 by omega) hb)
  refine q_load (p2 := 15) rfl rfl rfl rfl ?_
  refine q_getv (p2 := 16) rfl hs237.1 (by decide) hs237.2.2.2.2.2.2.2.2.2.1 rfl ?_
  refine q_load (p2 := 17) rfl rfl rfl rfl ?_
  refine q_aldv (v := (6, 315, 0)) (p2 := 18) rfl (x_sc_312 hSc) (by omega) (by omega) rfl rfl ?_
  refine q_load (p2 := 19) rfl rfl rfl rfl ?_
  refine q_aldv (v := (0, 0, 0)) (p2 := 20) rfl (x_sc_315 hSc) (by omega) (by omega) rfl rfl ?_
  exact q_retv rfl rfl (⟨rfl, rfl, rfl, rfl, rfl⟩)
theorem e_kc_3_8 {d n sl : Nat} {φ : FH} (hSc : x_sch φ) : x_f x_P (d + 1) 174 [(6, 237, 0), (0, 3, 0), (0, 8, 0)] φ n sl (x_r φ n sl (0, 0, 0)) := by
  obtain ⟨fS, hs237⟩ := hSc.1
  refine x_f_of rfl ?_
  refine q_load (p2 := 1) rfl rfl rfl rfl ?_
  refine q_if0_s (p2 := 2) rfl (by decide) (by omega) rfl (fun hb => absurd hb (show ¬ (3 < 0) by omega)) (fun _ => ?_)
  refine q_load (p2 := 3) rfl rfl rfl rfl ?_
  refine q_load (p2 := 4) rfl rfl rfl rfl ?_
  refine q_getv (p2 := 5) rfl hs237.1 (by decide) hs237.2.2.2.2.2.2.2.2.2.1 rfl ?_
  refine q_alen (p2 := 6) rfl (x_sc_312 hSc) rfl (by omega) rfl ?_
  refine q_icmp_s (p2 := 7) rfl (by decide) (by omega) (by omega) rfl (fun hb => absurd hb (show ¬ (¬ (3 < 128)) by omega)) (fun _ => ?_)
  refine q_load (p2 := 8) rfl rfl rfl rfl ?_
  refine q_if0_s (p2 := 9) rfl (by decide) (by omega) rfl (fun hb => absurd hb (show ¬ (8 < 0) by omega)) (fun _ => ?_)
  refine q_load (p2 := 10) rfl rfl rfl rfl ?_
  refine q_const (p2 := 11) rfl rfl ?_
  refine q_icmp_s (p2 := 12) rfl (by decide) (by omega) (by omega) rfl (fun _ => ?_) (fun hb => absurd (show 8 < 9 by omega) hb)
  refine q_load (p2 := 15) rfl rfl rfl rfl ?_
  refine q_getv (p2 := 16) rfl hs237.1 (by decide) hs237.2.2.2.2.2.2.2.2.2.1 rfl ?_
  refine q_load (p2 := 17) rfl rfl rfl rfl ?_
  refine q_aldv (v := (6, 316, 0)) (p2 := 18) rfl (x_sc_312 hSc) (by omega) (by omega) rfl rfl ?_
  refine q_load (p2 := 19) rfl rfl rfl rfl ?_
  refine q_aldv (v := (0, 0, 0)) (p2 := 20) rfl (x_sc_316 hSc) (by omega) (by omega) rfl rfl ?_
  exact q_retv rfl rfl (⟨rfl, rfl, rfl, rfl, rfl⟩)
theorem e_kc_4_5 {d n sl : Nat} {φ : FH} (hSc : x_sch φ) : x_f x_P (d + 1) 174 [(6, 237, 0), (0, 4, 0), (0, 5, 0)] φ n sl (x_r φ n sl (0, 0, 0)) := by
  obtain ⟨fS, hs237⟩ := hSc.1
  refine x_f_of rfl ?_
  refine q_load (p2 := 1) rfl rfl rfl rfl ?_
  refine q_if0_s (p2 := 2) rfl (by decide) (by omega) rfl (fun hb => absurd hb (show ¬ (4 < 0) by omega)) (fun _ => ?_)
  refine q_load (p2 := 3) rfl rfl rfl rfl ?_
  refine q_load (p2 := 4) rfl rfl rfl rfl ?_
  refine q_getv (p2 := 5) rfl hs237.1 (by decide) hs237.2.2.2.2.2.2.2.2.2.1 rfl ?_
  refine q_alen (p2 := 6) rfl (x_sc_312 hSc) rfl (by omega) rfl ?_
  refine q_icmp_s (p2 := 7) rfl (by decide) (by omega) (by omega) rfl (fun hb => absurd hb (show ¬ (¬ (4 < 128)) by omega)) (fun _ => ?_)
  refine q_load (p2 := 8) rfl rfl rfl rfl ?_
  refine q_if0_s (p2 := 9) rfl (by decide) (by omega) rfl (fun hb => absurd hb (show ¬ (5 < 0) by omega)) (fun _ => ?_)
  refine q_load (p2 := 10) rfl rfl rfl rfl ?_
  refine q_const (p2 := 11) rfl rfl ?_
  refine q_icmp_s (p2 := 12) rfl (by decide) (by omega) (by omega) rfl (fun _ => ?_) (fun hb => absurd (show 5 < 9 by omega) hb)
  refine q_load (p2 := 15) rfl rfl rfl rfl ?_
  refine q_getv (p2 := 16) rfl hs237.1 (by decide) hs237.2.2.2.2.2.2.2.2.2.1 rfl ?_
  refine q_load (p2 := 17) rfl rfl rfl rfl ?_
  refine q_aldv (v := (6, 317, 0)) (p2 := 18) rfl (x_sc_312 hSc) (by omega) (by omega) rfl rfl ?_
  refine q_load (p2 := 19) rfl rfl rfl rfl ?_
  refine q_aldv (v := (0, 0, 0)) (p2 := 20) rfl (x_sc_317 hSc) (by omega) (by omega) rfl rfl ?_
  exact q_retv rfl rfl (⟨rfl, rfl, rfl, rfl, rfl⟩)
theorem e_kc_4_6 {d n sl : Nat} {φ : FH} (hSc : x_sch φ) : x_f x_P (d + 1) 174 [(6, 237, 0), (0, 4, 0), (0, 6, 0)] φ n sl (x_r φ n sl (0, 1, 0)) := by
  obtain ⟨fS, hs237⟩ := hSc.1
  refine x_f_of rfl ?_
  refine q_load (p2 := 1) rfl rfl rfl rfl ?_
  refine q_if0_s (p2 := 2) rfl (by decide) (by omega) rfl (fun hb => absurd hb (show ¬ (4 < 0) by omega)) (fun _ => ?_)
  refine q_load (p2 := 3) rfl rfl rfl rfl ?_
  refine q_load (p2 := 4) rfl rfl rfl rfl ?_
  refine q_getv (p2 := 5) rfl hs237.1 (by decide) hs237.2.2.2.2.2.2.2.2.2.1 rfl ?_
  refine q_alen (p2 := 6) rfl (x_sc_312 hSc) rfl (by omega) rfl ?_
  refine q_icmp_s (p2 := 7) rfl (by decide) (by omega) (by omega) rfl (fun hb => absurd hb (show ¬ (¬ (4 < 128)) by omega)) (fun _ => ?_)
  refine q_load (p2 := 8) rfl rfl rfl rfl ?_
  refine q_if0_s (p2 := 9) rfl (by decide) (by omega) rfl (fun hb => absurd hb (show ¬ (6 < 0) by omega)) (fun _ => ?_)
  refine q_load (p2 := 10) rfl rfl rfl rfl ?_
  refine q_const (p2 := 11) rfl rfl ?_
  refine q_icmp_s (p2 := 12) rfl (by decide) (by omega) (by omega) rfl (fun _ => ?_) (fun hb => absurd (show 6 < 9 by omega) hb)
  refine q_load (p2 := 15) rfl rfl rfl rfl ?_
  refine q_getv (p2 := 16) rfl hs237.1 (by decide) hs237.2.2.2.2.2.2.2.2.2.1 rfl ?_
  refine q_load (p2 := 17) rfl rfl rfl rfl ?_
  refine q_aldv (v := (6, 317, 0)) (p2 := 18) rfl (x_sc_312 hSc) (by omega) (by omega) rfl rfl ?_
  refine q_load (p2 := 19) rfl rfl rfl rfl ?_
  refine q_aldv (v := (0, 1, 0)) (p2 := 20) rfl (x_sc_317 hSc) (by omega) (by omega) rfl rfl ?_
  exact q_retv rfl rfl (⟨rfl, rfl, rfl, rfl, rfl⟩)
theorem e_kc_5_8 {d n sl : Nat} {φ : FH} (hSc : x_sch φ) : x_f x_P (d + 1) 174 [(6, 237, 0), (0, 5, 0), (0, 8, 0)] φ n sl (x_r φ n sl (0, 0, 0)) := by
  obtain ⟨fS, hs237⟩ := hSc.1
  refine x_f_of rfl ?_
  refine q_load (p2 := 1) rfl rfl rfl rfl ?_
  refine q_if0_s (p2 := 2) rfl (by decide) (by omega) rfl (fun hb => absurd hb (show ¬ (5 < 0) by omega)) (fun _ => ?_)
  refine q_load (p2 := 3) rfl rfl rfl rfl ?_
  refine q_load (p2 := 4) rfl rfl rfl rfl ?_
  refine q_getv (p2 := 5) rfl hs237.1 (by decide) hs237.2.2.2.2.2.2.2.2.2.1 rfl ?_
  refine q_alen (p2 := 6) rfl (x_sc_312 hSc) rfl (by omega) rfl ?_
  refine q_icmp_s (p2 := 7) rfl (by decide) (by omega) (by omega) rfl (fun hb => absurd hb (show ¬ (¬ (5 < 128)) by omega)) (fun _ => ?_)
  refine q_load (p2 := 8) rfl rfl rfl rfl ?_
  refine q_if0_s (p2 := 9) rfl (by decide) (by omega) rfl (fun hb => absurd hb (show ¬ (8 < 0) by omega)) (fun _ => ?_)
  refine q_load (p2 := 10) rfl rfl rfl rfl ?_
  refine q_const (p2 := 11) rfl rfl ?_
  refine q_icmp_s (p2 := 12) rfl (by decide) (by omega) (by omega) rfl (fun _ => ?_) (fun hb => absurd (show 8 < 9 by omega) hb)
  refine q_load (p2 := 15) rfl rfl rfl rfl ?_
  refine q_getv (p2 := 16) rfl hs237.1 (by decide) hs237.2.2.2.2.2.2.2.2.2.1 rfl ?_
  refine q_load (p2 := 17) rfl rfl rfl rfl ?_
  refine q_aldv (v := (6, 318, 0)) (p2 := 18) rfl (x_sc_312 hSc) (by omega) (by omega) rfl rfl ?_
  refine q_load (p2 := 19) rfl rfl rfl rfl ?_
  refine q_aldv (v := (0, 0, 0)) (p2 := 20) rfl (x_sc_318 hSc) (by omega) (by omega) rfl rfl ?_
  exact q_retv rfl rfl (⟨rfl, rfl, rfl, rfl, rfl⟩)
theorem e_kc_6_8 {d n sl : Nat} {φ : FH} (hSc : x_sch φ) : x_f x_P (d + 1) 174 [(6, 237, 0), (0, 6, 0), (0, 8, 0)] φ n sl (x_r φ n sl (0, 0, 0)) := by
  obtain ⟨fS, hs237⟩ := hSc.1
  refine x_f_of rfl ?_
  refine q_load (p2 := 1) rfl rfl rfl rfl ?_
  refine q_if0_s (p2 := 2) rfl (by decide) (by omega) rfl (fun hb => absurd hb (show ¬ (6 < 0) by omega)) (fun _ => ?_)
  refine q_load (p2 := 3) rfl rfl rfl rfl ?_
  refine q_load (p2 := 4) rfl rfl rfl rfl ?_
  refine q_getv (p2 := 5) rfl hs237.1 (by decide) hs237.2.2.2.2.2.2.2.2.2.1 rfl ?_
  refine q_alen (p2 := 6) rfl (x_sc_312 hSc) rfl (by omega) rfl ?_
  refine q_icmp_s (p2 := 7) rfl (by decide) (by omega) (by omega) rfl (fun hb => absurd hb (show ¬ (¬ (6 < 128)) by omega)) (fun _ => ?_)
  refine q_load (p2 := 8) rfl rfl rfl rfl ?_
  refine q_if0_s (p2 := 9) rfl (by decide) (by omega) rfl (fun hb => absurd hb (show ¬ (8 < 0) by omega)) (fun _ => ?_)
  refine q_load (p2 := 10) rfl rfl rfl rfl ?_
  refine q_const (p2 := 11) rfl rfl ?_
  refine q_icmp_s (p2 := 12) rfl (by decide) (by omega) (by omega) rfl (fun _ => ?_) (fun hb => absurd (show 8 < 9 by omega) hb)
  refine q_load (p2 := 15) rfl rfl rfl rfl ?_
  refine q_getv (p2 := 16) rfl hs237.1 (by decide) hs237.2.2.2.2.2.2.2.2.2.1 rfl ?_
  refine q_load (p2 := 17) rfl rfl rfl rfl ?_
  refine q_aldv (v := (6, 319, 0)) (p2 := 18) rfl (x_sc_312 hSc) (by omega) (by omega) rfl rfl ?_
  refine q_load (p2 := 19) rfl rfl rfl rfl ?_
  refine q_aldv (v := (0, 0, 0)) (p2 := 20) rfl (x_sc_319 hSc) (by omega) (by omega) rfl rfl ?_
  exact q_retv rfl rfl (⟨rfl, rfl, rfl, rfl, rfl⟩)
theorem e_cs_0 {d n sl : Nat} {φ : FH} {A B made sv svm st : Nat} {fP : Nat → XV} (hP : x_pop φ A B made sv svm st fP) {v kA ba s1 l1 la1 h1 : Nat} {c1 : XV} {fV : Nat → XV} (hV : φ v = some (0, 10, 7, fV)) (hg : x_vg fV kA ba s1 l1 la1 h1 c1) (hA : kA < 7) (ha : ba < 2147483648) (hSc : x_sch φ) : x_f x_P (d + 2) 113 [(6, 7, 0), (6, v, 0), (0, 0, 0)] φ n sl (x_r φ n sl (6, v, 0)) := by
  obtain ⟨fS, hs237⟩ := hSc.1
  refine x_f_of rfl ?_
  refine q_load (p2 := 1) rfl rfl rfl rfl ?_
  refine q_getv (p2 := 2) rfl hV (by decide) hg.1 rfl ?_
  refine q_const (p2 := 3) rfl rfl ?_
  refine q_icmp_s (p2 := 4) rfl (by decide) (by omega) (by omega) rfl (fun hb1 => ?_) (fun hb1 => ?_)
  · have hb1 : ¬ (kA = 1) := hb1
    refine q_load (p2 := 21) rfl rfl rfl rfl ?_
    exact q_retv rfl rfl (⟨rfl, rfl, rfl, rfl, rfl⟩)
  · have hb1 : ¬ (¬ (kA = 1)) := hb1
    refine q_load (p2 := 5) rfl rfl rfl rfl ?_
    refine q_getv (p2 := 6) rfl hP.1 (by decide) hP.2.1 rfl ?_
    refine q_load (p2 := 7) rfl rfl rfl rfl ?_
    refine q_const (p2 := 8) rfl rfl ?_
    refine q_callr (xs := [(0, 8, 0), (0, 0, 0), (6, 237, 0)]) (p2 := 9) rfl rfl rfl rfl (x_rcv_s 237 hs237.1) rfl (e_kc_0_8 hSc) (Nat.le_refl _) (Nat.le_refl _) rfl ?_
    refine q_const (p2 := 10) rfl rfl ?_
    refine q_icmp_s (p2 := 11) rfl (by decide) (by omega) (by omega) rfl (fun _ => ?_) (fun hb => absurd (show ¬ (0 = 1) by omega) hb)
    refine q_load (p2 := 21) rfl rfl rfl rfl ?_
    exact q_retv rfl rfl (⟨rfl, rfl, rfl, rfl, rfl⟩)
theorem e_conv_0 {d n sl : Nat} {φ : FH} {A B made sv svm st : Nat} {fP : Nat → XV} (hP : x_pop φ A B made sv svm st fP) {v kA ba s1 l1 la1 h1 : Nat} {c1 : XV} {fV : Nat → XV} (hV : φ v = some (0, 10, 7, fV)) (hg : x_vg fV kA ba s1 l1 la1 h1 c1) (hA : kA < 7) (ha : ba < 2147483648) (hSc : x_sch φ) : x_f x_P (d + 3) 57 [(6, 7, 0), (6, v, 0), (0, 0, 0), (11, 0, 0), (11, 0, 0), (11, 0, 0), (11, 0, 0), (11, 0, 0), (11, 0, 0)] φ n sl (x_r φ n sl (6, v, 0)) := by
  obtain ⟨fS, hs237⟩ := hSc.1
  refine x_f_of rfl ?_
  refine q_load (p2 := 1) rfl rfl rfl rfl ?_
  refine q_if0_s (p2 := 2) rfl (by decide) (by omega) rfl (fun hb => absurd hb (show ¬ (0 < 0) by omega)) (fun _ => ?_)
  refine q_load (p2 := 3) rfl rfl rfl rfl ?_
  refine q_load (p2 := 4) rfl rfl rfl rfl ?_
  refine q_getv (p2 := 5) rfl hP.1 (by decide) hP.2.1 rfl ?_
  refine q_getv (p2 := 6) rfl hs237.1 (by decide) hs237.2.2.2.2.2.2.2.2.2.1 rfl ?_
  refine q_alen (p2 := 7) rfl (x_sc_312 hSc) rfl (by omega) rfl ?_
  refine q_icmp_s (p2 := 8) rfl (by decide) (by omega) (by omega) rfl (fun _ => ?_) (fun hb => absurd (show 0 < 128 by omega) hb)
  refine q_load (p2 := 11) rfl rfl rfl rfl ?_
  refine q_getv (p2 := 12) rfl hP.1 (by decide) hP.2.1 rfl ?_
  refine q_getv (p2 := 13) rfl hs237.1 (by decide) hs237.2.2.2.2.2.2.2.2.2.1 rfl ?_
  refine q_load (p2 := 14) rfl rfl rfl rfl ?_
  refine q_aldv (v := (6, 313, 0)) (p2 := 15) rfl (x_sc_312 hSc) (by omega) (by omega) rfl rfl ?_
  refine q_const (p2 := 16) rfl rfl ?_
  refine q_aldv (v := (0, 4294967293, 0)) (p2 := 17) rfl (x_sc_313 hSc) (by omega) (by omega) rfl rfl ?_
  refine q_store (p2 := 18) rfl rfl rfl rfl rfl ?_
  refine q_load (p2 := 19) rfl rfl rfl rfl ?_
  refine q_if0 (p2 := 20) rfl (by decide) rfl (fun hb => absurd hb (show ¬ (¬ (2147483645 < 2147483648)) by decide)) (fun _ => ?_)
  refine q_load (p2 := 21) rfl rfl rfl rfl ?_
  refine q_load (p2 := 22) rfl rfl rfl rfl ?_
  refine q_load (p2 := 23) rfl rfl rfl rfl ?_
  refine q_callr (xs := [(0, 0, 0), (6, v, 0), (6, 7, 0)]) (p2 := 24) rfl rfl rfl rfl (x_rcv_s 7 hP.1) rfl (e_cs_0 hP hV hg hA ha hSc) (Nat.le_refl _) (Nat.le_refl _) rfl ?_
  exact q_retv rfl rfl (⟨rfl, rfl, rfl, rfl, rfl⟩)
theorem e_cs_2 {d n sl : Nat} {φ : FH} {A B made sv svm st : Nat} {fP : Nat → XV} (hP : x_pop φ A B made sv svm st fP) {v kA ba s1 l1 la1 h1 : Nat} {c1 : XV} {fV : Nat → XV} (hV : φ v = some (0, 10, 7, fV)) (hg : x_vg fV kA ba s1 l1 la1 h1 c1) (hA : kA < 7) (ha : ba < 2147483648) (hSc : x_sch φ) : x_f x_P (d + 2) 113 [(6, 7, 0), (6, v, 0), (0, 2, 0)] φ n sl (x_r φ n sl (6, v, 0)) := by
  obtain ⟨fS, hs237⟩ := hSc.1
  refine x_f_of rfl ?_
  refine q_load (p2 := 1) rfl rfl rfl rfl ?_
  refine q_getv (p2 := 2) rfl hV (by decide) hg.1 rfl ?_
  refine q_const (p2 := 3) rfl rfl ?_
  refine q_icmp_s (p2 := 4) rfl (by decide) (by omega) (by omega) rfl (fun hb1 => ?_) (fun hb1 => ?_)
  · have hb1 : ¬ (kA = 1) := hb1
    refine q_load (p2 := 21) rfl rfl rfl rfl ?_
    exact q_retv rfl rfl (⟨rfl, rfl, rfl, rfl, rfl⟩)
  · have hb1 : ¬ (¬ (kA = 1)) := hb1
    refine q_load (p2 := 5) rfl rfl rfl rfl ?_
    refine q_getv (p2 := 6) rfl hP.1 (by decide) hP.2.1 rfl ?_
    refine q_load (p2 := 7) rfl rfl rfl rfl ?_
    refine q_const (p2 := 8) rfl rfl ?_
    refine q_callr (xs := [(0, 8, 0), (0, 2, 0), (6, 237, 0)]) (p2 := 9) rfl rfl rfl rfl (x_rcv_s 237 hs237.1) rfl (e_kc_2_8 hSc) (Nat.le_refl _) (Nat.le_refl _) rfl ?_
    refine q_const (p2 := 10) rfl rfl ?_
    refine q_icmp_s (p2 := 11) rfl (by decide) (by omega) (by omega) rfl (fun _ => ?_) (fun hb => absurd (show ¬ (0 = 1) by omega) hb)
    refine q_load (p2 := 21) rfl rfl rfl rfl ?_
    exact q_retv rfl rfl (⟨rfl, rfl, rfl, rfl, rfl⟩)
theorem e_conv_2 {d n sl : Nat} {φ : FH} {A B made sv svm st : Nat} {fP : Nat → XV} (hP : x_pop φ A B made sv svm st fP) {v kA ba s1 l1 la1 h1 : Nat} {c1 : XV} {fV : Nat → XV} (hV : φ v = some (0, 10, 7, fV)) (hg : x_vg fV kA ba s1 l1 la1 h1 c1) (hA : kA < 7) (ha : ba < 2147483648) (hSc : x_sch φ) : x_f x_P (d + 3) 57 [(6, 7, 0), (6, v, 0), (0, 2, 0), (11, 0, 0), (11, 0, 0), (11, 0, 0), (11, 0, 0), (11, 0, 0), (11, 0, 0)] φ n sl (x_r φ n sl (6, v, 0)) := by
  obtain ⟨fS, hs237⟩ := hSc.1
  refine x_f_of rfl ?_
  refine q_load (p2 := 1) rfl rfl rfl rfl ?_
  refine q_if0_s (p2 := 2) rfl (by decide) (by omega) rfl (fun hb => absurd hb (show ¬ (2 < 0) by omega)) (fun _ => ?_)
  refine q_load (p2 := 3) rfl rfl rfl rfl ?_
  refine q_load (p2 := 4) rfl rfl rfl rfl ?_
  refine q_getv (p2 := 5) rfl hP.1 (by decide) hP.2.1 rfl ?_
  refine q_getv (p2 := 6) rfl hs237.1 (by decide) hs237.2.2.2.2.2.2.2.2.2.1 rfl ?_
  refine q_alen (p2 := 7) rfl (x_sc_312 hSc) rfl (by omega) rfl ?_
  refine q_icmp_s (p2 := 8) rfl (by decide) (by omega) (by omega) rfl (fun _ => ?_) (fun hb => absurd (show 2 < 128 by omega) hb)
  refine q_load (p2 := 11) rfl rfl rfl rfl ?_
  refine q_getv (p2 := 12) rfl hP.1 (by decide) hP.2.1 rfl ?_
  refine q_getv (p2 := 13) rfl hs237.1 (by decide) hs237.2.2.2.2.2.2.2.2.2.1 rfl ?_
  refine q_load (p2 := 14) rfl rfl rfl rfl ?_
  refine q_aldv (v := (6, 315, 0)) (p2 := 15) rfl (x_sc_312 hSc) (by omega) (by omega) rfl rfl ?_
  refine q_const (p2 := 16) rfl rfl ?_
  refine q_aldv (v := (0, 4294967293, 0)) (p2 := 17) rfl (x_sc_315 hSc) (by omega) (by omega) rfl rfl ?_
  refine q_store (p2 := 18) rfl rfl rfl rfl rfl ?_
  refine q_load (p2 := 19) rfl rfl rfl rfl ?_
  refine q_if0 (p2 := 20) rfl (by decide) rfl (fun hb => absurd hb (show ¬ (¬ (2147483645 < 2147483648)) by decide)) (fun _ => ?_)
  refine q_load (p2 := 21) rfl rfl rfl rfl ?_
  refine q_load (p2 := 22) rfl rfl rfl rfl ?_
  refine q_load (p2 := 23) rfl rfl rfl rfl ?_
  refine q_callr (xs := [(0, 2, 0), (6, v, 0), (6, 7, 0)]) (p2 := 24) rfl rfl rfl rfl (x_rcv_s 7 hP.1) rfl (e_cs_2 hP hV hg hA ha hSc) (Nat.le_refl _) (Nat.le_refl _) rfl ?_
  exact q_retv rfl rfl (⟨rfl, rfl, rfl, rfl, rfl⟩)
theorem e_cs_3 {d n sl : Nat} {φ : FH} {A B made sv svm st : Nat} {fP : Nat → XV} (hP : x_pop φ A B made sv svm st fP) {v kA ba s1 l1 la1 h1 : Nat} {c1 : XV} {fV : Nat → XV} (hV : φ v = some (0, 10, 7, fV)) (hg : x_vg fV kA ba s1 l1 la1 h1 c1) (hA : kA < 7) (ha : ba < 2147483648) (hSc : x_sch φ) : x_f x_P (d + 2) 113 [(6, 7, 0), (6, v, 0), (0, 3, 0)] φ n sl (x_r φ n sl (6, v, 0)) := by
  obtain ⟨fS, hs237⟩ := hSc.1
  refine x_f_of rfl ?_
  refine q_load (p2 := 1) rfl rfl rfl rfl ?_
  refine q_getv (p2 := 2) rfl hV (by decide) hg.1 rfl ?_
  refine q_const (p2 := 3) rfl rfl ?_
  refine q_icmp_s (p2 := 4) rfl (by decide) (by omega) (by omega) rfl (fun hb1 => ?_) (fun hb1 => ?_)
  · have hb1 : ¬ (kA = 1) := hb1
    refine q_load (p2 := 21) rfl rfl rfl rfl ?_
    exact q_retv rfl rfl (⟨rfl, rfl, rfl, rfl, rfl⟩)
  · have hb1 : ¬ (¬ (kA = 1)) := hb1
    refine q_load (p2 := 5) rfl rfl rfl rfl ?_
    refine q_getv (p2 := 6) rfl hP.1 (by decide) hP.2.1 rfl ?_
    refine q_load (p2 := 7) rfl rfl rfl rfl ?_
    refine q_const (p2 := 8) rfl rfl ?_
    refine q_callr (xs := [(0, 8, 0), (0, 3, 0), (6, 237, 0)]) (p2 := 9) rfl rfl rfl rfl (x_rcv_s 237 hs237.1) rfl (e_kc_3_8 hSc) (Nat.le_refl _) (Nat.le_refl _) rfl ?_
    refine q_const (p2 := 10) rfl rfl ?_
    refine q_icmp_s (p2 := 11) rfl (by decide) (by omega) (by omega) rfl (fun _ => ?_) (fun hb => absurd (show ¬ (0 = 1) by omega) hb)
    refine q_load (p2 := 21) rfl rfl rfl rfl ?_
    exact q_retv rfl rfl (⟨rfl, rfl, rfl, rfl, rfl⟩)
theorem e_conv_3 {d n sl : Nat} {φ : FH} {A B made sv svm st : Nat} {fP : Nat → XV} (hP : x_pop φ A B made sv svm st fP) {v kA ba s1 l1 la1 h1 : Nat} {c1 : XV} {fV : Nat → XV} (hV : φ v = some (0, 10, 7, fV)) (hg : x_vg fV kA ba s1 l1 la1 h1 c1) (hA : kA < 7) (ha : ba < 2147483648) (hSc : x_sch φ) : x_f x_P (d + 3) 57 [(6, 7, 0), (6, v, 0), (0, 3, 0), (11, 0, 0), (11, 0, 0), (11, 0, 0), (11, 0, 0), (11, 0, 0), (11, 0, 0)] φ n sl (x_r φ n sl (6, v, 0)) := by
  obtain ⟨fS, hs237⟩ := hSc.1
  refine x_f_of rfl ?_
  refine q_load (p2 := 1) rfl rfl rfl rfl ?_
  refine q_if0_s (p2 := 2) rfl (by decide) (by omega) rfl (fun hb => absurd hb (show ¬ (3 < 0) by omega)) (fun _ => ?_)
  refine q_load (p2 := 3) rfl rfl rfl rfl ?_
  refine q_load (p2 := 4) rfl rfl rfl rfl ?_
  refine q_getv (p2 := 5) rfl hP.1 (by decide) hP.2.1 rfl ?_
  refine q_getv (p2 := 6) rfl hs237.1 (by decide) hs237.2.2.2.2.2.2.2.2.2.1 rfl ?_
  refine q_alen (p2 := 7) rfl (x_sc_312 hSc) rfl (by omega) rfl ?_
  refine q_icmp_s (p2 := 8) rfl (by decide) (by omega) (by omega) rfl (fun _ => ?_) (fun hb => absurd (show 3 < 128 by omega) hb)
  refine q_load (p2 := 11) rfl rfl rfl rfl ?_
  refine q_getv (p2 := 12) rfl hP.1 (by decide) hP.2.1 rfl ?_
  refine q_getv (p2 := 13) rfl hs237.1 (by decide) hs237.2.2.2.2.2.2.2.2.2.1 rfl ?_
  refine q_load (p2 := 14) rfl rfl rfl rfl ?_
  refine q_aldv (v := (6, 316, 0)) (p2 := 15) rfl (x_sc_312 hSc) (by omega) (by omega) rfl rfl ?_
  refine q_const (p2 := 16) rfl rfl ?_
  refine q_aldv (v := (0, 4294967293, 0)) (p2 := 17) rfl (x_sc_316 hSc) (by omega) (by omega) rfl rfl ?_
  refine q_store (p2 := 18) rfl rfl rfl rfl rfl ?_
  refine q_load (p2 := 19) rfl rfl rfl rfl ?_
  refine q_if0 (p2 := 20) rfl (by decide) rfl (fun hb => absurd hb (show ¬ (¬ (2147483645 < 2147483648)) by decide)) (fun _ => ?_)
  refine q_load (p2 := 21) rfl rfl rfl rfl ?_
  refine q_load (p2 := 22) rfl rfl rfl rfl ?_
  refine q_load (p2 := 23) rfl rfl rfl rfl ?_
  refine q_callr (xs := [(0, 3, 0), (6, v, 0), (6, 7, 0)]) (p2 := 24) rfl rfl rfl rfl (x_rcv_s 7 hP.1) rfl (e_cs_3 hP hV hg hA ha hSc) (Nat.le_refl _) (Nat.le_refl _) rfl ?_
  exact q_retv rfl rfl (⟨rfl, rfl, rfl, rfl, rfl⟩)
theorem e_cs_5 {d n sl : Nat} {φ : FH} {A B made sv svm st : Nat} {fP : Nat → XV} (hP : x_pop φ A B made sv svm st fP) {v kA ba s1 l1 la1 h1 : Nat} {c1 : XV} {fV : Nat → XV} (hV : φ v = some (0, 10, 7, fV)) (hg : x_vg fV kA ba s1 l1 la1 h1 c1) (hA : kA < 7) (ha : ba < 2147483648) (hSc : x_sch φ) : x_f x_P (d + 2) 113 [(6, 7, 0), (6, v, 0), (0, 5, 0)] φ n sl (x_r φ n sl (6, v, 0)) := by
  obtain ⟨fS, hs237⟩ := hSc.1
  refine x_f_of rfl ?_
  refine q_load (p2 := 1) rfl rfl rfl rfl ?_
  refine q_getv (p2 := 2) rfl hV (by decide) hg.1 rfl ?_
  refine q_const (p2 := 3) rfl rfl ?_
  refine q_icmp_s (p2 := 4) rfl (by decide) (by omega) (by omega) rfl (fun hb1 => ?_) (fun hb1 => ?_)
  · have hb1 : ¬ (kA = 1) := hb1
    refine q_load (p2 := 21) rfl rfl rfl rfl ?_
    exact q_retv rfl rfl (⟨rfl, rfl, rfl, rfl, rfl⟩)
  · have hb1 : ¬ (¬ (kA = 1)) := hb1
    refine q_load (p2 := 5) rfl rfl rfl rfl ?_
    refine q_getv (p2 := 6) rfl hP.1 (by decide) hP.2.1 rfl ?_
    refine q_load (p2 := 7) rfl rfl rfl rfl ?_
    refine q_const (p2 := 8) rfl rfl ?_
    refine q_callr (xs := [(0, 8, 0), (0, 5, 0), (6, 237, 0)]) (p2 := 9) rfl rfl rfl rfl (x_rcv_s 237 hs237.1) rfl (e_kc_5_8 hSc) (Nat.le_refl _) (Nat.le_refl _) rfl ?_
    refine q_const (p2 := 10) rfl rfl ?_
    refine q_icmp_s (p2 := 11) rfl (by decide) (by omega) (by omega) rfl (fun _ => ?_) (fun hb => absurd (show ¬ (0 = 1) by omega) hb)
    refine q_load (p2 := 21) rfl rfl rfl rfl ?_
    exact q_retv rfl rfl (⟨rfl, rfl, rfl, rfl, rfl⟩)
theorem e_conv_5 {d n sl : Nat} {φ : FH} {A B made sv svm st : Nat} {fP : Nat → XV} (hP : x_pop φ A B made sv svm st fP) {v kA ba s1 l1 la1 h1 : Nat} {c1 : XV} {fV : Nat → XV} (hV : φ v = some (0, 10, 7, fV)) (hg : x_vg fV kA ba s1 l1 la1 h1 c1) (hA : kA < 7) (ha : ba < 2147483648) (hSc : x_sch φ) : x_f x_P (d + 3) 57 [(6, 7, 0), (6, v, 0), (0, 5, 0), (11, 0, 0), (11, 0, 0), (11, 0, 0), (11, 0, 0), (11, 0, 0), (11, 0, 0)] φ n sl (x_r φ n sl (6, v, 0)) := by
  obtain ⟨fS, hs237⟩ := hSc.1
  refine x_f_of rfl ?_
  refine q_load (p2 := 1) rfl rfl rfl rfl ?_
  refine q_if0_s (p2 := 2) rfl (by decide) (by omega) rfl (fun hb => absurd hb (show ¬ (5 < 0) by omega)) (fun _ => ?_)
  refine q_load (p2 := 3) rfl rfl rfl rfl ?_
  refine q_load (p2 := 4) rfl rfl rfl rfl ?_
  refine q_getv (p2 := 5) rfl hP.1 (by decide) hP.2.1 rfl ?_
  refine q_getv (p2 := 6) rfl hs237.1 (by decide) hs237.2.2.2.2.2.2.2.2.2.1 rfl ?_
  refine q_alen (p2 := 7) rfl (x_sc_312 hSc) rfl (by omega) rfl ?_
  refine q_icmp_s (p2 := 8) rfl (by decide) (by omega) (by omega) rfl (fun _ => ?_) (fun hb => absurd (show 5 < 128 by omega) hb)
  refine q_load (p2 := 11) rfl rfl rfl rfl ?_
  refine q_getv (p2 := 12) rfl hP.1 (by decide) hP.2.1 rfl ?_
  refine q_getv (p2 := 13) rfl hs237.1 (by decide) hs237.2.2.2.2.2.2.2.2.2.1 rfl ?_
  refine q_load (p2 := 14) rfl rfl rfl rfl ?_
  refine q_aldv (v := (6, 318, 0)) (p2 := 15) rfl (x_sc_312 hSc) (by omega) (by omega) rfl rfl ?_
  refine q_const (p2 := 16) rfl rfl ?_
  refine q_aldv (v := (0, 4294967293, 0)) (p2 := 17) rfl (x_sc_318 hSc) (by omega) (by omega) rfl rfl ?_
  refine q_store (p2 := 18) rfl rfl rfl rfl rfl ?_
  refine q_load (p2 := 19) rfl rfl rfl rfl ?_
  refine q_if0 (p2 := 20) rfl (by decide) rfl (fun hb => absurd hb (show ¬ (¬ (2147483645 < 2147483648)) by decide)) (fun _ => ?_)
  refine q_load (p2 := 21) rfl rfl rfl rfl ?_
  refine q_load (p2 := 22) rfl rfl rfl rfl ?_
  refine q_load (p2 := 23) rfl rfl rfl rfl ?_
  refine q_callr (xs := [(0, 5, 0), (6, v, 0), (6, 7, 0)]) (p2 := 24) rfl rfl rfl rfl (x_rcv_s 7 hP.1) rfl (e_cs_5 hP hV hg hA ha hSc) (Nat.le_refl _) (Nat.le_refl _) rfl ?_
  exact q_retv rfl rfl (⟨rfl, rfl, rfl, rfl, rfl⟩)
theorem e_cs_6 {d n sl : Nat} {φ : FH} {A B made sv svm st : Nat} {fP : Nat → XV} (hP : x_pop φ A B made sv svm st fP) {v kA ba s1 l1 la1 h1 : Nat} {c1 : XV} {fV : Nat → XV} (hV : φ v = some (0, 10, 7, fV)) (hg : x_vg fV kA ba s1 l1 la1 h1 c1) (hA : kA < 7) (ha : ba < 2147483648) (hSc : x_sch φ) : x_f x_P (d + 2) 113 [(6, 7, 0), (6, v, 0), (0, 6, 0)] φ n sl (x_r φ n sl (6, v, 0)) := by
  obtain ⟨fS, hs237⟩ := hSc.1
  refine x_f_of rfl ?_
  refine q_load (p2 := 1) rfl rfl rfl rfl ?_
  refine q_getv (p2 := 2) rfl hV (by decide) hg.1 rfl ?_
  refine q_const (p2 := 3) rfl rfl ?_
  refine q_icmp_s (p2 := 4) rfl (by decide) (by omega) (by omega) rfl (fun hb1 => ?_) (fun hb1 => ?_)
  · have hb1 : ¬ (kA = 1) := hb1
    refine q_load (p2 := 21) rfl rfl rfl rfl ?_
    exact q_retv rfl rfl (⟨rfl, rfl, rfl, rfl, rfl⟩)
  · have hb1 : ¬ (¬ (kA = 1)) := hb1
    refine q_load (p2 := 5) rfl rfl rfl rfl ?_
    refine q_getv (p2 := 6) rfl hP.1 (by decide) hP.2.1 rfl ?_
    refine q_load (p2 := 7) rfl rfl rfl rfl ?_
    refine q_const (p2 := 8) rfl rfl ?_
    refine q_callr (xs := [(0, 8, 0), (0, 6, 0), (6, 237, 0)]) (p2 := 9) rfl rfl rfl rfl (x_rcv_s 237 hs237.1) rfl (e_kc_6_8 hSc) (Nat.le_refl _) (Nat.le_refl _) rfl ?_
    refine q_const (p2 := 10) rfl rfl ?_
    refine q_icmp_s (p2 := 11) rfl (by decide) (by omega) (by omega) rfl (fun _ => ?_) (fun hb => absurd (show ¬ (0 = 1) by omega) hb)
    refine q_load (p2 := 21) rfl rfl rfl rfl ?_
    exact q_retv rfl rfl (⟨rfl, rfl, rfl, rfl, rfl⟩)
theorem e_conv_6 {d n sl : Nat} {φ : FH} {A B made sv svm st : Nat} {fP : Nat → XV} (hP : x_pop φ A B made sv svm st fP) {v kA ba s1 l1 la1 h1 : Nat} {c1 : XV} {fV : Nat → XV} (hV : φ v = some (0, 10, 7, fV)) (hg : x_vg fV kA ba s1 l1 la1 h1 c1) (hA : kA < 7) (ha : ba < 2147483648) (hSc : x_sch φ) : x_f x_P (d + 3) 57 [(6, 7, 0), (6, v, 0), (0, 6, 0), (11, 0, 0), (11, 0, 0), (11, 0, 0), (11, 0, 0), (11, 0, 0), (11, 0, 0)] φ n sl (x_r φ n sl (6, v, 0)) := by
  obtain ⟨fS, hs237⟩ := hSc.1
  refine x_f_of rfl ?_
  refine q_load (p2 := 1) rfl rfl rfl rfl ?_
  refine q_if0_s (p2 := 2) rfl (by decide) (by omega) rfl (fun hb => absurd hb (show ¬ (6 < 0) by omega)) (fun _ => ?_)
  refine q_load (p2 := 3) rfl rfl rfl rfl ?_
  refine q_load (p2 := 4) rfl rfl rfl rfl ?_
  refine q_getv (p2 := 5) rfl hP.1 (by decide) hP.2.1 rfl ?_
  refine q_getv (p2 := 6) rfl hs237.1 (by decide) hs237.2.2.2.2.2.2.2.2.2.1 rfl ?_
  refine q_alen (p2 := 7) rfl (x_sc_312 hSc) rfl (by omega) rfl ?_
  refine q_icmp_s (p2 := 8) rfl (by decide) (by omega) (by omega) rfl (fun _ => ?_) (fun hb => absurd (show 6 < 128 by omega) hb)
  refine q_load (p2 := 11) rfl rfl rfl rfl ?_
  refine q_getv (p2 := 12) rfl hP.1 (by decide) hP.2.1 rfl ?_
  refine q_getv (p2 := 13) rfl hs237.1 (by decide) hs237.2.2.2.2.2.2.2.2.2.1 rfl ?_
  refine q_load (p2 := 14) rfl rfl rfl rfl ?_
  refine q_aldv (v := (6, 319, 0)) (p2 := 15) rfl (x_sc_312 hSc) (by omega) (by omega) rfl rfl ?_
  refine q_const (p2 := 16) rfl rfl ?_
  refine q_aldv (v := (0, 4294967293, 0)) (p2 := 17) rfl (x_sc_319 hSc) (by omega) (by omega) rfl rfl ?_
  refine q_store (p2 := 18) rfl rfl rfl rfl rfl ?_
  refine q_load (p2 := 19) rfl rfl rfl rfl ?_
  refine q_if0 (p2 := 20) rfl (by decide) rfl (fun hb => absurd hb (show ¬ (¬ (2147483645 < 2147483648)) by decide)) (fun _ => ?_)
  refine q_load (p2 := 21) rfl rfl rfl rfl ?_
  refine q_load (p2 := 22) rfl rfl rfl rfl ?_
  refine q_load (p2 := 23) rfl rfl rfl rfl ?_
  refine q_callr (xs := [(0, 6, 0), (6, v, 0), (6, 7, 0)]) (p2 := 24) rfl rfl rfl rfl (x_rcv_s 7 hP.1) rfl (e_cs_6 hP hV hg hA ha hSc) (Nat.le_refl _) (Nat.le_refl _) rfl ?_
  exact q_retv rfl rfl (⟨rfl, rfl, rfl, rfl, rfl⟩)
theorem e_conv_1s {d n sl : Nat} {φ : FH} {A B made sv svm st : Nat} {fP : Nat → XV} (hP : x_pop φ A B made sv svm st fP) {v kA ba s1 l1 la1 h1 : Nat} {c1 : XV} {fV : Nat → XV} (hV : φ v = some (0, 10, 7, fV)) (hg : x_vg fV kA ba s1 l1 la1 h1 c1) (hA : kA < 7) (ha : ba < 2147483648) (hSc : x_sch φ) (h6 : kA ≠ 6) : x_f x_P (d + 3) 57 [(6, 7, 0), (6, v, 0), (0, 1, 0), (11, 0, 0), (11, 0, 0), (11, 0, 0), (11, 0, 0), (11, 0, 0), (11, 0, 0)] φ n sl (x_r φ n sl (6, v, 0)) := by
  obtain ⟨fS, hs237⟩ := hSc.1
  refine x_f_of rfl ?_
  refine q_load (p2 := 1) rfl rfl rfl rfl ?_
  refine q_if0_s (p2 := 2) rfl (by decide) (by omega) rfl (fun hb => absurd hb (show ¬ (1 < 0) by omega)) (fun _ => ?_)
  refine q_load (p2 := 3) rfl rfl rfl rfl ?_
  refine q_load (p2 := 4) rfl rfl rfl rfl ?_
  refine q_getv (p2 := 5) rfl hP.1 (by decide) hP.2.1 rfl ?_
  refine q_getv (p2 := 6) rfl hs237.1 (by decide) hs237.2.2.2.2.2.2.2.2.2.1 rfl ?_
  refine q_alen (p2 := 7) rfl (x_sc_312 hSc) rfl (by omega) rfl ?_
  refine q_icmp_s (p2 := 8) rfl (by decide) (by omega) (by omega) rfl (fun _ => ?_) (fun hb => absurd (show 1 < 128 by omega) hb)
  refine q_load (p2 := 11) rfl rfl rfl rfl ?_
  refine q_getv (p2 := 12) rfl hP.1 (by decide) hP.2.1 rfl ?_
  refine q_getv (p2 := 13) rfl hs237.1 (by decide) hs237.2.2.2.2.2.2.2.2.2.1 rfl ?_
  refine q_load (p2 := 14) rfl rfl rfl rfl ?_
  refine q_aldv (v := (6, 314, 0)) (p2 := 15) rfl (x_sc_312 hSc) (by omega) (by omega) rfl rfl ?_
  refine q_const (p2 := 16) rfl rfl ?_
  refine q_aldv (v := (0, 3, 0)) (p2 := 17) rfl (x_sc_314 hSc) (by omega) (by omega) rfl rfl ?_
  refine q_store (p2 := 18) rfl rfl rfl rfl rfl ?_
  refine q_load (p2 := 19) rfl rfl rfl rfl ?_
  refine q_if0_s (p2 := 20) rfl (by decide) (by omega) rfl (fun _ => ?_) (fun hb => absurd (show ¬ (3 < 0) by omega) hb)
  refine q_load (p2 := 26) rfl rfl rfl rfl ?_
  refine q_getv (p2 := 27) rfl hV (by decide) hg.1 rfl ?_
  refine q_const (p2 := 28) rfl rfl ?_
  refine q_icmp_s (p2 := 29) rfl (by decide) (by omega) (by omega) rfl (fun _ => ?_) (fun hb => absurd (show ¬ (kA = 6) by omega) hb)
  refine q_load (p2 := 37) rfl rfl rfl rfl ?_
  exact q_retv rfl rfl (⟨rfl, rfl, rfl, rfl, rfl⟩)
theorem e_acc_int {d n sl : Nat} {φ : FH} {A B made sv svm st : Nat} {fP : Nat → XV} (hP : x_pop φ A B made sv svm st fP) {b : Nat} : x_f x_P (d + 1) 116 [(6, 7, 0), (0, 1, 0), (0, 1, 0), (2, b, 0), (11, 0, 0)] φ n sl (x_r φ n sl (0, 1, 0)) := by
  refine x_f_of rfl ?_
  refine q_load (p2 := 1) rfl rfl rfl rfl ?_
  refine q_switch (tgt := 4) rfl (by decide) rfl ?_
  refine q_load (p2 := 5) rfl rfl rfl rfl ?_
  refine q_load (p2 := 6) rfl rfl rfl rfl ?_
  refine q_const (p2 := 7) rfl rfl ?_
  refine q_iop (w := 1 + (4294967296 - 1 % 4294967296)) (z := 0) (p2 := 8) rfl (xo_sub 1 1) (by decide) rfl ?_
  refine q_iop (w := 1 >>> (0 % 32)) (z := 1) (p2 := 9) rfl (xo_shr (show 1 < 2147483648 by decide) 0) (by decide) rfl ?_
  refine q_const (p2 := 10) rfl rfl ?_
  refine q_iop (w := 1 &&& 1) (z := 1) (p2 := 11) rfl (xo_and 1 1) (by decide) rfl ?_
  refine q_const (p2 := 12) rfl rfl ?_
  refine q_icmp_s (p2 := 13) rfl (by decide) (by omega) (by omega) rfl (fun hb => absurd hb (show ¬ (¬ (1 = 1)) by omega)) (fun _ => ?_)
  refine q_const (p2 := 14) rfl rfl ?_
  refine q_goto rfl ?_
  exact q_retv rfl rfl (⟨rfl, rfl, rfl, rfl, rfl⟩)
theorem e_acc_inst {d n sl : Nat} {φ : FH} {A B made sv svm st : Nat} {fP : Nat → XV} (hP : x_pop φ A B made sv svm st fP) {comb : Nat → Nat} (hC : x_comb φ 226 comb) {b : Nat} (hb : b < 512) : x_f x_P (d + 1) 116 [(6, 7, 0), (0, 2048, 0), (0, 5, 0), (2, b, 0), (11, 0, 0)] φ n sl (x_r φ n sl (0, if 1 &&& comb b ≠ 0 then 1 else 0, 0)) := by
  have h1c : 1 &&& comb b ≤ 1 := Nat.and_le_left
  refine x_f_of rfl ?_
  refine q_load (p2 := 1) rfl rfl rfl rfl ?_
  refine q_switch (tgt := 47) rfl (by decide) rfl ?_
  refine q_load (p2 := 48) rfl rfl rfl rfl ?_
  refine q_const (p2 := 49) rfl rfl ?_
  refine q_lcif (p2 := 51) rfl rfl (by decide) (by first | omega | (have := hC.2 b; omega)) (by first | omega | (have := hC.2 b; omega)) rfl (fun hb1 => ?_) (fun hb1 => ?_)
  · have hb1 : b < 0 := hb1
    refine q_const (p2 := 71) rfl rfl ?_
    exact q_retv rfl rfl (⟨rfl, by rw [if_neg (by omega)], rfl, rfl, rfl⟩)
  · have hb1 : ¬ (b < 0) := hb1
    refine q_load (p2 := 52) rfl rfl rfl rfl ?_
    refine q_load (p2 := 53) rfl rfl rfl rfl ?_
    refine q_getv (p2 := 54) rfl hP.1 (by decide) hP.2.2.2.2.1 rfl ?_
    refine q_alen (p2 := 55) rfl hC.1 rfl (by first | omega | (have := hC.2 b; omega)) rfl ?_
    refine q_i2l (p2 := 56) rfl (by first | omega | (have := hC.2 b; omega)) rfl ?_
    refine q_lcif (p2 := 58) rfl rfl (by decide) (by first | omega | (have := hC.2 b; omega)) (by first | omega | (have := hC.2 b; omega)) rfl (fun hb2 => ?_) (fun hb2 => ?_)
    · have hb2 : ¬ (b < 512) := hb2
      refine q_const (p2 := 71) rfl rfl ?_
      exact q_retv rfl rfl (⟨rfl, by rw [if_neg (by omega)], rfl, rfl, rfl⟩)
    · have hb2 : ¬ (¬ (b < 512)) := hb2
      refine q_load (p2 := 59) rfl rfl rfl rfl ?_
      refine q_const (p2 := 60) rfl rfl ?_
      refine q_iop (w := 2048 >>> (11 % 32)) (z := 1) (p2 := 61) rfl (xo_shr (show 2048 < 2147483648 by decide) 11) (by decide) rfl ?_
      refine q_load (p2 := 62) rfl rfl rfl rfl ?_
      refine q_getv (p2 := 63) rfl hP.1 (by decide) hP.2.2.2.2.1 rfl ?_
      refine q_load (p2 := 64) rfl rfl rfl rfl ?_
      refine q_l2i (z := b) (p2 := 65) rfl (Nat.mod_eq_of_lt (by first | omega | (have := hC.2 b; omega))) rfl ?_
      refine q_aldv (v := (0, comb b, 0)) (p2 := 66) rfl hC.1 (by first | omega | (have := hC.2 b; omega)) (by first | omega | (have := hC.2 b; omega)) rfl rfl ?_
      refine q_iand (p2 := 67) rfl (by first | omega | (have := hC.2 b; omega)) rfl ?_
      refine q_if0_s (p2 := 68) rfl (by decide) (by first | omega | (have := hC.2 b; omega)) rfl (fun hb3 => ?_) (fun hb3 => ?_)
      · have hb3 : (1 &&& (comb b)) = 0 := hb3
        refine q_const (p2 := 71) rfl rfl ?_
        exact q_retv rfl rfl (⟨rfl, by rw [if_neg (by omega)], rfl, rfl, rfl⟩)
      · have hb3 : ¬ ((1 &&& (comb b)) = 0) := hb3
        refine q_const (p2 := 69) rfl rfl ?_
        refine q_goto rfl ?_
        exact q_retv rfl rfl (⟨rfl, by rw [if_pos (by omega)], rfl, rfl, rfl⟩)
theorem e_fits_0 {d n sl : Nat} {φ : FH} {A B made sv svm st : Nat} {fP : Nat → XV} (hP : x_pop φ A B made sv svm st fP) {v kA ba s1 l1 la1 h1 : Nat} {c1 : XV} {fV : Nat → XV} (hV : φ v = some (0, 10, 7, fV)) (hg : x_vg fV kA ba s1 l1 la1 h1 c1) (hA : kA < 7) (ha : ba < 2147483648) (hSc : x_sch φ) (h01 : kA ≤ 1) : x_f x_P (d + 2) 58 [(6, 7, 0), (6, v, 0), (0, 0, 0), (11, 0, 0), (11, 0, 0), (11, 0, 0), (11, 0, 0), (11, 0, 0), (11, 0, 0), (11, 0, 0)] φ n sl (x_r φ n sl (0, 1, 0)) := by
  obtain ⟨fS, hs237⟩ := hSc.1
  refine x_f_of rfl ?_
  refine q_load (p2 := 1) rfl rfl rfl rfl ?_
  refine q_getv (p2 := 2) rfl hV (by decide) hg.1 rfl ?_
  refine q_if0_s (p2 := 3) rfl (by decide) (by omega) rfl (fun hb1 => ?_) (fun hb1 => ?_)
  · have hb1 : kA = 0 := hb1
    refine q_load (p2 := 12) rfl rfl rfl rfl ?_
    refine q_getv (p2 := 13) rfl hV (by decide) hg.1 rfl ?_
    refine q_if0_s (p2 := 14) rfl (by decide) (by omega) rfl (fun hb2 => ?_) (fun hb2 => ?_)
    · have hb2 : ¬ (kA = 0) := hb2
      refine q_const (p2 := 17) rfl rfl ?_
      exact q_retv rfl rfl (by exfalso; omega)
    · have hb2 : ¬ (¬ (kA = 0)) := hb2
      refine q_const (p2 := 15) rfl rfl ?_
      refine q_goto rfl ?_
      exact q_retv rfl rfl (⟨rfl, rfl, rfl, rfl, rfl⟩)
  · have hb1 : ¬ (kA = 0) := hb1
    refine q_load (p2 := 4) rfl rfl rfl rfl ?_
    refine q_if0_s (p2 := 5) rfl (by decide) (by omega) rfl (fun hb => absurd hb (show ¬ (0 < 0) by omega)) (fun _ => ?_)
    refine q_load (p2 := 6) rfl rfl rfl rfl ?_
    refine q_load (p2 := 7) rfl rfl rfl rfl ?_
    refine q_getv (p2 := 8) rfl hP.1 (by decide) hP.2.1 rfl ?_
    refine q_getv (p2 := 9) rfl hs237.1 (by decide) hs237.2.2.2.2.2.2.2.2.2.1 rfl ?_
    refine q_alen (p2 := 10) rfl (x_sc_312 hSc) rfl (by omega) rfl ?_
    refine q_icmp_s (p2 := 11) rfl (by decide) (by omega) (by omega) rfl (fun _ => ?_) (fun hb => absurd (show 0 < 128 by omega) hb)
    refine q_load (p2 := 19) rfl rfl rfl rfl ?_
    refine q_getv (p2 := 20) rfl hP.1 (by decide) hP.2.1 rfl ?_
    refine q_getv (p2 := 21) rfl hs237.1 (by decide) hs237.2.2.2.2.2.2.2.2.2.1 rfl ?_
    refine q_load (p2 := 22) rfl rfl rfl rfl ?_
    refine q_aldv (v := (6, 313, 0)) (p2 := 23) rfl (x_sc_312 hSc) (by omega) (by omega) rfl rfl ?_
    refine q_store (p2 := 24) rfl rfl rfl rfl rfl ?_
    refine q_load (p2 := 25) rfl rfl rfl rfl ?_
    refine q_const (p2 := 26) rfl rfl ?_
    refine q_aldv (v := (0, 4294967293, 0)) (p2 := 27) rfl (x_sc_313 hSc) (by omega) (by omega) rfl rfl ?_
    refine q_store (p2 := 28) rfl rfl rfl rfl rfl ?_
    refine q_load (p2 := 29) rfl rfl rfl rfl ?_
    refine q_if0 (p2 := 30) rfl (by decide) rfl (fun hb => absurd hb (show ¬ (¬ (2147483645 < 2147483648)) by decide)) (fun _ => ?_)
    refine q_load (p2 := 31) rfl rfl rfl rfl ?_
    refine q_load (p2 := 32) rfl rfl rfl rfl ?_
    refine q_const (p2 := 33) rfl rfl ?_
    refine q_aldv (v := (0, 1, 0)) (p2 := 34) rfl (x_sc_313 hSc) (by omega) (by omega) rfl rfl ?_
    refine q_load (p2 := 35) rfl rfl rfl rfl ?_
    refine q_getv (p2 := 36) rfl hV (by decide) hg.1 rfl ?_
    refine q_load (p2 := 37) rfl rfl rfl rfl ?_
    refine q_getv (p2 := 38) rfl hV (by decide) hg.2.1 rfl ?_
    refine q_callr (xs := [(2, ba, 0), (0, kA, 0), (0, 1, 0), (6, 7, 0)]) (p2 := 39) rfl rfl rfl rfl (x_rcv_s 7 hP.1) rfl ((by rw [show kA = 1 by omega]; exact e_acc_int hP)) (Nat.le_refl _) (Nat.le_refl _) rfl ?_
    exact q_retv rfl rfl (⟨rfl, rfl, rfl, rfl, rfl⟩)
theorem e_fits_2 {d n sl : Nat} {φ : FH} {A B made sv svm st : Nat} {fP : Nat → XV} (hP : x_pop φ A B made sv svm st fP) {v kA ba s1 l1 la1 h1 : Nat} {c1 : XV} {fV : Nat → XV} (hV : φ v = some (0, 10, 7, fV)) (hg : x_vg fV kA ba s1 l1 la1 h1 c1) (hA : kA < 7) (ha : ba < 2147483648) (hSc : x_sch φ) (h01 : kA ≤ 1) : x_f x_P (d + 2) 58 [(6, 7, 0), (6, v, 0), (0, 2, 0), (11, 0, 0), (11, 0, 0), (11, 0, 0), (11, 0, 0), (11, 0, 0), (11, 0, 0), (11, 0, 0)] φ n sl (x_r φ n sl (0, 1, 0)) := by
  obtain ⟨fS, hs237⟩ := hSc.1
  refine x_f_of rfl ?_
  refine q_load (p2 := 1) rfl rfl rfl rfl ?_
  refine q_getv (p2 := 2) rfl hV (by decide) hg.1 rfl ?_
  refine q_if0_s (p2 := 3) rfl (by decide) (by omega) rfl (fun hb1 => ?_) (fun hb1 => ?_)
  · have hb1 : kA = 0 := hb1
    refine q_load (p2 := 12) rfl rfl rfl rfl ?_
    refine q_getv (p2 := 13) rfl hV (by decide) hg.1 rfl ?_
    refine q_if0_s (p2 := 14) rfl (by decide) (by omega) rfl (fun hb2 => ?_) (fun hb2 => ?_)
    · have hb2 : ¬ (kA = 0) := hb2
      refine q_const (p2 := 17) rfl rfl ?_
      exact q_retv rfl rfl (by exfalso; omega)
    · have hb2 : ¬ (¬ (kA = 0)) := hb2
      refine q_const (p2 := 15) rfl rfl ?_
      refine q_goto rfl ?_
      exact q_retv rfl rfl (⟨rfl, rfl, rfl, rfl, rfl⟩)
  · have hb1 : ¬ (kA = 0) := hb1
    refine q_load (p2 := 4) rfl rfl rfl rfl ?_
    refine q_if0_s (p2 := 5) rfl (by decide) (by omega) rfl (fun hb => absurd hb (show ¬ (2 < 0) by omega)) (fun _ => ?_)
    refine q_load (p2 := 6) rfl rfl rfl rfl ?_
    refine q_load (p2 := 7) rfl rfl rfl rfl ?_
    refine q_getv (p2 := 8) rfl hP.1 (by decide) hP.2.1 rfl ?_
    refine q_getv (p2 := 9) rfl hs237.1 (by decide) hs237.2.2.2.2.2.2.2.2.2.1 rfl ?_
    refine q_alen (p2 := 10) rfl (x_sc_312 hSc) rfl (by omega) rfl ?_
    refine q_icmp_s (p2 := 11) rfl (by decide) (by omega) (by omega) rfl (fun _ => ?_) (fun hb => absurd (show 2 < 128 by omega) hb)
    refine q_load (p2 := 19) rfl rfl rfl rfl ?_
    refine q_getv (p2 := 20) rfl hP.1 (by decide) hP.2.1 rfl ?_
    refine q_getv (p2 := 21) rfl hs237.1 (by decide) hs237.2.2.2.2.2.2.2.2.2.1 rfl ?_
    refine q_load (p2 := 22) rfl rfl rfl rfl ?_
    refine q_aldv (v := (6, 315, 0)) (p2 := 23) rfl (x_sc_312 hSc) (by omega) (by omega) rfl rfl ?_
    refine q_store (p2 := 24) rfl rfl rfl rfl rfl ?_
    refine q_load (p2 := 25) rfl rfl rfl rfl ?_
    refine q_const (p2 := 26) rfl rfl ?_
    refine q_aldv (v := (0, 4294967293, 0)) (p2 := 27) rfl (x_sc_315 hSc) (by omega) (by omega) rfl rfl ?_
    refine q_store (p2 := 28) rfl rfl rfl rfl rfl ?_
    refine q_load (p2 := 29) rfl rfl rfl rfl ?_
    refine q_if0 (p2 := 30) rfl (by decide) rfl (fun hb => absurd hb (show ¬ (¬ (2147483645 < 2147483648)) by decide)) (fun _ => ?_)
    refine q_load (p2 := 31) rfl rfl rfl rfl ?_
    refine q_load (p2 := 32) rfl rfl rfl rfl ?_
    refine q_const (p2 := 33) rfl rfl ?_
    refine q_aldv (v := (0, 1, 0)) (p2 := 34) rfl (x_sc_315 hSc) (by omega) (by omega) rfl rfl ?_
    refine q_load (p2 := 35) rfl rfl rfl rfl ?_
    refine q_getv (p2 := 36) rfl hV (by decide) hg.1 rfl ?_
    refine q_load (p2 := 37) rfl rfl rfl rfl ?_
    refine q_getv (p2 := 38) rfl hV (by decide) hg.2.1 rfl ?_
    refine q_callr (xs := [(2, ba, 0), (0, kA, 0), (0, 1, 0), (6, 7, 0)]) (p2 := 39) rfl rfl rfl rfl (x_rcv_s 7 hP.1) rfl ((by rw [show kA = 1 by omega]; exact e_acc_int hP)) (Nat.le_refl _) (Nat.le_refl _) rfl ?_
    exact q_retv rfl rfl (⟨rfl, rfl, rfl, rfl, rfl⟩)
theorem e_fits_6 {d n sl : Nat} {φ : FH} {A B made sv svm st : Nat} {fP : Nat → XV} (hP : x_pop φ A B made sv svm st fP) {v kA ba s1 l1 la1 h1 : Nat} {c1 : XV} {fV : Nat → XV} (hV : φ v = some (0, 10, 7, fV)) (hg : x_vg fV kA ba s1 l1 la1 h1 c1) (hA : kA < 7) (ha : ba < 2147483648) (hSc : x_sch φ) (h01 : kA ≤ 1) : x_f x_P (d + 2) 58 [(6, 7, 0), (6, v, 0), (0, 6, 0), (11, 0, 0), (11, 0, 0), (11, 0, 0), (11, 0, 0), (11, 0, 0), (11, 0, 0), (11, 0, 0)] φ n sl (x_r φ n sl (0, 1, 0)) := by
  obtain ⟨fS, hs237⟩ := hSc.1
  refine x_f_of rfl ?_
  refine q_load (p2 := 1) rfl rfl rfl rfl ?_
  refine q_getv (p2 := 2) rfl hV (by decide) hg.1 rfl ?_
  refine q_if0_s (p2 := 3) rfl (by decide) (by omega) rfl (fun hb1 => ?_) (fun hb1 => ?_)
  · have hb1 : kA = 0 := hb1
    refine q_load (p2 := 12) rfl rfl rfl rfl ?_
    refine q_getv (p2 := 13) rfl hV (by decide) hg.1 rfl ?_
    refine q_if0_s (p2 := 14) rfl (by decide) (by omega) rfl (fun hb2 => ?_) (fun hb2 => ?_)
    · have hb2 : ¬ (kA = 0) := hb2
      refine q_const (p2 := 17) rfl rfl ?_
      exact q_retv rfl rfl (by exfalso; omega)
    · have hb2 : ¬ (¬ (kA = 0)) := hb2
      refine q_const (p2 := 15) rfl rfl ?_
      refine q_goto rfl ?_
      exact q_retv rfl rfl (⟨rfl, rfl, rfl, rfl, rfl⟩)
  · have hb1 : ¬ (kA = 0) := hb1
    refine q_load (p2 := 4) rfl rfl rfl rfl ?_
    refine q_if0_s (p2 := 5) rfl (by decide) (by omega) rfl (fun hb => absurd hb (show ¬ (6 < 0) by omega)) (fun _ => ?_)
    refine q_load (p2 := 6) rfl rfl rfl rfl ?_
    refine q_load (p2 := 7) rfl rfl rfl rfl ?_
    refine q_getv (p2 := 8) rfl hP.1 (by decide) hP.2.1 rfl ?_
    refine q_getv (p2 := 9) rfl hs237.1 (by decide) hs237.2.2.2.2.2.2.2.2.2.1 rfl ?_
    refine q_alen (p2 := 10) rfl (x_sc_312 hSc) rfl (by omega) rfl ?_
    refine q_icmp_s (p2 := 11) rfl (by decide) (by omega) (by omega) rfl (fun _ => ?_) (fun hb => absurd (show 6 < 128 by omega) hb)
    refine q_load (p2 := 19) rfl rfl rfl rfl ?_
    refine q_getv (p2 := 20) rfl hP.1 (by decide) hP.2.1 rfl ?_
    refine q_getv (p2 := 21) rfl hs237.1 (by decide) hs237.2.2.2.2.2.2.2.2.2.1 rfl ?_
    refine q_load (p2 := 22) rfl rfl rfl rfl ?_
    refine q_aldv (v := (6, 319, 0)) (p2 := 23) rfl (x_sc_312 hSc) (by omega) (by omega) rfl rfl ?_
    refine q_store (p2 := 24) rfl rfl rfl rfl rfl ?_
    refine q_load (p2 := 25) rfl rfl rfl rfl ?_
    refine q_const (p2 := 26) rfl rfl ?_
    refine q_aldv (v := (0, 4294967293, 0)) (p2 := 27) rfl (x_sc_319 hSc) (by omega) (by omega) rfl rfl ?_
    refine q_store (p2 := 28) rfl rfl rfl rfl rfl ?_
    refine q_load (p2 := 29) rfl rfl rfl rfl ?_
    refine q_if0 (p2 := 30) rfl (by decide) rfl (fun hb => absurd hb (show ¬ (¬ (2147483645 < 2147483648)) by decide)) (fun _ => ?_)
    refine q_load (p2 := 31) rfl rfl rfl rfl ?_
    refine q_load (p2 := 32) rfl rfl rfl rfl ?_
    refine q_const (p2 := 33) rfl rfl ?_
    refine q_aldv (v := (0, 1, 0)) (p2 := 34) rfl (x_sc_319 hSc) (by omega) (by omega) rfl rfl ?_
    refine q_load (p2 := 35) rfl rfl rfl rfl ?_
    refine q_getv (p2 := 36) rfl hV (by decide) hg.1 rfl ?_
    refine q_load (p2 := 37) rfl rfl rfl rfl ?_
    refine q_getv (p2 := 38) rfl hV (by decide) hg.2.1 rfl ?_
    refine q_callr (xs := [(2, ba, 0), (0, kA, 0), (0, 1, 0), (6, 7, 0)]) (p2 := 39) rfl rfl rfl rfl (x_rcv_s 7 hP.1) rfl ((by rw [show kA = 1 by omega]; exact e_acc_int hP)) (Nat.le_refl _) (Nat.le_refl _) rfl ?_
    exact q_retv rfl rfl (⟨rfl, rfl, rfl, rfl, rfl⟩)
theorem e_fits_3 {d n sl : Nat} {φ : FH} {A B made sv svm st : Nat} {fP : Nat → XV} (hP : x_pop φ A B made sv svm st fP) {comb : Nat → Nat} (hC : x_comb φ 226 comb) {v kA ba s1 l1 la1 h1 : Nat} {c1 : XV} {fV : Nat → XV} (hV : φ v = some (0, 10, 7, fV)) (hg : x_vg fV kA ba s1 l1 la1 h1 c1) (hA : kA < 7) (ha : ba < 2147483648) (hSc : x_sch φ) (h05 : kA = 0 ∨ kA = 5) (hb512 : ba < 512) : x_f x_P (d + 2) 58 [(6, 7, 0), (6, v, 0), (0, 3, 0), (11, 0, 0), (11, 0, 0), (11, 0, 0), (11, 0, 0), (11, 0, 0), (11, 0, 0), (11, 0, 0)] φ n sl (x_r φ n sl (0, if kA = 0 ∨ 1 &&& comb ba ≠ 0 then 1 else 0, 0)) := by
  obtain ⟨fS, hs237⟩ := hSc.1
  refine x_f_of rfl ?_
  refine q_load (p2 := 1) rfl rfl rfl rfl ?_
  refine q_getv (p2 := 2) rfl hV (by decide) hg.1 rfl ?_
  refine q_if0_s (p2 := 3) rfl (by decide) (by omega) rfl (fun hb1 => ?_) (fun hb1 => ?_)
  · have hb1 : kA = 0 := hb1
    refine q_load (p2 := 12) rfl rfl rfl rfl ?_
    refine q_getv (p2 := 13) rfl hV (by decide) hg.1 rfl ?_
    refine q_if0_s (p2 := 14) rfl (by decide) (by omega) rfl (fun hb2 => ?_) (fun hb2 => ?_)
    · have hb2 : ¬ (kA = 0) := hb2
      refine q_const (p2 := 17) rfl rfl ?_
      exact q_retv rfl rfl (by omega)
    · have hb2 : ¬ (¬ (kA = 0)) := hb2
      refine q_const (p2 := 15) rfl rfl ?_
      refine q_goto rfl ?_
      exact q_retv rfl rfl (⟨rfl, by rw [if_pos (Or.inl (by omega))], rfl, rfl, rfl⟩)
  · have hb1 : ¬ (kA = 0) := hb1
    refine q_load (p2 := 4) rfl rfl rfl rfl ?_
    refine q_if0_s (p2 := 5) rfl (by decide) (by omega) rfl (fun hb => absurd hb (show ¬ (3 < 0) by omega)) (fun _ => ?_)
    refine q_load (p2 := 6) rfl rfl rfl rfl ?_
    refine q_load (p2 := 7) rfl rfl rfl rfl ?_
    refine q_getv (p2 := 8) rfl hP.1 (by decide) hP.2.1 rfl ?_
    refine q_getv (p2 := 9) rfl hs237.1 (by decide) hs237.2.2.2.2.2.2.2.2.2.1 rfl ?_
    refine q_alen (p2 := 10) rfl (x_sc_312 hSc) rfl (by omega) rfl ?_
    refine q_icmp_s (p2 := 11) rfl (by decide) (by omega) (by omega) rfl (fun _ => ?_) (fun hb => absurd (show 3 < 128 by omega) hb)
    refine q_load (p2 := 19) rfl rfl rfl rfl ?_
    refine q_getv (p2 := 20) rfl hP.1 (by decide) hP.2.1 rfl ?_
    refine q_getv (p2 := 21) rfl hs237.1 (by decide) hs237.2.2.2.2.2.2.2.2.2.1 rfl ?_
    refine q_load (p2 := 22) rfl rfl rfl rfl ?_
    refine q_aldv (v := (6, 316, 0)) (p2 := 23) rfl (x_sc_312 hSc) (by omega) (by omega) rfl rfl ?_
    refine q_store (p2 := 24) rfl rfl rfl rfl rfl ?_
    refine q_load (p2 := 25) rfl rfl rfl rfl ?_
    refine q_const (p2 := 26) rfl rfl ?_
    refine q_aldv (v := (0, 4294967293, 0)) (p2 := 27) rfl (x_sc_316 hSc) (by omega) (by omega) rfl rfl ?_
    refine q_store (p2 := 28) rfl rfl rfl rfl rfl ?_
    refine q_load (p2 := 29) rfl rfl rfl rfl ?_
    refine q_if0 (p2 := 30) rfl (by decide) rfl (fun hb => absurd hb (show ¬ (¬ (2147483645 < 2147483648)) by decide)) (fun _ => ?_)
    refine q_load (p2 := 31) rfl rfl rfl rfl ?_
    refine q_load (p2 := 32) rfl rfl rfl rfl ?_
    refine q_const (p2 := 33) rfl rfl ?_
    refine q_aldv (v := (0, 2048, 0)) (p2 := 34) rfl (x_sc_316 hSc) (by omega) (by omega) rfl rfl ?_
    refine q_load (p2 := 35) rfl rfl rfl rfl ?_
    refine q_getv (p2 := 36) rfl hV (by decide) hg.1 rfl ?_
    refine q_load (p2 := 37) rfl rfl rfl rfl ?_
    refine q_getv (p2 := 38) rfl hV (by decide) hg.2.1 rfl ?_
    refine q_callr (xs := [(2, ba, 0), (0, kA, 0), (0, 2048, 0), (6, 7, 0)]) (p2 := 39) rfl rfl rfl rfl (x_rcv_s 7 hP.1) rfl ((by rw [show kA = 5 by omega]; exact e_acc_inst hP hC hb512)) (Nat.le_refl _) (Nat.le_refl _) rfl ?_
    by_cases hb3 : 1 &&& comb ba ≠ 0
    · rw [if_pos hb3]
      exact q_retv rfl rfl (⟨rfl, by rw [if_pos (Or.inr hb3)], rfl, rfl, rfl⟩)
    · rw [if_neg hb3]
      exact q_retv rfl rfl (⟨rfl, by rw [if_neg (fun z => z.elim (fun y => by omega) hb3)], rfl, rfl, rfl⟩)
theorem e_fits_5 {d n sl : Nat} {φ : FH} {A B made sv svm st : Nat} {fP : Nat → XV} (hP : x_pop φ A B made sv svm st fP) {comb : Nat → Nat} (hC : x_comb φ 226 comb) {v kA ba s1 l1 la1 h1 : Nat} {c1 : XV} {fV : Nat → XV} (hV : φ v = some (0, 10, 7, fV)) (hg : x_vg fV kA ba s1 l1 la1 h1 c1) (hA : kA < 7) (ha : ba < 2147483648) (hSc : x_sch φ) (h05 : kA = 0 ∨ kA = 5) (hb512 : ba < 512) : x_f x_P (d + 2) 58 [(6, 7, 0), (6, v, 0), (0, 5, 0), (11, 0, 0), (11, 0, 0), (11, 0, 0), (11, 0, 0), (11, 0, 0), (11, 0, 0), (11, 0, 0)] φ n sl (x_r φ n sl (0, if kA = 0 ∨ 1 &&& comb ba ≠ 0 then 1 else 0, 0)) := by
  obtain ⟨fS, hs237⟩ := hSc.1
  refine x_f_of rfl ?_
  refine q_load (p2 := 1) rfl rfl rfl rfl ?_
  refine q_getv (p2 := 2) rfl hV (by decide) hg.1 rfl ?_
  refine q_if0_s (p2 := 3) rfl (by decide) (by omega) rfl (fun hb1 => ?_) (fun hb1 => ?_)
  · have hb1 : kA = 0 := hb1
    refine q_load (p2 := 12) rfl rfl rfl rfl ?_
    refine q_getv (p2 := 13) rfl hV (by decide) hg.1 rfl ?_
    refine q_if0_s (p2 := 14) rfl (by decide) (by omega) rfl (fun hb2 => ?_) (fun hb2 => ?_)
    · have hb2 : ¬ (kA = 0) := hb2
      refine q_const (p2 := 17) rfl rfl ?_
      exact q_retv rfl rfl (by omega)
    · have hb2 : ¬ (¬ (kA = 0)) := hb2
      refine q_const (p2 := 15) rfl rfl ?_
      refine q_goto rfl ?_
      exact q_retv rfl rfl (⟨rfl, by rw [if_pos (Or.inl (by omega))], rfl, rfl, rfl⟩)
  · have hb1 : ¬ (kA = 0) := hb1
    refine q_load (p2 := 4) rfl rfl rfl rfl ?_
    refine q_if0_s (p2 := 5) rfl (by decide) (by omega) rfl (fun hb => absurd hb (show ¬ (5 < 0) by omega)) (fun _ => ?_)
    refine q_load (p2 := 6) rfl rfl rfl rfl ?_
    refine q_load (p2 := 7) rfl rfl rfl rfl ?_
    refine q_getv (p2 := 8) rfl hP.1 (by decide) hP.2.1 rfl ?_
    refine q_getv (p2 := 9) rfl hs237.1 (by decide) hs237.2.2.2.2.2.2.2.2.2.1 rfl ?_
    refine q_alen (p2 := 10) rfl (x_sc_312 hSc) rfl (by omega) rfl ?_
    refine q_icmp_s (p2 := 11) rfl (by decide) (by omega) (by omega) rfl (fun _ => ?_) (fun hb => absurd (show 5 < 128 by omega) hb)
    refine q_load (p2 := 19) rfl rfl rfl rfl ?_
    refine q_getv (p2 := 20) rfl hP.1 (by decide) hP.2.1 rfl ?_
    refine q_getv (p2 := 21) rfl hs237.1 (by decide) hs237.2.2.2.2.2.2.2.2.2.1 rfl ?_
    refine q_load (p2 := 22) rfl rfl rfl rfl ?_
    refine q_aldv (v := (6, 318, 0)) (p2 := 23) rfl (x_sc_312 hSc) (by omega) (by omega) rfl rfl ?_
    refine q_store (p2 := 24) rfl rfl rfl rfl rfl ?_
    refine q_load (p2 := 25) rfl rfl rfl rfl ?_
    refine q_const (p2 := 26) rfl rfl ?_
    refine q_aldv (v := (0, 4294967293, 0)) (p2 := 27) rfl (x_sc_318 hSc) (by omega) (by omega) rfl rfl ?_
    refine q_store (p2 := 28) rfl rfl rfl rfl rfl ?_
    refine q_load (p2 := 29) rfl rfl rfl rfl ?_
    refine q_if0 (p2 := 30) rfl (by decide) rfl (fun hb => absurd hb (show ¬ (¬ (2147483645 < 2147483648)) by decide)) (fun _ => ?_)
    refine q_load (p2 := 31) rfl rfl rfl rfl ?_
    refine q_load (p2 := 32) rfl rfl rfl rfl ?_
    refine q_const (p2 := 33) rfl rfl ?_
    refine q_aldv (v := (0, 2048, 0)) (p2 := 34) rfl (x_sc_318 hSc) (by omega) (by omega) rfl rfl ?_
    refine q_load (p2 := 35) rfl rfl rfl rfl ?_
    refine q_getv (p2 := 36) rfl hV (by decide) hg.1 rfl ?_
    refine q_load (p2 := 37) rfl rfl rfl rfl ?_
    refine q_getv (p2 := 38) rfl hV (by decide) hg.2.1 rfl ?_
    refine q_callr (xs := [(2, ba, 0), (0, kA, 0), (0, 2048, 0), (6, 7, 0)]) (p2 := 39) rfl rfl rfl rfl (x_rcv_s 7 hP.1) rfl ((by rw [show kA = 5 by omega]; exact e_acc_inst hP hC hb512)) (Nat.le_refl _) (Nat.le_refl _) rfl ?_
    by_cases hb3 : 1 &&& comb ba ≠ 0
    · rw [if_pos hb3]
      exact q_retv rfl rfl (⟨rfl, by rw [if_pos (Or.inr hb3)], rfl, rfl, rfl⟩)
    · rw [if_neg hb3]
      exact q_retv rfl rfl (⟨rfl, by rw [if_neg (fun z => z.elim (fun y => by omega) hb3)], rfl, rfl, rfl⟩)
/-- those that aren't alike to one before -/
def x_dd (lik : Nat → Nat) (made : Nat) : List Nat → List Nat → List Nat
  | acc, [] => acc
  | acc, x :: t => x_dd lik made (if acc.any (fun y => decide (x_kn lik made x y)) then acc else acc ++ [x]) t
theorem e_fits_loop {d n sl : Nat} {φ : FH} {A B made sv svm st : Nat} {fP : Nat → XV} (hP : x_pop φ A B made sv svm st fP) {comb : Nat → Nat} (hC : x_comb φ 226 comb) (hSc : x_sch φ) {v c : Nat} {L : List Nat} {fV gc : Nat → XV} (hV : φ v = some (0, 10, 7, fV)) (hg : x_vg fV 6 0 3 1 5 0 (6, c, 0)) (hc : φ c = some (6, 0, L.length, gc)) (hgc : ∀ i, i < L.length → gc i = (2, L.getD i 0, 0)) (hLL : ∀ i, L.getD i 0 < 2147483648) (hl : L.length ≤ 24) (h512 : ∀ i, L.getD i 0 < 512) (k : Nat) : ∀ (i : Nat), i + k = L.length → (∀ j, j < i → 1 &&& comb (L.getD j 0) ≠ 0) → x_n x_P (d + 1) xc_58 87 [] [(6, 7, 0), (6, v, 0), (0, 1, 0), (6, 314, 0), (0, 3, 0), (0, 0, 0), (0, 5, 0), (0, L.length, 0), (0, 1, 0), (0, i, 0)] φ n sl (x_r φ n sl (0, if (∀ j, j < L.length → 1 &&& comb (L.getD j 0) ≠ 0) then 1 else 0, 0)) := by
  obtain ⟨fS, hs237⟩ := hSc.1
  induction k with
  | zero =>
    intro i hi hall
    have hi : L.length = i := by omega
    subst hi
    refine q_load (p2 := 88) rfl rfl rfl rfl ?_
    refine q_load (p2 := 89) rfl rfl rfl rfl ?_
    refine q_icmp_s (p2 := 90) rfl (by decide) (by omega) (by omega) rfl (fun _ => ?_) (fun hb => absurd (show ¬ (L.length < L.length) by omega) hb)
    refine q_load (p2 := 115) rfl rfl rfl rfl ?_
    exact q_retv rfl rfl (⟨rfl, by rw [if_pos hall], rfl, rfl, rfl⟩)
  | succ k ih =>
    intro i hi hall
    refine q_load (p2 := 88) rfl rfl rfl rfl ?_
    refine q_load (p2 := 89) rfl rfl rfl rfl ?_
    refine q_icmp_s (p2 := 90) rfl (by decide) (by omega) (by omega) rfl (fun hb => absurd hb (show ¬ (¬ (i < L.length)) by omega)) (fun _ => ?_)
    refine q_load (p2 := 91) rfl rfl rfl rfl ?_
    refine q_if0_s (p2 := 92) rfl (by decide) (by omega) rfl (fun hb => absurd hb (show ¬ (1 = 0) by omega)) (fun _ => ?_)
    refine q_load (p2 := 93) rfl rfl rfl rfl ?_
    refine q_load (p2 := 94) rfl rfl rfl rfl ?_
    refine q_callr (xs := [(0, i, 0), (6, v, 0)]) (p2 := 95) rfl rfl rfl rfl (x_rcv_s v hV) rfl (e_isHole hV hg (i := i) (by omega)) (Nat.le_refl _) (Nat.le_refl _) rfl ?_
    refine q_if0_s (p2 := 96) rfl (by decide) (by omega) rfl (fun hb => absurd hb (show ¬ (¬ (0 = 0)) by omega)) (fun _ => ?_)
    refine q_load (p2 := 97) rfl rfl rfl rfl ?_
    refine q_load (p2 := 98) rfl rfl rfl rfl ?_
    refine q_const (p2 := 99) rfl rfl ?_
    refine q_aldv (v := (0, 2048, 0)) (p2 := 100) rfl (x_sc_314 hSc) (by omega) (by omega) rfl rfl ?_
    refine q_load (p2 := 101) rfl rfl rfl rfl ?_
    refine q_getv (p2 := 102) rfl hV (by decide) hg.2.2.2.2.1 rfl ?_
    refine q_load (p2 := 103) rfl rfl rfl rfl ?_
    refine q_getv (p2 := 104) rfl hV (by decide) hg.2.2.2.2.2.2 rfl ?_
    refine q_load (p2 := 105) rfl rfl rfl rfl ?_
    refine q_aldv (v := (2, (L.getD (i) 0), 0)) (p2 := 106) rfl hc (by omega) (by omega) (hgc (i) (by omega)) rfl ?_
    refine q_callr (xs := [(2, (L.getD (i) 0), 0), (0, 5, 0), (0, 2048, 0), (6, 7, 0)]) (p2 := 107) rfl rfl rfl rfl (x_rcv_s 7 hP.1) rfl (e_acc_inst hP hC (h512 i)) (Nat.le_refl _) (Nat.le_refl _) rfl ?_
    by_cases hb1 : 1 &&& comb (L.getD i 0) ≠ 0
    · rw [if_pos hb1]
      refine q_if0_s (p2 := 108) rfl (by decide) (by omega) rfl (fun hb => absurd hb (show ¬ (1 = 0) by omega)) (fun _ => ?_)
      refine q_const (p2 := 109) rfl rfl ?_
      refine q_goto rfl ?_
      refine q_store (p2 := 112) rfl rfl rfl rfl rfl ?_
      refine q_iinc (z := i + 1) (p2 := 113) rfl rfl (Nat.mod_eq_of_lt (by omega)) rfl rfl ?_
      refine q_goto rfl ?_
      exact ih (i + 1) (by omega) (fun j hj => (Decidable.em (j = i)).elim (fun h => by rw [h]; exact hb1) (fun h => hall j (by omega)))
    · rw [if_neg hb1]
      refine q_if0_s (p2 := 108) rfl (by decide) (by omega) rfl (fun _ => ?_) (fun hb => absurd (show 0 = 0 by omega) hb)
      refine q_const (p2 := 111) rfl rfl ?_
      refine q_store (p2 := 112) rfl rfl rfl rfl rfl ?_
      refine q_iinc (z := i + 1) (p2 := 113) rfl rfl (Nat.mod_eq_of_lt (by omega)) rfl rfl ?_
      refine q_goto rfl ?_
      rw [if_neg (fun z => hb1 (z i (by omega)))]
      refine q_load (p2 := 88) rfl rfl rfl rfl ?_
      refine q_load (p2 := 89) rfl rfl rfl rfl ?_
      refine q_icmp_s (p2 := 90) rfl (by decide) (by omega) (by omega) rfl (fun hb62 => ?_) (fun hb62 => ?_)
      · have hb62 : ¬ (i + 1 < L.length) := hb62
        refine q_load (p2 := 115) rfl rfl rfl rfl ?_
        exact q_retv rfl rfl (⟨rfl, rfl, rfl, rfl, rfl⟩)
      · have hb62 : ¬ (¬ (i + 1 < L.length)) := hb62
        refine q_load (p2 := 91) rfl rfl rfl rfl ?_
        refine q_if0_s (p2 := 92) rfl (by decide) (by omega) rfl (fun _ => ?_) (fun hb => absurd (show 0 = 0 by omega) hb)
        refine q_load (p2 := 115) rfl rfl rfl rfl ?_
        exact q_retv rfl rfl (⟨rfl, rfl, rfl, rfl, rfl⟩)
theorem e_fits_1 {d n sl : Nat} {φ : FH} {A B made sv svm st : Nat} {fP : Nat → XV} (hP : x_pop φ A B made sv svm st fP) {comb : Nat → Nat} (hC : x_comb φ 226 comb) (hSc : x_sch φ) {v c : Nat} {L : List Nat} {fV gc : Nat → XV} (hV : φ v = some (0, 10, 7, fV)) (hg : x_vg fV 6 0 3 1 5 0 (6, c, 0)) (hc : φ c = some (6, 0, L.length, gc)) (hgc : ∀ i, i < L.length → gc i = (2, L.getD i 0, 0)) (hLL : ∀ i, L.getD i 0 < 2147483648) (hl : L.length ≤ 24) (h512 : ∀ i, L.getD i 0 < 512) : x_f x_P (d + 2) 58 [(6, 7, 0), (6, v, 0), (0, 1, 0), (11, 0, 0), (11, 0, 0), (11, 0, 0), (11, 0, 0), (11, 0, 0), (11, 0, 0), (11, 0, 0)] φ n sl (x_r φ n sl (0, if (∀ j, j < L.length → 1 &&& comb (L.getD j 0) ≠ 0) then 1 else 0, 0)) := by
  obtain ⟨fS, hs237⟩ := hSc.1
  refine x_f_of rfl ?_
  refine q_load (p2 := 1) rfl rfl rfl rfl ?_
  refine q_getv (p2 := 2) rfl hV (by decide) hg.1 rfl ?_
  refine q_if0_s (p2 := 3) rfl (by decide) (by omega) rfl (fun hb => absurd hb (show ¬ (6 = 0) by omega)) (fun _ => ?_)
  refine q_load (p2 := 4) rfl rfl rfl rfl ?_
  refine q_if0_s (p2 := 5) rfl (by decide) (by omega) rfl (fun hb => absurd hb (show ¬ (1 < 0) by omega)) (fun _ => ?_)
  refine q_load (p2 := 6) rfl rfl rfl rfl ?_
  refine q_load (p2 := 7) rfl rfl rfl rfl ?_
  refine q_getv (p2 := 8) rfl hP.1 (by decide) hP.2.1 rfl ?_
  refine q_getv (p2 := 9) rfl hs237.1 (by decide) hs237.2.2.2.2.2.2.2.2.2.1 rfl ?_
  refine q_alen (p2 := 10) rfl (x_sc_312 hSc) rfl (by omega) rfl ?_
  refine q_icmp_s (p2 := 11) rfl (by decide) (by omega) (by omega) rfl (fun _ => ?_) (fun hb => absurd (show 1 < 128 by omega) hb)
  refine q_load (p2 := 19) rfl rfl rfl rfl ?_
  refine q_getv (p2 := 20) rfl hP.1 (by decide) hP.2.1 rfl ?_
  refine q_getv (p2 := 21) rfl hs237.1 (by decide) hs237.2.2.2.2.2.2.2.2.2.1 rfl ?_
  refine q_load (p2 := 22) rfl rfl rfl rfl ?_
  refine q_aldv (v := (6, 314, 0)) (p2 := 23) rfl (x_sc_312 hSc) (by omega) (by omega) rfl rfl ?_
  refine q_store (p2 := 24) rfl rfl rfl rfl rfl ?_
  refine q_load (p2 := 25) rfl rfl rfl rfl ?_
  refine q_const (p2 := 26) rfl rfl ?_
  refine q_aldv (v := (0, 3, 0)) (p2 := 27) rfl (x_sc_314 hSc) (by omega) (by omega) rfl rfl ?_
  refine q_store (p2 := 28) rfl rfl rfl rfl rfl ?_
  refine q_load (p2 := 29) rfl rfl rfl rfl ?_
  refine q_if0_s (p2 := 30) rfl (by decide) (by omega) rfl (fun _ => ?_) (fun hb => absurd (show ¬ (3 < 0) by omega) hb)
  refine q_load (p2 := 41) rfl rfl rfl rfl ?_
  refine q_const (p2 := 42) rfl rfl ?_
  refine q_aldv (v := (0, 0, 0)) (p2 := 43) rfl (x_sc_314 hSc) (by omega) (by omega) rfl rfl ?_
  refine q_store (p2 := 44) rfl rfl rfl rfl rfl ?_
  refine q_load (p2 := 45) rfl rfl rfl rfl ?_
  refine q_const (p2 := 46) rfl rfl ?_
  refine q_aldv (v := (0, 5, 0)) (p2 := 47) rfl (x_sc_314 hSc) (by omega) (by omega) rfl rfl ?_
  refine q_store (p2 := 48) rfl rfl rfl rfl rfl ?_
  refine q_load (p2 := 49) rfl rfl rfl rfl ?_
  refine q_getv (p2 := 50) rfl hV (by decide) hg.2.2.2.2.2.2 rfl ?_
  refine q_alen (p2 := 51) rfl hc rfl (by omega) rfl ?_
  refine q_store (p2 := 52) rfl rfl rfl rfl rfl ?_
  refine q_load (p2 := 53) rfl rfl rfl rfl ?_
  refine q_getv (p2 := 54) rfl hV (by decide) hg.1 rfl ?_
  refine q_const (p2 := 55) rfl rfl ?_
  refine q_icmp_s (p2 := 56) rfl (by decide) (by omega) (by omega) rfl (fun hb => absurd hb (show ¬ (¬ (6 = 6)) by omega)) (fun _ => ?_)
  refine q_load (p2 := 57) rfl rfl rfl rfl ?_
  refine q_getv (p2 := 58) rfl hV (by decide) hg.2.2.1 rfl ?_
  refine q_load (p2 := 59) rfl rfl rfl rfl ?_
  refine q_icmp_s (p2 := 60) rfl (by decide) (by omega) (by omega) rfl (fun hb => absurd hb (show ¬ (¬ (3 = 3)) by omega)) (fun _ => ?_)
  refine q_const (p2 := 61) rfl rfl ?_
  refine q_goto rfl ?_
  refine q_store (p2 := 64) rfl rfl rfl rfl rfl ?_
  refine q_load (p2 := 65) rfl rfl rfl rfl ?_
  refine q_if0_s (p2 := 66) rfl (by decide) (by omega) rfl (fun _ => ?_) (fun hb => absurd (show ¬ (3 = 0) by omega) hb)
  refine q_const (p2 := 86) rfl rfl ?_
  refine q_store (p2 := 87) rfl rfl rfl rfl rfl ?_
  exact e_fits_loop hP hC hSc hV hg hc hgc hLL hl h512 L.length 0 (by omega) (fun j hj => absurd hj (Nat.not_lt_zero j))
end FPOP17
