section FPOP24
theorem e_ruleCount {d n sl : Nat} {φ : FH} (hSc : x_sch φ) : x_f x_P (d + 1) 64 [(6, 237, 0)] φ n sl (x_r φ n sl (0, 9, 0)) := by
  obtain ⟨fS, hs237⟩ := hSc.1
  refine x_f_of rfl ?_
  refine q_const (p2 := 1) rfl rfl ?_
  refine q_load (p2 := 2) rfl rfl rfl rfl ?_
  refine q_getv (p2 := 3) rfl hs237.1 (by decide) hs237.2.2.2.1 rfl ?_
  refine q_const (p2 := 4) rfl rfl ?_
  refine q_aldv (v := (0, 3, 0)) (p2 := 5) rfl (x_sc_246 hSc) (by omega) (by omega) rfl rfl ?_
  refine q_iop (w := 3 * 3) (z := 9) (p2 := 6) rfl (xo_mul 3 3) (by decide) rfl ?_
  refine q_load (p2 := 7) rfl rfl rfl rfl ?_
  refine q_getv (p2 := 8) rfl hs237.1 (by decide) hs237.2.2.2.1 rfl ?_
  refine q_const (p2 := 9) rfl rfl ?_
  refine q_aldv (v := (0, 0, 0)) (p2 := 10) rfl (x_sc_246 hSc) (by omega) (by omega) rfl rfl ?_
  refine q_iop (w := 9 + 0) (z := 9) (p2 := 11) rfl (xo_add 9 0) (by decide) rfl ?_
  refine q_load (p2 := 12) rfl rfl rfl rfl ?_
  refine q_getv (p2 := 13) rfl hs237.1 (by decide) hs237.2.2.2.1 rfl ?_
  refine q_const (p2 := 14) rfl rfl ?_
  refine q_aldv (v := (0, 0, 0)) (p2 := 15) rfl (x_sc_246 hSc) (by omega) (by omega) rfl rfl ?_
  refine q_iop (w := 9 + 0) (z := 9) (p2 := 16) rfl (xo_add 9 0) (by decide) rfl ?_
  exact q_retv rfl rfl (⟨rfl, rfl, rfl, rfl, rfl⟩)
theorem e_ruleOwner_0 {d n sl : Nat} {φ : FH} (hSc : x_sch φ) : x_f x_P (d + 1) 65 [(6, 237, 0), (0, 0, 0), (11, 0, 0)] φ n sl (x_r φ n sl (0, 0, 0)) := by
  obtain ⟨fS, hs237⟩ := hSc.1
  refine x_f_of rfl ?_
  refine q_load (p2 := 1) rfl rfl rfl rfl ?_
  refine q_const (p2 := 2) rfl rfl ?_
  refine q_load (p2 := 3) rfl rfl rfl rfl ?_
  refine q_getv (p2 := 4) rfl hs237.1 (by decide) hs237.2.2.2.1 rfl ?_
  refine q_const (p2 := 5) rfl rfl ?_
  refine q_aldv (v := (0, 3, 0)) (p2 := 6) rfl (x_sc_246 hSc) (by omega) (by omega) rfl rfl ?_
  refine q_iop (w := 3 * 3) (z := 9) (p2 := 7) rfl (xo_mul 3 3) (by decide) rfl ?_
  refine q_iop (w := 0 + (4294967296 - 9 % 4294967296)) (z := 4294967287) (p2 := 8) rfl (xo_sub 0 9) (by decide) rfl ?_
  refine q_store (p2 := 9) rfl rfl rfl rfl rfl ?_
  refine q_load (p2 := 10) rfl rfl rfl rfl ?_
  refine q_if0 (p2 := 11) rfl (by decide) rfl (fun hb => absurd hb (show ¬ (¬ (2147483639 < 2147483648)) by decide)) (fun _ => ?_)
  refine q_load (p2 := 12) rfl rfl rfl rfl ?_
  refine q_const (p2 := 13) rfl rfl ?_
  refine q_iop (w := 0 / 3) (z := 0) (p2 := 14) rfl (xo_div (by decide) (by decide) (by decide)) (by decide) rfl ?_
  exact q_retv rfl rfl (⟨rfl, rfl, rfl, rfl, rfl⟩)
theorem e_ruleSort_0 {d n sl : Nat} {φ : FH} (hSc : x_sch φ) : x_f x_P (d + 1) 66 [(6, 237, 0), (0, 0, 0), (11, 0, 0)] φ n sl (x_r φ n sl (0, 0, 0)) := by
  obtain ⟨fS, hs237⟩ := hSc.1
  refine x_f_of rfl ?_
  refine q_load (p2 := 1) rfl rfl rfl rfl ?_
  refine q_const (p2 := 2) rfl rfl ?_
  refine q_load (p2 := 3) rfl rfl rfl rfl ?_
  refine q_getv (p2 := 4) rfl hs237.1 (by decide) hs237.2.2.2.1 rfl ?_
  refine q_const (p2 := 5) rfl rfl ?_
  refine q_aldv (v := (0, 3, 0)) (p2 := 6) rfl (x_sc_246 hSc) (by omega) (by omega) rfl rfl ?_
  refine q_iop (w := 3 * 3) (z := 9) (p2 := 7) rfl (xo_mul 3 3) (by decide) rfl ?_
  refine q_iop (w := 0 + (4294967296 - 9 % 4294967296)) (z := 4294967287) (p2 := 8) rfl (xo_sub 0 9) (by decide) rfl ?_
  refine q_store (p2 := 9) rfl rfl rfl rfl rfl ?_
  refine q_load (p2 := 10) rfl rfl rfl rfl ?_
  refine q_if0 (p2 := 11) rfl (by decide) rfl (fun hb => absurd hb (show ¬ (¬ (2147483639 < 2147483648)) by decide)) (fun _ => ?_)
  refine q_load (p2 := 12) rfl rfl rfl rfl ?_
  refine q_const (p2 := 13) rfl rfl ?_
  refine q_iop (w := 0 % 3) (z := 0) (p2 := 14) rfl (xo_rem (by decide) (by decide) (by decide)) (by decide) rfl ?_
  exact q_retv rfl rfl (⟨rfl, rfl, rfl, rfl, rfl⟩)
theorem e_ruleOwner_1 {d n sl : Nat} {φ : FH} (hSc : x_sch φ) : x_f x_P (d + 1) 65 [(6, 237, 0), (0, 1, 0), (11, 0, 0)] φ n sl (x_r φ n sl (0, 0, 0)) := by
  obtain ⟨fS, hs237⟩ := hSc.1
  refine x_f_of rfl ?_
  refine q_load (p2 := 1) rfl rfl rfl rfl ?_
  refine q_const (p2 := 2) rfl rfl ?_
  refine q_load (p2 := 3) rfl rfl rfl rfl ?_
  refine q_getv (p2 := 4) rfl hs237.1 (by decide) hs237.2.2.2.1 rfl ?_
  refine q_const (p2 := 5) rfl rfl ?_
  refine q_aldv (v := (0, 3, 0)) (p2 := 6) rfl (x_sc_246 hSc) (by omega) (by omega) rfl rfl ?_
  refine q_iop (w := 3 * 3) (z := 9) (p2 := 7) rfl (xo_mul 3 3) (by decide) rfl ?_
  refine q_iop (w := 1 + (4294967296 - 9 % 4294967296)) (z := 4294967288) (p2 := 8) rfl (xo_sub 1 9) (by decide) rfl ?_
  refine q_store (p2 := 9) rfl rfl rfl rfl rfl ?_
  refine q_load (p2 := 10) rfl rfl rfl rfl ?_
  refine q_if0 (p2 := 11) rfl (by decide) rfl (fun hb => absurd hb (show ¬ (¬ (2147483640 < 2147483648)) by decide)) (fun _ => ?_)
  refine q_load (p2 := 12) rfl rfl rfl rfl ?_
  refine q_const (p2 := 13) rfl rfl ?_
  refine q_iop (w := 1 / 3) (z := 0) (p2 := 14) rfl (xo_div (by decide) (by decide) (by decide)) (by decide) rfl ?_
  exact q_retv rfl rfl (⟨rfl, rfl, rfl, rfl, rfl⟩)
theorem e_ruleSort_1 {d n sl : Nat} {φ : FH} (hSc : x_sch φ) : x_f x_P (d + 1) 66 [(6, 237, 0), (0, 1, 0), (11, 0, 0)] φ n sl (x_r φ n sl (0, 1, 0)) := by
  obtain ⟨fS, hs237⟩ := hSc.1
  refine x_f_of rfl ?_
  refine q_load (p2 := 1) rfl rfl rfl rfl ?_
  refine q_const (p2 := 2) rfl rfl ?_
  refine q_load (p2 := 3) rfl rfl rfl rfl ?_
  refine q_getv (p2 := 4) rfl hs237.1 (by decide) hs237.2.2.2.1 rfl ?_
  refine q_const (p2 := 5) rfl rfl ?_
  refine q_aldv (v := (0, 3, 0)) (p2 := 6) rfl (x_sc_246 hSc) (by omega) (by omega) rfl rfl ?_
  refine q_iop (w := 3 * 3) (z := 9) (p2 := 7) rfl (xo_mul 3 3) (by decide) rfl ?_
  refine q_iop (w := 1 + (4294967296 - 9 % 4294967296)) (z := 4294967288) (p2 := 8) rfl (xo_sub 1 9) (by decide) rfl ?_
  refine q_store (p2 := 9) rfl rfl rfl rfl rfl ?_
  refine q_load (p2 := 10) rfl rfl rfl rfl ?_
  refine q_if0 (p2 := 11) rfl (by decide) rfl (fun hb => absurd hb (show ¬ (¬ (2147483640 < 2147483648)) by decide)) (fun _ => ?_)
  refine q_load (p2 := 12) rfl rfl rfl rfl ?_
  refine q_const (p2 := 13) rfl rfl ?_
  refine q_iop (w := 1 % 3) (z := 1) (p2 := 14) rfl (xo_rem (by decide) (by decide) (by decide)) (by decide) rfl ?_
  exact q_retv rfl rfl (⟨rfl, rfl, rfl, rfl, rfl⟩)
theorem e_ruleOwner_2 {d n sl : Nat} {φ : FH} (hSc : x_sch φ) : x_f x_P (d + 1) 65 [(6, 237, 0), (0, 2, 0), (11, 0, 0)] φ n sl (x_r φ n sl (0, 0, 0)) := by
  obtain ⟨fS, hs237⟩ := hSc.1
  refine x_f_of rfl ?_
  refine q_load (p2 := 1) rfl rfl rfl rfl ?_
  refine q_const (p2 := 2) rfl rfl ?_
  refine q_load (p2 := 3) rfl rfl rfl rfl ?_
  refine q_getv (p2 := 4) rfl hs237.1 (by decide) hs237.2.2.2.1 rfl ?_
  refine q_const (p2 := 5) rfl rfl ?_
  refine q_aldv (v := (0, 3, 0)) (p2 := 6) rfl (x_sc_246 hSc) (by omega) (by omega) rfl rfl ?_
  refine q_iop (w := 3 * 3) (z := 9) (p2 := 7) rfl (xo_mul 3 3) (by decide) rfl ?_
  refine q_iop (w := 2 + (4294967296 - 9 % 4294967296)) (z := 4294967289) (p2 := 8) rfl (xo_sub 2 9) (by decide) rfl ?_
  refine q_store (p2 := 9) rfl rfl rfl rfl rfl ?_
  refine q_load (p2 := 10) rfl rfl rfl rfl ?_
  refine q_if0 (p2 := 11) rfl (by decide) rfl (fun hb => absurd hb (show ¬ (¬ (2147483641 < 2147483648)) by decide)) (fun _ => ?_)
  refine q_load (p2 := 12) rfl rfl rfl rfl ?_
  refine q_const (p2 := 13) rfl rfl ?_
  refine q_iop (w := 2 / 3) (z := 0) (p2 := 14) rfl (xo_div (by decide) (by decide) (by decide)) (by decide) rfl ?_
  exact q_retv rfl rfl (⟨rfl, rfl, rfl, rfl, rfl⟩)
theorem e_ruleSort_2 {d n sl : Nat} {φ : FH} (hSc : x_sch φ) : x_f x_P (d + 1) 66 [(6, 237, 0), (0, 2, 0), (11, 0, 0)] φ n sl (x_r φ n sl (0, 2, 0)) := by
  obtain ⟨fS, hs237⟩ := hSc.1
  refine x_f_of rfl ?_
  refine q_load (p2 := 1) rfl rfl rfl rfl ?_
  refine q_const (p2 := 2) rfl rfl ?_
  refine q_load (p2 := 3) rfl rfl rfl rfl ?_
  refine q_getv (p2 := 4) rfl hs237.1 (by decide) hs237.2.2.2.1 rfl ?_
  refine q_const (p2 := 5) rfl rfl ?_
  refine q_aldv (v := (0, 3, 0)) (p2 := 6) rfl (x_sc_246 hSc) (by omega) (by omega) rfl rfl ?_
  refine q_iop (w := 3 * 3) (z := 9) (p2 := 7) rfl (xo_mul 3 3) (by decide) rfl ?_
  refine q_iop (w := 2 + (4294967296 - 9 % 4294967296)) (z := 4294967289) (p2 := 8) rfl (xo_sub 2 9) (by decide) rfl ?_
  refine q_store (p2 := 9) rfl rfl rfl rfl rfl ?_
  refine q_load (p2 := 10) rfl rfl rfl rfl ?_
  refine q_if0 (p2 := 11) rfl (by decide) rfl (fun hb => absurd hb (show ¬ (¬ (2147483641 < 2147483648)) by decide)) (fun _ => ?_)
  refine q_load (p2 := 12) rfl rfl rfl rfl ?_
  refine q_const (p2 := 13) rfl rfl ?_
  refine q_iop (w := 2 % 3) (z := 2) (p2 := 14) rfl (xo_rem (by decide) (by decide) (by decide)) (by decide) rfl ?_
  exact q_retv rfl rfl (⟨rfl, rfl, rfl, rfl, rfl⟩)
theorem e_ruleOwner_3 {d n sl : Nat} {φ : FH} (hSc : x_sch φ) : x_f x_P (d + 1) 65 [(6, 237, 0), (0, 3, 0), (11, 0, 0)] φ n sl (x_r φ n sl (0, 1, 0)) := by
  obtain ⟨fS, hs237⟩ := hSc.1
  refine x_f_of rfl ?_
  refine q_load (p2 := 1) rfl rfl rfl rfl ?_
  refine q_const (p2 := 2) rfl rfl ?_
  refine q_load (p2 := 3) rfl rfl rfl rfl ?_
  refine q_getv (p2 := 4) rfl hs237.1 (by decide) hs237.2.2.2.1 rfl ?_
  refine q_const (p2 := 5) rfl rfl ?_
  refine q_aldv (v := (0, 3, 0)) (p2 := 6) rfl (x_sc_246 hSc) (by omega) (by omega) rfl rfl ?_
  refine q_iop (w := 3 * 3) (z := 9) (p2 := 7) rfl (xo_mul 3 3) (by decide) rfl ?_
  refine q_iop (w := 3 + (4294967296 - 9 % 4294967296)) (z := 4294967290) (p2 := 8) rfl (xo_sub 3 9) (by decide) rfl ?_
  refine q_store (p2 := 9) rfl rfl rfl rfl rfl ?_
  refine q_load (p2 := 10) rfl rfl rfl rfl ?_
  refine q_if0 (p2 := 11) rfl (by decide) rfl (fun hb => absurd hb (show ¬ (¬ (2147483642 < 2147483648)) by decide)) (fun _ => ?_)
  refine q_load (p2 := 12) rfl rfl rfl rfl ?_
  refine q_const (p2 := 13) rfl rfl ?_
  refine q_iop (w := 3 / 3) (z := 1) (p2 := 14) rfl (xo_div (by decide) (by decide) (by decide)) (by decide) rfl ?_
  exact q_retv rfl rfl (⟨rfl, rfl, rfl, rfl, rfl⟩)
theorem e_ruleSort_3 {d n sl : Nat} {φ : FH} (hSc : x_sch φ) : x_f x_P (d + 1) 66 [(6, 237, 0), (0, 3, 0), (11, 0, 0)] φ n sl (x_r φ n sl (0, 0, 0)) := by
  obtain ⟨fS, hs237⟩ := hSc.1
  refine x_f_of rfl ?_
  refine q_load (p2 := 1) rfl rfl rfl rfl ?_
  refine q_const (p2 := 2) rfl rfl ?_
  refine q_load (p2 := 3) rfl rfl rfl rfl ?_
  refine q_getv (p2 := 4) rfl hs237.1 (by decide) hs237.2.2.2.1 rfl ?_
  refine q_const (p2 := 5) rfl rfl ?_
  refine q_aldv (v := (0, 3, 0)) (p2 := 6) rfl (x_sc_246 hSc) (by omega) (by omega) rfl rfl ?_
  refine q_iop (w := 3 * 3) (z := 9) (p2 := 7) rfl (xo_mul 3 3) (by decide) rfl ?_
  refine q_iop (w := 3 + (4294967296 - 9 % 4294967296)) (z := 4294967290) (p2 := 8) rfl (xo_sub 3 9) (by decide) rfl ?_
  refine q_store (p2 := 9) rfl rfl rfl rfl rfl ?_
  refine q_load (p2 := 10) rfl rfl rfl rfl ?_
  refine q_if0 (p2 := 11) rfl (by decide) rfl (fun hb => absurd hb (show ¬ (¬ (2147483642 < 2147483648)) by decide)) (fun _ => ?_)
  refine q_load (p2 := 12) rfl rfl rfl rfl ?_
  refine q_const (p2 := 13) rfl rfl ?_
  refine q_iop (w := 3 % 3) (z := 0) (p2 := 14) rfl (xo_rem (by decide) (by decide) (by decide)) (by decide) rfl ?_
  exact q_retv rfl rfl (⟨rfl, rfl, rfl, rfl, rfl⟩)
theorem e_ruleOwner_4 {d n sl : Nat} {φ : FH} (hSc : x_sch φ) : x_f x_P (d + 1) 65 [(6, 237, 0), (0, 4, 0), (11, 0, 0)] φ n sl (x_r φ n sl (0, 1, 0)) := by
  obtain ⟨fS, hs237⟩ := hSc.1
  refine x_f_of rfl ?_
  refine q_load (p2 := 1) rfl rfl rfl rfl ?_
  refine q_const (p2 := 2) rfl rfl ?_
  refine q_load (p2 := 3) rfl rfl rfl rfl ?_
  refine q_getv (p2 := 4) rfl hs237.1 (by decide) hs237.2.2.2.1 rfl ?_
  refine q_const (p2 := 5) rfl rfl ?_
  refine q_aldv (v := (0, 3, 0)) (p2 := 6) rfl (x_sc_246 hSc) (by omega) (by omega) rfl rfl ?_
  refine q_iop (w := 3 * 3) (z := 9) (p2 := 7) rfl (xo_mul 3 3) (by decide) rfl ?_
  refine q_iop (w := 4 + (4294967296 - 9 % 4294967296)) (z := 4294967291) (p2 := 8) rfl (xo_sub 4 9) (by decide) rfl ?_
  refine q_store (p2 := 9) rfl rfl rfl rfl rfl ?_
  refine q_load (p2 := 10) rfl rfl rfl rfl ?_
  refine q_if0 (p2 := 11) rfl (by decide) rfl (fun hb => absurd hb (show ¬ (¬ (2147483643 < 2147483648)) by decide)) (fun _ => ?_)
  refine q_load (p2 := 12) rfl rfl rfl rfl ?_
  refine q_const (p2 := 13) rfl rfl ?_
  refine q_iop (w := 4 / 3) (z := 1) (p2 := 14) rfl (xo_div (by decide) (by decide) (by decide)) (by decide) rfl ?_
  exact q_retv rfl rfl (⟨rfl, rfl, rfl, rfl, rfl⟩)
theorem e_ruleSort_4 {d n sl : Nat} {φ : FH} (hSc : x_sch φ) : x_f x_P (d + 1) 66 [(6, 237, 0), (0, 4, 0), (11, 0, 0)] φ n sl (x_r φ n sl (0, 1, 0)) := by
  obtain ⟨fS, hs237⟩ := hSc.1
  refine x_f_of rfl ?_
  refine q_load (p2 := 1) rfl rfl rfl rfl ?_
  refine q_const (p2 := 2) rfl rfl ?_
  refine q_load (p2 := 3) rfl rfl rfl rfl ?_
  refine q_getv (p2 := 4) rfl hs237.1 (by decide) hs237.2.2.2.1 rfl ?_
  refine q_const (p2 := 5) rfl rfl ?_
  refine q_aldv (v := (0, 3, 0)) (p2 := 6) rfl (x_sc_246 hSc) (by omega) (by omega) rfl rfl ?_
  refine q_iop (w := 3 * 3) (z := 9) (p2 := 7) rfl (xo_mul 3 3) (by decide) rfl ?_
  refine q_iop (w := 4 + (4294967296 - 9 % 4294967296)) (z := 4294967291) (p2 := 8) rfl (xo_sub 4 9) (by decide) rfl ?_
  refine q_store (p2 := 9) rfl rfl rfl rfl rfl ?_
  refine q_load (p2 := 10) rfl rfl rfl rfl ?_
  refine q_if0 (p2 := 11) rfl (by decide) rfl (fun hb => absurd hb (show ¬ (¬ (2147483643 < 2147483648)) by decide)) (fun _ => ?_)
  refine q_load (p2 := 12) rfl rfl rfl rfl ?_
  refine q_const (p2 := 13) rfl rfl ?_
  refine q_iop (w := 4 % 3) (z := 1) (p2 := 14) rfl (xo_rem (by decide) (by decide) (by decide)) (by decide) rfl ?_
  exact q_retv rfl rfl (⟨rfl, rfl, rfl, rfl, rfl⟩)
theorem e_ruleOwner_5 {d n sl : Nat} {φ : FH} (hSc : x_sch φ) : x_f x_P (d + 1) 65 [(6, 237, 0), (0, 5, 0), (11, 0, 0)] φ n sl (x_r φ n sl (0, 1, 0)) := by
  obtain ⟨fS, hs237⟩ := hSc.1
  refine x_f_of rfl ?_
  refine q_load (p2 := 1) rfl rfl rfl rfl ?_
  refine q_const (p2 := 2) rfl rfl ?_
  refine q_load (p2 := 3) rfl rfl rfl rfl ?_
  refine q_getv (p2 := 4) rfl hs237.1 (by decide) hs237.2.2.2.1 rfl ?_
  refine q_const (p2 := 5) rfl rfl ?_
  refine q_aldv (v := (0, 3, 0)) (p2 := 6) rfl (x_sc_246 hSc) (by omega) (by omega) rfl rfl ?_
  refine q_iop (w := 3 * 3) (z := 9) (p2 := 7) rfl (xo_mul 3 3) (by decide) rfl ?_
  refine q_iop (w := 5 + (4294967296 - 9 % 4294967296)) (z := 4294967292) (p2 := 8) rfl (xo_sub 5 9) (by decide) rfl ?_
  refine q_store (p2 := 9) rfl rfl rfl rfl rfl ?_
  refine q_load (p2 := 10) rfl rfl rfl rfl ?_
  refine q_if0 (p2 := 11) rfl (by decide) rfl (fun hb => absurd hb (show ¬ (¬ (2147483644 < 2147483648)) by decide)) (fun _ => ?_)
  refine q_load (p2 := 12) rfl rfl rfl rfl ?_
  refine q_const (p2 := 13) rfl rfl ?_
  refine q_iop (w := 5 / 3) (z := 1) (p2 := 14) rfl (xo_div (by decide) (by decide) (by decide)) (by decide) rfl ?_
  exact q_retv rfl rfl (⟨rfl, rfl, rfl, rfl, rfl⟩)
theorem e_ruleSort_5 {d n sl : Nat} {φ : FH} (hSc : x_sch φ) : x_f x_P (d + 1) 66 [(6, 237, 0), (0, 5, 0), (11, 0, 0)] φ n sl (x_r φ n sl (0, 2, 0)) := by
  obtain ⟨fS, hs237⟩ := hSc.1
  refine x_f_of rfl ?_
  refine q_load (p2 := 1) rfl rfl rfl rfl ?_
  refine q_const (p2 := 2) rfl rfl ?_
  refine q_load (p2 := 3) rfl rfl rfl rfl ?_
  refine q_getv (p2 := 4) rfl hs237.1 (by decide) hs237.2.2.2.1 rfl ?_
  refine q_const (p2 := 5) rfl rfl ?_
  refine q_aldv (v := (0, 3, 0)) (p2 := 6) rfl (x_sc_246 hSc) (by omega) (by omega) rfl rfl ?_
  refine q_iop (w := 3 * 3) (z := 9) (p2 := 7) rfl (xo_mul 3 3) (by decide) rfl ?_
  refine q_iop (w := 5 + (4294967296 - 9 % 4294967296)) (z := 4294967292) (p2 := 8) rfl (xo_sub 5 9) (by decide) rfl ?_
  refine q_store (p2 := 9) rfl rfl rfl rfl rfl ?_
  refine q_load (p2 := 10) rfl rfl rfl rfl ?_
  refine q_if0 (p2 := 11) rfl (by decide) rfl (fun hb => absurd hb (show ¬ (¬ (2147483644 < 2147483648)) by decide)) (fun _ => ?_)
  refine q_load (p2 := 12) rfl rfl rfl rfl ?_
  refine q_const (p2 := 13) rfl rfl ?_
  refine q_iop (w := 5 % 3) (z := 2) (p2 := 14) rfl (xo_rem (by decide) (by decide) (by decide)) (by decide) rfl ?_
  exact q_retv rfl rfl (⟨rfl, rfl, rfl, rfl, rfl⟩)
theorem e_ruleOwner_6 {d n sl : Nat} {φ : FH} (hSc : x_sch φ) : x_f x_P (d + 1) 65 [(6, 237, 0), (0, 6, 0), (11, 0, 0)] φ n sl (x_r φ n sl (0, 2, 0)) := by
  obtain ⟨fS, hs237⟩ := hSc.1
  refine x_f_of rfl ?_
  refine q_load (p2 := 1) rfl rfl rfl rfl ?_
  refine q_const (p2 := 2) rfl rfl ?_
  refine q_load (p2 := 3) rfl rfl rfl rfl ?_
  refine q_getv (p2 := 4) rfl hs237.1 (by decide) hs237.2.2.2.1 rfl ?_
  refine q_const (p2 := 5) rfl rfl ?_
  refine q_aldv (v := (0, 3, 0)) (p2 := 6) rfl (x_sc_246 hSc) (by omega) (by omega) rfl rfl ?_
  refine q_iop (w := 3 * 3) (z := 9) (p2 := 7) rfl (xo_mul 3 3) (by decide) rfl ?_
  refine q_iop (w := 6 + (4294967296 - 9 % 4294967296)) (z := 4294967293) (p2 := 8) rfl (xo_sub 6 9) (by decide) rfl ?_
  refine q_store (p2 := 9) rfl rfl rfl rfl rfl ?_
  refine q_load (p2 := 10) rfl rfl rfl rfl ?_
  refine q_if0 (p2 := 11) rfl (by decide) rfl (fun hb => absurd hb (show ¬ (¬ (2147483645 < 2147483648)) by decide)) (fun _ => ?_)
  refine q_load (p2 := 12) rfl rfl rfl rfl ?_
  refine q_const (p2 := 13) rfl rfl ?_
  refine q_iop (w := 6 / 3) (z := 2) (p2 := 14) rfl (xo_div (by decide) (by decide) (by decide)) (by decide) rfl ?_
  exact q_retv rfl rfl (⟨rfl, rfl, rfl, rfl, rfl⟩)
theorem e_ruleSort_6 {d n sl : Nat} {φ : FH} (hSc : x_sch φ) : x_f x_P (d + 1) 66 [(6, 237, 0), (0, 6, 0), (11, 0, 0)] φ n sl (x_r φ n sl (0, 0, 0)) := by
  obtain ⟨fS, hs237⟩ := hSc.1
  refine x_f_of rfl ?_
  refine q_load (p2 := 1) rfl rfl rfl rfl ?_
  refine q_const (p2 := 2) rfl rfl ?_
  refine q_load (p2 := 3) rfl rfl rfl rfl ?_
  refine q_getv (p2 := 4) rfl hs237.1 (by decide) hs237.2.2.2.1 rfl ?_
  refine q_const (p2 := 5) rfl rfl ?_
  refine q_aldv (v := (0, 3, 0)) (p2 := 6) rfl (x_sc_246 hSc) (by omega) (by omega) rfl rfl ?_
  refine q_iop (w := 3 * 3) (z := 9) (p2 := 7) rfl (xo_mul 3 3) (by decide) rfl ?_
  refine q_iop (w := 6 + (4294967296 - 9 % 4294967296)) (z := 4294967293) (p2 := 8) rfl (xo_sub 6 9) (by decide) rfl ?_
  refine q_store (p2 := 9) rfl rfl rfl rfl rfl ?_
  refine q_load (p2 := 10) rfl rfl rfl rfl ?_
  refine q_if0 (p2 := 11) rfl (by decide) rfl (fun hb => absurd hb (show ¬ (¬ (2147483645 < 2147483648)) by decide)) (fun _ => ?_)
  refine q_load (p2 := 12) rfl rfl rfl rfl ?_
  refine q_const (p2 := 13) rfl rfl ?_
  refine q_iop (w := 6 % 3) (z := 0) (p2 := 14) rfl (xo_rem (by decide) (by decide) (by decide)) (by decide) rfl ?_
  exact q_retv rfl rfl (⟨rfl, rfl, rfl, rfl, rfl⟩)
theorem e_ruleOwner_7 {d n sl : Nat} {φ : FH} (hSc : x_sch φ) : x_f x_P (d + 1) 65 [(6, 237, 0), (0, 7, 0), (11, 0, 0)] φ n sl (x_r φ n sl (0, 2, 0)) := by
  obtain ⟨fS, hs237⟩ := hSc.1
  refine x_f_of rfl ?_
  refine q_load (p2 := 1) rfl rfl rfl rfl ?_
  refine q_const (p2 := 2) rfl rfl ?_
  refine q_load (p2 := 3) rfl rfl rfl rfl ?_
  refine q_getv (p2 := 4) rfl hs237.1 (by decide) hs237.2.2.2.1 rfl ?_
  refine q_const (p2 := 5) rfl rfl ?_
  refine q_aldv (v := (0, 3, 0)) (p2 := 6) rfl (x_sc_246 hSc) (by omega) (by omega) rfl rfl ?_
  refine q_iop (w := 3 * 3) (z := 9) (p2 := 7) rfl (xo_mul 3 3) (by decide) rfl ?_
  refine q_iop (w := 7 + (4294967296 - 9 % 4294967296)) (z := 4294967294) (p2 := 8) rfl (xo_sub 7 9) (by decide) rfl ?_
  refine q_store (p2 := 9) rfl rfl rfl rfl rfl ?_
  refine q_load (p2 := 10) rfl rfl rfl rfl ?_
  refine q_if0 (p2 := 11) rfl (by decide) rfl (fun hb => absurd hb (show ¬ (¬ (2147483646 < 2147483648)) by decide)) (fun _ => ?_)
  refine q_load (p2 := 12) rfl rfl rfl rfl ?_
  refine q_const (p2 := 13) rfl rfl ?_
  refine q_iop (w := 7 / 3) (z := 2) (p2 := 14) rfl (xo_div (by decide) (by decide) (by decide)) (by decide) rfl ?_
  exact q_retv rfl rfl (⟨rfl, rfl, rfl, rfl, rfl⟩)
theorem e_ruleSort_7 {d n sl : Nat} {φ : FH} (hSc : x_sch φ) : x_f x_P (d + 1) 66 [(6, 237, 0), (0, 7, 0), (11, 0, 0)] φ n sl (x_r φ n sl (0, 1, 0)) := by
  obtain ⟨fS, hs237⟩ := hSc.1
  refine x_f_of rfl ?_
  refine q_load (p2 := 1) rfl rfl rfl rfl ?_
  refine q_const (p2 := 2) rfl rfl ?_
  refine q_load (p2 := 3) rfl rfl rfl rfl ?_
  refine q_getv (p2 := 4) rfl hs237.1 (by decide) hs237.2.2.2.1 rfl ?_
  refine q_const (p2 := 5) rfl rfl ?_
  refine q_aldv (v := (0, 3, 0)) (p2 := 6) rfl (x_sc_246 hSc) (by omega) (by omega) rfl rfl ?_
  refine q_iop (w := 3 * 3) (z := 9) (p2 := 7) rfl (xo_mul 3 3) (by decide) rfl ?_
  refine q_iop (w := 7 + (4294967296 - 9 % 4294967296)) (z := 4294967294) (p2 := 8) rfl (xo_sub 7 9) (by decide) rfl ?_
  refine q_store (p2 := 9) rfl rfl rfl rfl rfl ?_
  refine q_load (p2 := 10) rfl rfl rfl rfl ?_
  refine q_if0 (p2 := 11) rfl (by decide) rfl (fun hb => absurd hb (show ¬ (¬ (2147483646 < 2147483648)) by decide)) (fun _ => ?_)
  refine q_load (p2 := 12) rfl rfl rfl rfl ?_
  refine q_const (p2 := 13) rfl rfl ?_
  refine q_iop (w := 7 % 3) (z := 1) (p2 := 14) rfl (xo_rem (by decide) (by decide) (by decide)) (by decide) rfl ?_
  exact q_retv rfl rfl (⟨rfl, rfl, rfl, rfl, rfl⟩)
theorem e_ruleOwner_8 {d n sl : Nat} {φ : FH} (hSc : x_sch φ) : x_f x_P (d + 1) 65 [(6, 237, 0), (0, 8, 0), (11, 0, 0)] φ n sl (x_r φ n sl (0, 2, 0)) := by
  obtain ⟨fS, hs237⟩ := hSc.1
  refine x_f_of rfl ?_
  refine q_load (p2 := 1) rfl rfl rfl rfl ?_
  refine q_const (p2 := 2) rfl rfl ?_
  refine q_load (p2 := 3) rfl rfl rfl rfl ?_
  refine q_getv (p2 := 4) rfl hs237.1 (by decide) hs237.2.2.2.1 rfl ?_
  refine q_const (p2 := 5) rfl rfl ?_
  refine q_aldv (v := (0, 3, 0)) (p2 := 6) rfl (x_sc_246 hSc) (by omega) (by omega) rfl rfl ?_
  refine q_iop (w := 3 * 3) (z := 9) (p2 := 7) rfl (xo_mul 3 3) (by decide) rfl ?_
  refine q_iop (w := 8 + (4294967296 - 9 % 4294967296)) (z := 4294967295) (p2 := 8) rfl (xo_sub 8 9) (by decide) rfl ?_
  refine q_store (p2 := 9) rfl rfl rfl rfl rfl ?_
  refine q_load (p2 := 10) rfl rfl rfl rfl ?_
  refine q_if0 (p2 := 11) rfl (by decide) rfl (fun hb => absurd hb (show ¬ (¬ (2147483647 < 2147483648)) by decide)) (fun _ => ?_)
  refine q_load (p2 := 12) rfl rfl rfl rfl ?_
  refine q_const (p2 := 13) rfl rfl ?_
  refine q_iop (w := 8 / 3) (z := 2) (p2 := 14) rfl (xo_div (by decide) (by decide) (by decide)) (by decide) rfl ?_
  exact q_retv rfl rfl (⟨rfl, rfl, rfl, rfl, rfl⟩)
theorem e_ruleSort_8 {d n sl : Nat} {φ : FH} (hSc : x_sch φ) : x_f x_P (d + 1) 66 [(6, 237, 0), (0, 8, 0), (11, 0, 0)] φ n sl (x_r φ n sl (0, 2, 0)) := by
  obtain ⟨fS, hs237⟩ := hSc.1
  refine x_f_of rfl ?_
  refine q_load (p2 := 1) rfl rfl rfl rfl ?_
  refine q_const (p2 := 2) rfl rfl ?_
  refine q_load (p2 := 3) rfl rfl rfl rfl ?_
  refine q_getv (p2 := 4) rfl hs237.1 (by decide) hs237.2.2.2.1 rfl ?_
  refine q_const (p2 := 5) rfl rfl ?_
  refine q_aldv (v := (0, 3, 0)) (p2 := 6) rfl (x_sc_246 hSc) (by omega) (by omega) rfl rfl ?_
  refine q_iop (w := 3 * 3) (z := 9) (p2 := 7) rfl (xo_mul 3 3) (by decide) rfl ?_
  refine q_iop (w := 8 + (4294967296 - 9 % 4294967296)) (z := 4294967295) (p2 := 8) rfl (xo_sub 8 9) (by decide) rfl ?_
  refine q_store (p2 := 9) rfl rfl rfl rfl rfl ?_
  refine q_load (p2 := 10) rfl rfl rfl rfl ?_
  refine q_if0 (p2 := 11) rfl (by decide) rfl (fun hb => absurd hb (show ¬ (¬ (2147483647 < 2147483648)) by decide)) (fun _ => ?_)
  refine q_load (p2 := 12) rfl rfl rfl rfl ?_
  refine q_const (p2 := 13) rfl rfl ?_
  refine q_iop (w := 8 % 3) (z := 2) (p2 := 14) rfl (xo_rem (by decide) (by decide) (by decide)) (by decide) rfl ?_
  exact q_retv rfl rfl (⟨rfl, rfl, rfl, rfl, rfl⟩)
theorem e_slotAt {d n sl : Nat} {φ : FH} {top fr pc_ sp mm mi : Nat} {fM : Nat → XV} (hMc : x_mcf φ top (fr + 1) pc_ sp mm mi fM) {s_ : Nat} (hs : s_ < 32) (hf8 : fr < 8) : x_f x_P (d + 1) 182 [(6, 455, 0), (0, s_, 0)] φ n sl (x_r φ n sl (0, fr * 32 + s_, 0)) := by
  refine x_f_of rfl ?_
  refine q_load (p2 := 1) rfl rfl rfl rfl ?_
  refine q_getv (p2 := 2) rfl hMc.1 (by decide) hMc.2.2.2.2.2.2.2.2.2.2.2.1 rfl ?_
  refine q_if0_s (p2 := 3) rfl (by decide) (by first | omega | (rw [show fr + 1 - 1 = fr from rfl]; omega)) rfl (fun hb => absurd hb (show ¬ (¬ (0 < (fr + 1))) by first | omega | (rw [show fr + 1 - 1 = fr from rfl]; omega))) (fun _ => ?_)
  refine q_load (p2 := 4) rfl rfl rfl rfl ?_
  refine q_if0_s (p2 := 5) rfl (by decide) (by first | omega | (rw [show fr + 1 - 1 = fr from rfl]; omega)) rfl (fun hb => absurd hb (show ¬ (s_ < 0) by first | omega | (rw [show fr + 1 - 1 = fr from rfl]; omega))) (fun _ => ?_)
  refine q_load (p2 := 6) rfl rfl rfl rfl ?_
  refine q_const (p2 := 7) rfl rfl ?_
  refine q_icmp_s (p2 := 8) rfl (by decide) (by first | omega | (rw [show fr + 1 - 1 = fr from rfl]; omega)) (by first | omega | (rw [show fr + 1 - 1 = fr from rfl]; omega)) rfl (fun hb => absurd hb (show ¬ (¬ (s_ < 32)) by first | omega | (rw [show fr + 1 - 1 = fr from rfl]; omega))) (fun _ => ?_)
  refine q_load (p2 := 9) rfl rfl rfl rfl ?_
  refine q_getv (p2 := 10) rfl hMc.1 (by decide) hMc.2.2.2.2.2.2.2.2.2.2.2.1 rfl ?_
  refine q_const (p2 := 11) rfl rfl ?_
  refine q_isub (p2 := 12) rfl (by first | omega | (rw [show fr + 1 - 1 = fr from rfl]; omega)) (by first | omega | (rw [show fr + 1 - 1 = fr from rfl]; omega)) rfl ?_
  refine q_const (p2 := 13) rfl rfl ?_
  refine q_imul (p2 := 14) rfl (by first | omega | (rw [show fr + 1 - 1 = fr from rfl]; omega)) rfl ?_
  refine q_load (p2 := 15) rfl rfl rfl rfl ?_
  refine q_iadd (p2 := 16) rfl (by first | omega | (rw [show fr + 1 - 1 = fr from rfl]; omega)) rfl ?_
  refine q_goto rfl ?_
  exact q_retv rfl rfl (⟨rfl, by rw [show fr + 1 - 1 = fr from rfl], rfl, rfl, rfl⟩)
theorem e_below {d n sl : Nat} {φ : FH} {top fr pc_ sp mm mi : Nat} {fM : Nat → XV} (hMc : x_mcf φ top fr pc_ sp mm mi fM) {st : Nat → Nat} (hSt : x_vrow φ 456 4096 st) {k : Nat} (hk : k < top) (ht : top ≤ 4096) : x_f x_P (d + 1) 250 [(6, 455, 0), (0, k, 0), (11, 0, 0)] φ n sl (x_r φ n sl (6, st (top - 1 - k), 0)) := by
  refine x_f_of rfl ?_
  refine q_load (p2 := 1) rfl rfl rfl rfl ?_
  refine q_getv (p2 := 2) rfl hMc.1 (by decide) hMc.2.2.2.2.2.1 rfl ?_
  refine q_const (p2 := 3) rfl rfl ?_
  refine q_isub (p2 := 4) rfl (by omega) (by omega) rfl ?_
  refine q_load (p2 := 5) rfl rfl rfl rfl ?_
  refine q_isub (p2 := 6) rfl (by omega) (by omega) rfl ?_
  refine q_store (p2 := 7) rfl rfl rfl rfl rfl ?_
  refine q_load (p2 := 8) rfl rfl rfl rfl ?_
  refine q_if0_s (p2 := 9) rfl (by decide) (by omega) rfl (fun hb => absurd hb (show ¬ (((top - 1) - k) < 0) by omega)) (fun _ => ?_)
  refine q_load (p2 := 10) rfl rfl rfl rfl ?_
  refine q_load (p2 := 11) rfl rfl rfl rfl ?_
  refine q_getv (p2 := 12) rfl hMc.1 (by decide) hMc.2.2.2.2.1 rfl ?_
  refine q_alen (p2 := 13) rfl hSt rfl (by omega) rfl ?_
  refine q_icmp_s (p2 := 14) rfl (by decide) (by omega) (by omega) rfl (fun hb => absurd hb (show ¬ (¬ (((top - 1) - k) < 4096)) by omega)) (fun _ => ?_)
  refine q_load (p2 := 15) rfl rfl rfl rfl ?_
  refine q_getv (p2 := 16) rfl hMc.1 (by decide) hMc.2.2.2.2.1 rfl ?_
  refine q_load (p2 := 17) rfl rfl rfl rfl ?_
  refine q_aldv (v := (6, (st ((top - 1) - k)), 0)) (p2 := 18) rfl hSt (by omega) (by omega) rfl rfl ?_
  refine q_goto rfl ?_
  exact q_retv rfl rfl (⟨rfl, rfl, rfl, rfl, rfl⟩)
theorem e_discard {d n sl : Nat} {φ : FH} {A B made sv svm st : Nat} {fP : Nat → XV} (hP : x_pop φ A B made sv svm st fP) : x_f x_P (d + 1) 77 [(6, 7, 0), (11, 0, 0)] φ n sl (x_rR (0, sv, 0) n sl (fun φ2 => (∃ f, x_pop φ2 A B made 0 svm st f) ∧ ∀ j, j ≠ 7 → φ2 j = φ j)) := by
  refine x_f_of rfl ?_
  refine q_load (p2 := 1) rfl rfl rfl rfl ?_
  refine q_getv (p2 := 2) rfl hP.1 (by decide) hP.2.2.2.2.2.2.1 rfl ?_
  refine q_store (p2 := 3) rfl rfl rfl rfl rfl ?_
  refine q_load (p2 := 4) rfl rfl rfl rfl ?_
  refine q_const (p2 := 5) rfl rfl ?_
  refine q_putfE (p2 := 6) rfl hP.1 (by decide) rfl rfl (fun φ1 f1 hh1 hg1 ho1 fr1 => ?_)
  refine q_load (p2 := 7) rfl rfl rfl rfl ?_
  exact q_retv rfl (x_fit_b hP.2.2.2.2.2.2.2.2.2.2.2.2.2.2.2.1) (⟨rfl, rfl, rfl, rfl, ⟨_, hh1, ((ho1 0 (by decide)).trans hP.2.1), ((ho1 1 (by decide)).trans hP.2.2.1), ((ho1 2 (by decide)).trans hP.2.2.2.1), ((ho1 3 (by decide)).trans hP.2.2.2.2.1), ((ho1 4 (by decide)).trans hP.2.2.2.2.2.1), hg1, ((ho1 6 (by decide)).trans hP.2.2.2.2.2.2.2.1), ((ho1 7 (by decide)).trans hP.2.2.2.2.2.2.2.2.1), ((ho1 8 (by decide)).trans hP.2.2.2.2.2.2.2.2.2.1), ((ho1 9 (by decide)).trans hP.2.2.2.2.2.2.2.2.2.2.1), ((ho1 10 (by decide)).trans hP.2.2.2.2.2.2.2.2.2.2.2.1), ((ho1 11 (by decide)).trans hP.2.2.2.2.2.2.2.2.2.2.2.2.1), hP.2.2.2.2.2.2.2.2.2.2.2.2.2.1, hP.2.2.2.2.2.2.2.2.2.2.2.2.2.2.1, Nat.zero_le 1, hP.2.2.2.2.2.2.2.2.2.2.2.2.2.2.2.2⟩, fun j h7 => ((fr1 j h7).trans rfl)⟩)
theorem e_codeOfAccess {d n sl : Nat} {φ : FH} (hSc : x_sch φ) {co : Nat → Nat} (hCo : x_irow φ 450 12288 co) {a : Nat} : x_f x_P (d + 1) 62 [(6, 237, 0), (0, a, 0)] φ n sl (x_rR (0, 60, 0) n sl (fun φ2 => x_irow φ2 450 12288 (fun i => if i = 63 then 31 else if i = 62 then a else if i = 61 then 11 else if i = 60 then 9 else co i) ∧ ∀ j, j ≠ 450 → φ2 j = φ j)) := by
  obtain ⟨fS, hs237⟩ := hSc.1
  refine x_f_of rfl ?_
  refine q_load (p2 := 1) rfl rfl rfl rfl ?_
  refine q_getv (p2 := 2) rfl hs237.1 (by decide) hs237.2.2.2.2.2.2.2.2.2.2.2.2.2.2.1 rfl ?_
  refine q_const (p2 := 3) rfl rfl ?_
  refine q_iop (w := 60 + 4) (z := 64) (p2 := 4) rfl (xo_add 60 4) (by decide) rfl ?_
  refine q_load (p2 := 5) rfl rfl rfl rfl ?_
  refine q_getv (p2 := 6) rfl hs237.1 (by decide) hs237.2.2.2.2.2.2.2.2.2.2.2.2.2.1 rfl ?_
  refine q_alen (p2 := 7) rfl hCo rfl (by omega) rfl ?_
  refine q_icmp_s (p2 := 8) rfl (by decide) (by omega) (by omega) rfl (fun hb => absurd hb (show ¬ (12288 < 64) by omega)) (fun _ => ?_)
  refine q_load (p2 := 9) rfl rfl rfl rfl ?_
  refine q_getv (p2 := 10) rfl hs237.1 (by decide) hs237.2.2.2.2.2.2.2.2.2.2.2.2.2.1 rfl ?_
  refine q_load (p2 := 11) rfl rfl rfl rfl ?_
  refine q_getv (p2 := 12) rfl hs237.1 (by decide) hs237.2.2.2.2.2.2.2.2.2.2.2.2.2.2.1 rfl ?_
  refine q_const (p2 := 13) rfl rfl ?_
  refine q_astE (p2 := 14) rfl hCo (by omega) (by omega) (x_ok_0 rfl) (x_nv_same rfl (by decide)) rfl (fun φ1 f1 hh1 hg1 ho1 fr1 => ?_)
  have hA1 := x_irow_upd hh1 hg1 ho1
  refine q_load (p2 := 15) rfl rfl rfl rfl ?_
  refine q_getv (p2 := 16) rfl ((fr1 237 (by omega)).trans hs237.1) (by decide) hs237.2.2.2.2.2.2.2.2.2.2.2.2.2.1 rfl ?_
  refine q_load (p2 := 17) rfl rfl rfl rfl ?_
  refine q_getv (p2 := 18) rfl ((fr1 237 (by omega)).trans hs237.1) (by decide) hs237.2.2.2.2.2.2.2.2.2.2.2.2.2.2.1 rfl ?_
  refine q_const (p2 := 19) rfl rfl ?_
  refine q_iop (w := 60 + 1) (z := 61) (p2 := 20) rfl (xo_add 60 1) (by decide) rfl ?_
  refine q_const (p2 := 21) rfl rfl ?_
  refine q_astE (p2 := 22) rfl hA1 (by omega) (by omega) (x_ok_0 rfl) (x_nv_same rfl (by decide)) rfl (fun φ2 f2 hh2 hg2 ho2 fr2 => ?_)
  have hA2 := x_irow_upd hh2 hg2 ho2
  refine q_load (p2 := 23) rfl rfl rfl rfl ?_
  refine q_getv (p2 := 24) rfl ((fr2 237 (by omega)).trans ((fr1 237 (by omega)).trans hs237.1)) (by decide) hs237.2.2.2.2.2.2.2.2.2.2.2.2.2.1 rfl ?_
  refine q_load (p2 := 25) rfl rfl rfl rfl ?_
  refine q_getv (p2 := 26) rfl ((fr2 237 (by omega)).trans ((fr1 237 (by omega)).trans hs237.1)) (by decide) hs237.2.2.2.2.2.2.2.2.2.2.2.2.2.2.1 rfl ?_
  refine q_const (p2 := 27) rfl rfl ?_
  refine q_iop (w := 60 + 2) (z := 62) (p2 := 28) rfl (xo_add 60 2) (by decide) rfl ?_
  refine q_load (p2 := 29) rfl rfl rfl rfl ?_
  refine q_astE (p2 := 30) rfl hA2 (by omega) (by omega) (x_ok_0 rfl) (x_nv_same rfl (by decide)) rfl (fun φ3 f3 hh3 hg3 ho3 fr3 => ?_)
  have hA3 := x_irow_upd hh3 hg3 ho3
  refine q_load (p2 := 31) rfl rfl rfl rfl ?_
  refine q_getv (p2 := 32) rfl ((fr3 237 (by omega)).trans ((fr2 237 (by omega)).trans ((fr1 237 (by omega)).trans hs237.1))) (by decide) hs237.2.2.2.2.2.2.2.2.2.2.2.2.2.1 rfl ?_
  refine q_load (p2 := 33) rfl rfl rfl rfl ?_
  refine q_getv (p2 := 34) rfl ((fr3 237 (by omega)).trans ((fr2 237 (by omega)).trans ((fr1 237 (by omega)).trans hs237.1))) (by decide) hs237.2.2.2.2.2.2.2.2.2.2.2.2.2.2.1 rfl ?_
  refine q_const (p2 := 35) rfl rfl ?_
  refine q_iop (w := 60 + 3) (z := 63) (p2 := 36) rfl (xo_add 60 3) (by decide) rfl ?_
  refine q_const (p2 := 37) rfl rfl ?_
  refine q_astE (p2 := 38) rfl hA3 (by omega) (by omega) (x_ok_0 rfl) (x_nv_same rfl (by decide)) rfl (fun φ4 f4 hh4 hg4 ho4 fr4 => ?_)
  have hA4 := x_irow_upd hh4 hg4 ho4
  refine q_load (p2 := 39) rfl rfl rfl rfl ?_
  refine q_getv (p2 := 40) rfl ((fr4 237 (by omega)).trans ((fr3 237 (by omega)).trans ((fr2 237 (by omega)).trans ((fr1 237 (by omega)).trans hs237.1)))) (by decide) hs237.2.2.2.2.2.2.2.2.2.2.2.2.2.2.1 rfl ?_
  exact q_retv rfl rfl (⟨rfl, rfl, rfl, rfl, hA4, fun j h5 => ((fr4 j h5).trans ((fr3 j h5).trans ((fr2 j h5).trans ((fr1 j h5).trans rfl))))⟩)
end FPOP24
