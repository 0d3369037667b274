section FPOP12
/-- whose attribute it is -/
def x_ent (a : Nat) : Nat := ([0, 0, 0, 1, 2] : List Nat).getD a 0
abbrev x_isA (made : Nat) (comb : Nat → Nat) (x e : Nat) : Prop := (x < made ∧ comb x ≠ 0) ∧ comb x >>> e &&& 1 = 1
theorem e_has_0 {d n sl : Nat} {φ : FH} {A B made sv svm st : Nat} {fP : Nat → XV} (hP : x_pop φ A B made sv svm st fP) {comb : Nat → Nat} (hC : x_comb φ 226 comb) (hSc : x_sch φ) {x : Nat} (hx : x < 2147483648) : x_f x_P (d + 3) 53 [(6, 7, 0), (0, x, 0), (0, 0, 0)] φ n sl (x_r φ n sl (0, if x_isA made comb x 0 then 1 else 0, 0)) := by
  obtain ⟨fS, hs237⟩ := hSc.1
  refine x_f_of rfl ?_
  refine q_load (p2 := 1) rfl rfl rfl rfl ?_
  refine q_if0_s (p2 := 2) rfl (by decide) (by omega) rfl (fun hb => absurd hb (show ¬ (0 < 0) by omega)) (fun _ => ?_)
  refine q_load (p2 := 3) rfl rfl rfl rfl ?_
  refine q_load (p2 := 4) rfl rfl rfl rfl ?_
  refine q_getv (p2 := 5) rfl hP.1 (by decide) hP.2.1 rfl ?_
  refine q_getv (p2 := 6) rfl hs237.1 (by decide) hs237.2.2.2.1 rfl ?_
  refine q_const (p2 := 7) rfl rfl ?_
  refine q_aldv (v := (0, 5, 0)) (p2 := 8) rfl (x_sc_246 hSc) (by omega) (by omega) rfl rfl ?_
  refine q_icmp_s (p2 := 9) rfl (by decide) (by omega) (by omega) rfl (fun hb => absurd hb (show ¬ (¬ (0 < 5)) by omega)) (fun _ => ?_)
  refine q_load (p2 := 10) rfl rfl rfl rfl ?_
  refine q_load (p2 := 11) rfl rfl rfl rfl ?_
  refine q_load (p2 := 12) rfl rfl rfl rfl ?_
  refine q_getv (p2 := 13) rfl hP.1 (by decide) hP.2.1 rfl ?_
  refine q_getv (p2 := 14) rfl hs237.1 (by decide) hs237.2.2.2.2.2.2.2.2.1 rfl ?_
  refine q_load (p2 := 15) rfl rfl rfl rfl ?_
  refine q_aldv (v := (6, 272, 0)) (p2 := 16) rfl (x_sc_271 hSc) (by omega) (by omega) rfl rfl ?_
  refine q_const (p2 := 17) rfl rfl ?_
  refine q_aldv (v := (0, 0, 0)) (p2 := 18) rfl (x_sc_272 hSc) (by omega) (by omega) rfl rfl ?_
  refine q_callr (xs := [(0, 0, 0), (0, x, 0), (6, 7, 0)]) (p2 := 19) rfl rfl rfl rfl (x_rcv_s 7 hP.1) rfl (e_isA hP hC (x := x) (e := 0) (by omega) (by omega)) (Nat.le_refl _) (Nat.le_refl _) rfl ?_
  by_cases hb1 : x_isA made comb x 0
  · rw [if_pos hb1]
    refine q_if0_s (p2 := 20) rfl (by decide) (by omega) rfl (fun hb => absurd hb (show ¬ (1 = 0) by omega)) (fun _ => ?_)
    refine q_const (p2 := 21) rfl rfl ?_
    refine q_goto rfl ?_
    exact q_retv rfl rfl (⟨rfl, rfl, rfl, rfl, rfl⟩)
  · rw [if_neg hb1]
    refine q_if0_s (p2 := 20) rfl (by decide) (by omega) rfl (fun _ => ?_) (fun hb => absurd (show 0 = 0 by omega) hb)
    refine q_const (p2 := 23) rfl rfl ?_
    exact q_retv rfl rfl (⟨rfl, rfl, rfl, rfl, rfl⟩)
theorem e_has_1 {d n sl : Nat} {φ : FH} {A B made sv svm st : Nat} {fP : Nat → XV} (hP : x_pop φ A B made sv svm st fP) {comb : Nat → Nat} (hC : x_comb φ 226 comb) (hSc : x_sch φ) {x : Nat} (hx : x < 2147483648) : x_f x_P (d + 3) 53 [(6, 7, 0), (0, x, 0), (0, 1, 0)] φ n sl (x_r φ n sl (0, if x_isA made comb x 0 then 1 else 0, 0)) := by
  obtain ⟨fS, hs237⟩ := hSc.1
  refine x_f_of rfl ?_
  refine q_load (p2 := 1) rfl rfl rfl rfl ?_
  refine q_if0_s (p2 := 2) rfl (by decide) (by omega) rfl (fun hb => absurd hb (show ¬ (1 < 0) by omega)) (fun _ => ?_)
  refine q_load (p2 := 3) rfl rfl rfl rfl ?_
  refine q_load (p2 := 4) rfl rfl rfl rfl ?_
  refine q_getv (p2 := 5) rfl hP.1 (by decide) hP.2.1 rfl ?_
  refine q_getv (p2 := 6) rfl hs237.1 (by decide) hs237.2.2.2.1 rfl ?_
  refine q_const (p2 := 7) rfl rfl ?_
  refine q_aldv (v := (0, 5, 0)) (p2 := 8) rfl (x_sc_246 hSc) (by omega) (by omega) rfl rfl ?_
  refine q_icmp_s (p2 := 9) rfl (by decide) (by omega) (by omega) rfl (fun hb => absurd hb (show ¬ (¬ (1 < 5)) by omega)) (fun _ => ?_)
  refine q_load (p2 := 10) rfl rfl rfl rfl ?_
  refine q_load (p2 := 11) rfl rfl rfl rfl ?_
  refine q_load (p2 := 12) rfl rfl rfl rfl ?_
  refine q_getv (p2 := 13) rfl hP.1 (by decide) hP.2.1 rfl ?_
  refine q_getv (p2 := 14) rfl hs237.1 (by decide) hs237.2.2.2.2.2.2.2.2.1 rfl ?_
  refine q_load (p2 := 15) rfl rfl rfl rfl ?_
  refine q_aldv (v := (6, 273, 0)) (p2 := 16) rfl (x_sc_271 hSc) (by omega) (by omega) rfl rfl ?_
  refine q_const (p2 := 17) rfl rfl ?_
  refine q_aldv (v := (0, 0, 0)) (p2 := 18) rfl (x_sc_273 hSc) (by omega) (by omega) rfl rfl ?_
  refine q_callr (xs := [(0, 0, 0), (0, x, 0), (6, 7, 0)]) (p2 := 19) rfl rfl rfl rfl (x_rcv_s 7 hP.1) rfl (e_isA hP hC (x := x) (e := 0) (by omega) (by omega)) (Nat.le_refl _) (Nat.le_refl _) rfl ?_
  by_cases hb1 : x_isA made comb x 0
  · rw [if_pos hb1]
    refine q_if0_s (p2 := 20) rfl (by decide) (by omega) rfl (fun hb => absurd hb (show ¬ (1 = 0) by omega)) (fun _ => ?_)
    refine q_const (p2 := 21) rfl rfl ?_
    refine q_goto rfl ?_
    exact q_retv rfl rfl (⟨rfl, rfl, rfl, rfl, rfl⟩)
  · rw [if_neg hb1]
    refine q_if0_s (p2 := 20) rfl (by decide) (by omega) rfl (fun _ => ?_) (fun hb => absurd (show 0 = 0 by omega) hb)
    refine q_const (p2 := 23) rfl rfl ?_
    exact q_retv rfl rfl (⟨rfl, rfl, rfl, rfl, rfl⟩)
theorem e_has_2 {d n sl : Nat} {φ : FH} {A B made sv svm st : Nat} {fP : Nat → XV} (hP : x_pop φ A B made sv svm st fP) {comb : Nat → Nat} (hC : x_comb φ 226 comb) (hSc : x_sch φ) {x : Nat} (hx : x < 2147483648) : x_f x_P (d + 3) 53 [(6, 7, 0), (0, x, 0), (0, 2, 0)] φ n sl (x_r φ n sl (0, if x_isA made comb x 0 then 1 else 0, 0)) := by
  obtain ⟨fS, hs237⟩ := hSc.1
  refine x_f_of rfl ?_
  refine q_load (p2 := 1) rfl rfl rfl rfl ?_
  refine q_if0_s (p2 := 2) rfl (by decide) (by omega) rfl (fun hb => absurd hb (show ¬ (2 < 0) by omega)) (fun _ => ?_)
  refine q_load (p2 := 3) rfl rfl rfl rfl ?_
  refine q_load (p2 := 4) rfl rfl rfl rfl ?_
  refine q_getv (p2 := 5) rfl hP.1 (by decide) hP.2.1 rfl ?_
  refine q_getv (p2 := 6) rfl hs237.1 (by decide) hs237.2.2.2.1 rfl ?_
  refine q_const (p2 := 7) rfl rfl ?_
  refine q_aldv (v := (0, 5, 0)) (p2 := 8) rfl (x_sc_246 hSc) (by omega) (by omega) rfl rfl ?_
  refine q_icmp_s (p2 := 9) rfl (by decide) (by omega) (by omega) rfl (fun hb => absurd hb (show ¬ (¬ (2 < 5)) by omega)) (fun _ => ?_)
  refine q_load (p2 := 10) rfl rfl rfl rfl ?_
  refine q_load (p2 := 11) rfl rfl rfl rfl ?_
  refine q_load (p2 := 12) rfl rfl rfl rfl ?_
  refine q_getv (p2 := 13) rfl hP.1 (by decide) hP.2.1 rfl ?_
  refine q_getv (p2 := 14) rfl hs237.1 (by decide) hs237.2.2.2.2.2.2.2.2.1 rfl ?_
  refine q_load (p2 := 15) rfl rfl rfl rfl ?_
  refine q_aldv (v := (6, 274, 0)) (p2 := 16) rfl (x_sc_271 hSc) (by omega) (by omega) rfl rfl ?_
  refine q_const (p2 := 17) rfl rfl ?_
  refine q_aldv (v := (0, 0, 0)) (p2 := 18) rfl (x_sc_274 hSc) (by omega) (by omega) rfl rfl ?_
  refine q_callr (xs := [(0, 0, 0), (0, x, 0), (6, 7, 0)]) (p2 := 19) rfl rfl rfl rfl (x_rcv_s 7 hP.1) rfl (e_isA hP hC (x := x) (e := 0) (by omega) (by omega)) (Nat.le_refl _) (Nat.le_refl _) rfl ?_
  by_cases hb1 : x_isA made comb x 0
  · rw [if_pos hb1]
    refine q_if0_s (p2 := 20) rfl (by decide) (by omega) rfl (fun hb => absurd hb (show ¬ (1 = 0) by omega)) (fun _ => ?_)
    refine q_const (p2 := 21) rfl rfl ?_
    refine q_goto rfl ?_
    exact q_retv rfl rfl (⟨rfl, rfl, rfl, rfl, rfl⟩)
  · rw [if_neg hb1]
    refine q_if0_s (p2 := 20) rfl (by decide) (by omega) rfl (fun _ => ?_) (fun hb => absurd (show 0 = 0 by omega) hb)
    refine q_const (p2 := 23) rfl rfl ?_
    exact q_retv rfl rfl (⟨rfl, rfl, rfl, rfl, rfl⟩)
theorem e_has_3 {d n sl : Nat} {φ : FH} {A B made sv svm st : Nat} {fP : Nat → XV} (hP : x_pop φ A B made sv svm st fP) {comb : Nat → Nat} (hC : x_comb φ 226 comb) (hSc : x_sch φ) {x : Nat} (hx : x < 2147483648) : x_f x_P (d + 3) 53 [(6, 7, 0), (0, x, 0), (0, 3, 0)] φ n sl (x_r φ n sl (0, if x_isA made comb x 1 then 1 else 0, 0)) := by
  obtain ⟨fS, hs237⟩ := hSc.1
  refine x_f_of rfl ?_
  refine q_load (p2 := 1) rfl rfl rfl rfl ?_
  refine q_if0_s (p2 := 2) rfl (by decide) (by omega) rfl (fun hb => absurd hb (show ¬ (3 < 0) by omega)) (fun _ => ?_)
  refine q_load (p2 := 3) rfl rfl rfl rfl ?_
  refine q_load (p2 := 4) rfl rfl rfl rfl ?_
  refine q_getv (p2 := 5) rfl hP.1 (by decide) hP.2.1 rfl ?_
  refine q_getv (p2 := 6) rfl hs237.1 (by decide) hs237.2.2.2.1 rfl ?_
  refine q_const (p2 := 7) rfl rfl ?_
  refine q_aldv (v := (0, 5, 0)) (p2 := 8) rfl (x_sc_246 hSc) (by omega) (by omega) rfl rfl ?_
  refine q_icmp_s (p2 := 9) rfl (by decide) (by omega) (by omega) rfl (fun hb => absurd hb (show ¬ (¬ (3 < 5)) by omega)) (fun _ => ?_)
  refine q_load (p2 := 10) rfl rfl rfl rfl ?_
  refine q_load (p2 := 11) rfl rfl rfl rfl ?_
  refine q_load (p2 := 12) rfl rfl rfl rfl ?_
  refine q_getv (p2 := 13) rfl hP.1 (by decide) hP.2.1 rfl ?_
  refine q_getv (p2 := 14) rfl hs237.1 (by decide) hs237.2.2.2.2.2.2.2.2.1 rfl ?_
  refine q_load (p2 := 15) rfl rfl rfl rfl ?_
  refine q_aldv (v := (6, 275, 0)) (p2 := 16) rfl (x_sc_271 hSc) (by omega) (by omega) rfl rfl ?_
  refine q_const (p2 := 17) rfl rfl ?_
  refine q_aldv (v := (0, 1, 0)) (p2 := 18) rfl (x_sc_275 hSc) (by omega) (by omega) rfl rfl ?_
  refine q_callr (xs := [(0, 1, 0), (0, x, 0), (6, 7, 0)]) (p2 := 19) rfl rfl rfl rfl (x_rcv_s 7 hP.1) rfl (e_isA hP hC (x := x) (e := 1) (by omega) (by omega)) (Nat.le_refl _) (Nat.le_refl _) rfl ?_
  by_cases hb1 : x_isA made comb x 1
  · rw [if_pos hb1]
    refine q_if0_s (p2 := 20) rfl (by decide) (by omega) rfl (fun hb => absurd hb (show ¬ (1 = 0) by omega)) (fun _ => ?_)
    refine q_const (p2 := 21) rfl rfl ?_
    refine q_goto rfl ?_
    exact q_retv rfl rfl (⟨rfl, rfl, rfl, rfl, rfl⟩)
  · rw [if_neg hb1]
    refine q_if0_s (p2 := 20) rfl (by decide) (by omega) rfl (fun _ => ?_) (fun hb => absurd (show 0 = 0 by omega) hb)
    refine q_const (p2 := 23) rfl rfl ?_
    exact q_retv rfl rfl (⟨rfl, rfl, rfl, rfl, rfl⟩)
theorem e_has_4 {d n sl : Nat} {φ : FH} {A B made sv svm st : Nat} {fP : Nat → XV} (hP : x_pop φ A B made sv svm st fP) {comb : Nat → Nat} (hC : x_comb φ 226 comb) (hSc : x_sch φ) {x : Nat} (hx : x < 2147483648) : x_f x_P (d + 3) 53 [(6, 7, 0), (0, x, 0), (0, 4, 0)] φ n sl (x_r φ n sl (0, if x_isA made comb x 2 then 1 else 0, 0)) := by
  obtain ⟨fS, hs237⟩ := hSc.1
  refine x_f_of rfl ?_
  refine q_load (p2 := 1) rfl rfl rfl rfl ?_
  refine q_if0_s (p2 := 2) rfl (by decide) (by omega) rfl (fun hb => absurd hb (show ¬ (4 < 0) by omega)) (fun _ => ?_)
  refine q_load (p2 := 3) rfl rfl rfl rfl ?_
  refine q_load (p2 := 4) rfl rfl rfl rfl ?_
  refine q_getv (p2 := 5) rfl hP.1 (by decide) hP.2.1 rfl ?_
  refine q_getv (p2 := 6) rfl hs237.1 (by decide) hs237.2.2.2.1 rfl ?_
  refine q_const (p2 := 7) rfl rfl ?_
  refine q_aldv (v := (0, 5, 0)) (p2 := 8) rfl (x_sc_246 hSc) (by omega) (by omega) rfl rfl ?_
  refine q_icmp_s (p2 := 9) rfl (by decide) (by omega) (by omega) rfl (fun hb => absurd hb (show ¬ (¬ (4 < 5)) by omega)) (fun _ => ?_)
  refine q_load (p2 := 10) rfl rfl rfl rfl ?_
  refine q_load (p2 := 11) rfl rfl rfl rfl ?_
  refine q_load (p2 := 12) rfl rfl rfl rfl ?_
  refine q_getv (p2 := 13) rfl hP.1 (by decide) hP.2.1 rfl ?_
  refine q_getv (p2 := 14) rfl hs237.1 (by decide) hs237.2.2.2.2.2.2.2.2.1 rfl ?_
  refine q_load (p2 := 15) rfl rfl rfl rfl ?_
  refine q_aldv (v := (6, 276, 0)) (p2 := 16) rfl (x_sc_271 hSc) (by omega) (by omega) rfl rfl ?_
  refine q_const (p2 := 17) rfl rfl ?_
  refine q_aldv (v := (0, 2, 0)) (p2 := 18) rfl (x_sc_276 hSc) (by omega) (by omega) rfl rfl ?_
  refine q_callr (xs := [(0, 2, 0), (0, x, 0), (6, 7, 0)]) (p2 := 19) rfl rfl rfl rfl (x_rcv_s 7 hP.1) rfl (e_isA hP hC (x := x) (e := 2) (by omega) (by omega)) (Nat.le_refl _) (Nat.le_refl _) rfl ?_
  by_cases hb1 : x_isA made comb x 2
  · rw [if_pos hb1]
    refine q_if0_s (p2 := 20) rfl (by decide) (by omega) rfl (fun hb => absurd hb (show ¬ (1 = 0) by omega)) (fun _ => ?_)
    refine q_const (p2 := 21) rfl rfl ?_
    refine q_goto rfl ?_
    exact q_retv rfl rfl (⟨rfl, rfl, rfl, rfl, rfl⟩)
  · rw [if_neg hb1]
    refine q_if0_s (p2 := 20) rfl (by decide) (by omega) rfl (fun _ => ?_) (fun hb => absurd (show 0 = 0 by omega) hb)
    refine q_const (p2 := 23) rfl rfl ?_
    exact q_retv rfl rfl (⟨rfl, rfl, rfl, rfl, rfl⟩)
theorem e_has_no {d n sl : Nat} {φ : FH} {A B made sv svm st : Nat} {fP : Nat → XV} (hP : x_pop φ A B made sv svm st fP) (hSc : x_sch φ) {x a : Nat} (ha : 5 ≤ a) (ha2 : a < 2147483648) : x_f x_P (d + 3) 53 [(6, 7, 0), (0, x, 0), (0, a, 0)] φ n sl (x_r φ n sl (0, 0, 0)) := by
  obtain ⟨fS, hs237⟩ := hSc.1
  refine x_f_of rfl ?_
  refine q_load (p2 := 1) rfl rfl rfl rfl ?_
  refine q_if0_s (p2 := 2) rfl (by decide) (by omega) rfl (fun hb => absurd hb (show ¬ (a < 0) by omega)) (fun _ => ?_)
  refine q_load (p2 := 3) rfl rfl rfl rfl ?_
  refine q_load (p2 := 4) rfl rfl rfl rfl ?_
  refine q_getv (p2 := 5) rfl hP.1 (by decide) hP.2.1 rfl ?_
  refine q_getv (p2 := 6) rfl hs237.1 (by decide) hs237.2.2.2.1 rfl ?_
  refine q_const (p2 := 7) rfl rfl ?_
  refine q_aldv (v := (0, 5, 0)) (p2 := 8) rfl (x_sc_246 hSc) (by omega) (by omega) rfl rfl ?_
  refine q_icmp_s (p2 := 9) rfl (by decide) (by omega) (by omega) rfl (fun _ => ?_) (fun hb => absurd (show ¬ (a < 5) by omega) hb)
  refine q_const (p2 := 23) rfl rfl ?_
  exact q_retv rfl rfl (⟨rfl, rfl, rfl, rfl, rfl⟩)
theorem e_has {d n sl : Nat} {φ : FH} {A B made sv svm st : Nat} {fP : Nat → XV} (hP : x_pop φ A B made sv svm st fP) {comb : Nat → Nat} (hC : x_comb φ 226 comb) (hSc : x_sch φ) {x a : Nat} (hx : x < 2147483648) (ha : a < 5) : x_f x_P (d + 3) 53 [(6, 7, 0), (0, x, 0), (0, a, 0)] φ n sl (x_r φ n sl (0, if x_isA made comb x (x_ent a) then 1 else 0, 0)) := by
  match a, ha with
  | 0, _ => exact e_has_0 hP hC hSc hx
  | 1, _ => exact e_has_1 hP hC hSc hx
  | 2, _ => exact e_has_2 hP hC hSc hx
  | 3, _ => exact e_has_3 hP hC hSc hx
  | 4, _ => exact e_has_4 hP hC hSc hx
theorem e_isExplicit_0 {d n sl : Nat} {φ : FH} (hSc : x_sch φ) : x_f x_P (d + 1) 210 [(6, 237, 0), (0, 0, 0)] φ n sl (x_r φ n sl (0, 1, 0)) := by
  obtain ⟨fS, hs237⟩ := hSc.1
  refine x_f_of rfl ?_
  refine q_load (p2 := 1) rfl rfl rfl rfl ?_
  refine q_if0_s (p2 := 2) rfl (by decide) (by omega) rfl (fun hb => absurd hb (show ¬ (0 < 0) by omega)) (fun _ => ?_)
  refine q_load (p2 := 3) rfl rfl rfl rfl ?_
  refine q_load (p2 := 4) rfl rfl rfl rfl ?_
  refine q_getv (p2 := 5) rfl hs237.1 (by decide) hs237.2.2.2.1 rfl ?_
  refine q_const (p2 := 6) rfl rfl ?_
  refine q_aldv (v := (0, 5, 0)) (p2 := 7) rfl (x_sc_246 hSc) (by omega) (by omega) rfl rfl ?_
  refine q_icmp_s (p2 := 8) rfl (by decide) (by omega) (by omega) rfl (fun hb => absurd hb (show ¬ (¬ (0 < 5)) by omega)) (fun _ => ?_)
  refine q_load (p2 := 9) rfl rfl rfl rfl ?_
  refine q_getv (p2 := 10) rfl hs237.1 (by decide) hs237.2.2.2.2.2.2.2.2.1 rfl ?_
  refine q_load (p2 := 11) rfl rfl rfl rfl ?_
  refine q_aldv (v := (6, 272, 0)) (p2 := 12) rfl (x_sc_271 hSc) (by omega) (by omega) rfl rfl ?_
  refine q_const (p2 := 13) rfl rfl ?_
  refine q_aldv (v := (0, 0, 0)) (p2 := 14) rfl (x_sc_272 hSc) (by omega) (by omega) rfl rfl ?_
  refine q_if0_s (p2 := 15) rfl (by decide) (by omega) rfl (fun hb => absurd hb (show ¬ (¬ (0 = 0)) by omega)) (fun _ => ?_)
  refine q_const (p2 := 16) rfl rfl ?_
  refine q_goto rfl ?_
  exact q_retv rfl rfl (⟨rfl, rfl, rfl, rfl, rfl⟩)
theorem e_isExplicit_1 {d n sl : Nat} {φ : FH} (hSc : x_sch φ) : x_f x_P (d + 1) 210 [(6, 237, 0), (0, 1, 0)] φ n sl (x_r φ n sl (0, 1, 0)) := by
  obtain ⟨fS, hs237⟩ := hSc.1
  refine x_f_of rfl ?_
  refine q_load (p2 := 1) rfl rfl rfl rfl ?_
  refine q_if0_s (p2 := 2) rfl (by decide) (by omega) rfl (fun hb => absurd hb (show ¬ (1 < 0) by omega)) (fun _ => ?_)
  refine q_load (p2 := 3) rfl rfl rfl rfl ?_
  refine q_load (p2 := 4) rfl rfl rfl rfl ?_
  refine q_getv (p2 := 5) rfl hs237.1 (by decide) hs237.2.2.2.1 rfl ?_
  refine q_const (p2 := 6) rfl rfl ?_
  refine q_aldv (v := (0, 5, 0)) (p2 := 7) rfl (x_sc_246 hSc) (by omega) (by omega) rfl rfl ?_
  refine q_icmp_s (p2 := 8) rfl (by decide) (by omega) (by omega) rfl (fun hb => absurd hb (show ¬ (¬ (1 < 5)) by omega)) (fun _ => ?_)
  refine q_load (p2 := 9) rfl rfl rfl rfl ?_
  refine q_getv (p2 := 10) rfl hs237.1 (by decide) hs237.2.2.2.2.2.2.2.2.1 rfl ?_
  refine q_load (p2 := 11) rfl rfl rfl rfl ?_
  refine q_aldv (v := (6, 273, 0)) (p2 := 12) rfl (x_sc_271 hSc) (by omega) (by omega) rfl rfl ?_
  refine q_const (p2 := 13) rfl rfl ?_
  refine q_aldv (v := (0, 0, 0)) (p2 := 14) rfl (x_sc_273 hSc) (by omega) (by omega) rfl rfl ?_
  refine q_if0_s (p2 := 15) rfl (by decide) (by omega) rfl (fun hb => absurd hb (show ¬ (¬ (0 = 0)) by omega)) (fun _ => ?_)
  refine q_const (p2 := 16) rfl rfl ?_
  refine q_goto rfl ?_
  exact q_retv rfl rfl (⟨rfl, rfl, rfl, rfl, rfl⟩)
theorem e_isExplicit_2 {d n sl : Nat} {φ : FH} (hSc : x_sch φ) : x_f x_P (d + 1) 210 [(6, 237, 0), (0, 2, 0)] φ n sl (x_r φ n sl (0, 0, 0)) := by
  obtain ⟨fS, hs237⟩ := hSc.1
  refine x_f_of rfl ?_
  refine q_load (p2 := 1) rfl rfl rfl rfl ?_
  refine q_if0_s (p2 := 2) rfl (by decide) (by omega) rfl (fun hb => absurd hb (show ¬ (2 < 0) by omega)) (fun _ => ?_)
  refine q_load (p2 := 3) rfl rfl rfl rfl ?_
  refine q_load (p2 := 4) rfl rfl rfl rfl ?_
  refine q_getv (p2 := 5) rfl hs237.1 (by decide) hs237.2.2.2.1 rfl ?_
  refine q_const (p2 := 6) rfl rfl ?_
  refine q_aldv (v := (0, 5, 0)) (p2 := 7) rfl (x_sc_246 hSc) (by omega) (by omega) rfl rfl ?_
  refine q_icmp_s (p2 := 8) rfl (by decide) (by omega) (by omega) rfl (fun hb => absurd hb (show ¬ (¬ (2 < 5)) by omega)) (fun _ => ?_)
  refine q_load (p2 := 9) rfl rfl rfl rfl ?_
  refine q_getv (p2 := 10) rfl hs237.1 (by decide) hs237.2.2.2.2.2.2.2.2.1 rfl ?_
  refine q_load (p2 := 11) rfl rfl rfl rfl ?_
  refine q_aldv (v := (6, 274, 0)) (p2 := 12) rfl (x_sc_271 hSc) (by omega) (by omega) rfl rfl ?_
  refine q_const (p2 := 13) rfl rfl ?_
  refine q_aldv (v := (0, 1, 0)) (p2 := 14) rfl (x_sc_274 hSc) (by omega) (by omega) rfl rfl ?_
  refine q_if0_s (p2 := 15) rfl (by decide) (by omega) rfl (fun _ => ?_) (fun hb => absurd (show ¬ (1 = 0) by omega) hb)
  refine q_const (p2 := 18) rfl rfl ?_
  exact q_retv rfl rfl (⟨rfl, rfl, rfl, rfl, rfl⟩)
theorem e_isExplicit_3 {d n sl : Nat} {φ : FH} (hSc : x_sch φ) : x_f x_P (d + 1) 210 [(6, 237, 0), (0, 3, 0)] φ n sl (x_r φ n sl (0, 1, 0)) := by
  obtain ⟨fS, hs237⟩ := hSc.1
  refine x_f_of rfl ?_
  refine q_load (p2 := 1) rfl rfl rfl rfl ?_
  refine q_if0_s (p2 := 2) rfl (by decide) (by omega) rfl (fun hb => absurd hb (show ¬ (3 < 0) by omega)) (fun _ => ?_)
  refine q_load (p2 := 3) rfl rfl rfl rfl ?_
  refine q_load (p2 := 4) rfl rfl rfl rfl ?_
  refine q_getv (p2 := 5) rfl hs237.1 (by decide) hs237.2.2.2.1 rfl ?_
  refine q_const (p2 := 6) rfl rfl ?_
  refine q_aldv (v := (0, 5, 0)) (p2 := 7) rfl (x_sc_246 hSc) (by omega) (by omega) rfl rfl ?_
  refine q_icmp_s (p2 := 8) rfl (by decide) (by omega) (by omega) rfl (fun hb => absurd hb (show ¬ (¬ (3 < 5)) by omega)) (fun _ => ?_)
  refine q_load (p2 := 9) rfl rfl rfl rfl ?_
  refine q_getv (p2 := 10) rfl hs237.1 (by decide) hs237.2.2.2.2.2.2.2.2.1 rfl ?_
  refine q_load (p2 := 11) rfl rfl rfl rfl ?_
  refine q_aldv (v := (6, 275, 0)) (p2 := 12) rfl (x_sc_271 hSc) (by omega) (by omega) rfl rfl ?_
  refine q_const (p2 := 13) rfl rfl ?_
  refine q_aldv (v := (0, 0, 0)) (p2 := 14) rfl (x_sc_275 hSc) (by omega) (by omega) rfl rfl ?_
  refine q_if0_s (p2 := 15) rfl (by decide) (by omega) rfl (fun hb => absurd hb (show ¬ (¬ (0 = 0)) by omega)) (fun _ => ?_)
  refine q_const (p2 := 16) rfl rfl ?_
  refine q_goto rfl ?_
  exact q_retv rfl rfl (⟨rfl, rfl, rfl, rfl, rfl⟩)
theorem e_isExplicit_4 {d n sl : Nat} {φ : FH} (hSc : x_sch φ) : x_f x_P (d + 1) 210 [(6, 237, 0), (0, 4, 0)] φ n sl (x_r φ n sl (0, 0, 0)) := by
  obtain ⟨fS, hs237⟩ := hSc.1
  refine x_f_of rfl ?_
  refine q_load (p2 := 1) rfl rfl rfl rfl ?_
  refine q_if0_s (p2 := 2) rfl (by decide) (by omega) rfl (fun hb => absurd hb (show ¬ (4 < 0) by omega)) (fun _ => ?_)
  refine q_load (p2 := 3) rfl rfl rfl rfl ?_
  refine q_load (p2 := 4) rfl rfl rfl rfl ?_
  refine q_getv (p2 := 5) rfl hs237.1 (by decide) hs237.2.2.2.1 rfl ?_
  refine q_const (p2 := 6) rfl rfl ?_
  refine q_aldv (v := (0, 5, 0)) (p2 := 7) rfl (x_sc_246 hSc) (by omega) (by omega) rfl rfl ?_
  refine q_icmp_s (p2 := 8) rfl (by decide) (by omega) (by omega) rfl (fun hb => absurd hb (show ¬ (¬ (4 < 5)) by omega)) (fun _ => ?_)
  refine q_load (p2 := 9) rfl rfl rfl rfl ?_
  refine q_getv (p2 := 10) rfl hs237.1 (by decide) hs237.2.2.2.2.2.2.2.2.1 rfl ?_
  refine q_load (p2 := 11) rfl rfl rfl rfl ?_
  refine q_aldv (v := (6, 276, 0)) (p2 := 12) rfl (x_sc_271 hSc) (by omega) (by omega) rfl rfl ?_
  refine q_const (p2 := 13) rfl rfl ?_
  refine q_aldv (v := (0, 2, 0)) (p2 := 14) rfl (x_sc_276 hSc) (by omega) (by omega) rfl rfl ?_
  refine q_if0_s (p2 := 15) rfl (by decide) (by omega) rfl (fun _ => ?_) (fun hb => absurd (show ¬ (2 = 0) by omega) hb)
  refine q_const (p2 := 18) rfl rfl ?_
  exact q_retv rfl rfl (⟨rfl, rfl, rfl, rfl, rfl⟩)
end FPOP12
