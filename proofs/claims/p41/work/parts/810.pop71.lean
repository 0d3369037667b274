section FPOP71
theorem zc_a_274_2 {d n sl : Nat} {φ : FH}    : x_f x_P (d + 1) 274 [(2, 2, 0), (11, 0, 0), (11, 0, 0), (11, 0, 0), (11, 0, 0)] φ n sl (x_r φ n sl (0, 1, 0)) := by
  refine x_f_of rfl ?_
  refine q_const (p2 := 1) rfl rfl ?_
  refine q_store (loc2 := [(2, 2, 0), (11, 0, 0), (0, 0, 0), (11, 0, 0), (11, 0, 0)]) (p2 := 2) rfl rfl rfl rfl rfl ?_
  refine q_load (v := (2, 2, 0)) (p2 := 3) rfl rfl rfl rfl ?_
  refine q_store2 (loc2 := [(2, 2, 0), (11, 0, 0), (0, 0, 0), (2, 2, 0), (11, 0, 0)]) (p2 := 4) rfl rfl rfl rfl rfl ?_
  refine q_load (v := (2, 2, 0)) (p2 := 5) rfl rfl rfl rfl ?_
  refine q_const (p2 := 6) rfl rfl ?_
  refine q_lcif (p2 := 8) rfl rfl (by decide) (by omega) (by omega) rfl (fun hb => absurd hb (show ¬ (¬ (0 < 2)) by omega)) (fun _ => ?_)
  refine q_iinc (z := 1) (loc2 := [(2, 2, 0), (11, 0, 0), (0, 1, 0), (2, 2, 0), (11, 0, 0)]) (p2 := 9) rfl rfl (by decide) rfl rfl ?_
  refine q_load (v := (2, 2, 0)) (p2 := 10) rfl rfl rfl rfl ?_
  refine q_const (p2 := 11) rfl rfl ?_
  refine q_ldr9 (z := 0) (p2 := 12) rfl (by omega) (by omega) (by omega) (by omega) rfl ?_
  refine q_store2 (loc2 := [(2, 2, 0), (11, 0, 0), (0, 1, 0), (2, 0, 0), (11, 0, 0)]) (p2 := 13) rfl rfl rfl rfl rfl ?_
  refine q_goto rfl ?_
  refine q_load (v := (2, 0, 0)) (p2 := 5) rfl rfl rfl rfl ?_
  refine q_const (p2 := 6) rfl rfl ?_
  refine q_lcif (p2 := 8) rfl rfl (by decide) (by omega) (by omega) rfl (fun _ => ?_) (fun hb => absurd (show ¬ (0 < 0) by omega) hb)
  refine q_load (v := (0, 1, 0)) (p2 := 15) rfl rfl rfl rfl ?_
  exact q_retv (v := (0, 1, 0)) rfl rfl (⟨rfl, rfl, rfl, rfl, rfl⟩)
theorem zc_a_275_2_0 {d n sl : Nat} {φ : FH}    : x_f x_P (d + 2) 275 [(2, 2, 0), (11, 0, 0), (0, 0, 0), (11, 0, 0), (11, 0, 0), (11, 0, 0)] φ n sl (x_r φ n sl (0, 98, 0)) := by
  refine x_f_of rfl ?_
  refine q_load (v := (2, 2, 0)) (p2 := 1) rfl rfl rfl rfl ?_
  refine q_store2 (loc2 := [(2, 2, 0), (11, 0, 0), (0, 0, 0), (2, 2, 0), (11, 0, 0), (11, 0, 0)]) (p2 := 2) rfl rfl rfl rfl rfl ?_
  refine q_load (v := (2, 2, 0)) (p2 := 3) rfl rfl rfl rfl ?_
  refine q_callr (xs := [(2, 2, 0)]) (p2 := 4) rfl rfl rfl rfl (fun _ _ => rfl) rfl (zc_a_274_2 ) (Nat.le_refl _) (Nat.le_refl _) rfl ?_
  refine q_const (p2 := 5) rfl rfl ?_
  refine q_iop (w := 1 + (4294967296 - 1 % 4294967296)) (z := 0) (p2 := 6) rfl (xo_sub 1 1) (by decide) rfl ?_
  refine q_load (v := (0, 0, 0)) (p2 := 7) rfl rfl rfl rfl ?_
  refine q_iop (w := 0 + (4294967296 - 0 % 4294967296)) (z := 0) (p2 := 8) rfl (xo_sub 0 0) (by decide) rfl ?_
  refine q_store (loc2 := [(2, 2, 0), (11, 0, 0), (0, 0, 0), (2, 2, 0), (11, 0, 0), (0, 0, 0)]) (p2 := 9) rfl rfl rfl rfl rfl ?_
  refine q_load (v := (0, 0, 0)) (p2 := 10) rfl rfl rfl rfl ?_
  refine q_if0_s (p2 := 11) rfl (by decide) (by omega) rfl (fun _ => ?_) (fun hb => absurd (show ¬ (0 < 0) by omega) hb)
  refine q_load (v := (2, 2, 0)) (p2 := 18) rfl rfl rfl rfl ?_
  refine q_const (p2 := 19) rfl rfl ?_
  refine q_ldr10 (z := 2) (p2 := 20) rfl (by omega) (by omega) (by omega) (by omega) rfl ?_
  refine q_l2i (z := 2) (p2 := 21) rfl (Nat.mod_eq_of_lt (by omega)) rfl ?_
  refine q_store (loc2 := [(2, 2, 0), (11, 0, 0), (0, 0, 0), (2, 2, 0), (11, 0, 0), (0, 2, 0)]) (p2 := 22) rfl rfl rfl rfl rfl ?_
  refine q_load (v := (0, 2, 0)) (p2 := 23) rfl rfl rfl rfl ?_
  refine q_const (p2 := 24) rfl rfl ?_
  refine q_icmp_s (p2 := 25) rfl (by decide) (by omega) (by omega) rfl (fun hb => absurd hb (show ¬ (26 < 2) by omega)) (fun _ => ?_)
  refine q_const (p2 := 26) rfl rfl ?_
  refine q_load (v := (0, 2, 0)) (p2 := 27) rfl rfl rfl rfl ?_
  refine q_iop (w := 97 + 2) (z := 99) (p2 := 28) rfl (xo_add 97 2) (by decide) rfl ?_
  refine q_const (p2 := 29) rfl rfl ?_
  refine q_iop (w := 99 + (4294967296 - 1 % 4294967296)) (z := 98) (p2 := 30) rfl (xo_sub 99 1) (by decide) rfl ?_
  exact q_retv (v := (0, 98, 0)) rfl rfl (⟨rfl, rfl, rfl, rfl, rfl⟩)
theorem zc_word_2 {d n sl : Nat} {φ : FH} {sz b : Nat} {bw : Nat → Nat} {L : List Nat} (hD : zD φ sz bw L b) (hb : b < 5900) : x_f x_P (d + 3) 211 [(6, 478, 0), (2, 2, 0), (11, 0, 0), (11, 0, 0), (11, 0, 0)] φ n sl (x_vR n sl (fun φ2 => zD φ2 sz bw (L ++ [98]) (b + 1) ∧ ∀ j, j ≠ 478 → j ≠ 479 → j ≠ 480 → φ2 j = φ j)) := by
  refine x_f_of rfl ?_
  refine q_load (v := (2, 2, 0)) (p2 := 1) rfl rfl rfl rfl ?_
  refine q_callr (xs := [(2, 2, 0)]) (p2 := 2) rfl rfl rfl rfl (fun _ _ => rfl) rfl (zc_a_274_2 ) (Nat.le_refl _) (Nat.le_refl _) rfl ?_
  refine q_store (loc2 := [(6, 478, 0), (2, 2, 0), (11, 0, 0), (0, 1, 0), (11, 0, 0)]) (p2 := 3) rfl rfl rfl rfl rfl ?_
  refine q_const (p2 := 4) rfl rfl ?_
  refine q_store (loc2 := [(6, 478, 0), (2, 2, 0), (11, 0, 0), (0, 1, 0), (0, 0, 0)]) (p2 := 5) rfl rfl rfl rfl rfl ?_
  refine q_load (v := (0, 0, 0)) (p2 := 6) rfl rfl rfl rfl ?_
  refine q_load (v := (0, 1, 0)) (p2 := 7) rfl rfl rfl rfl ?_
  refine q_icmp_s (p2 := 8) rfl (by decide) (by omega) (by omega) rfl (fun hb => absurd hb (show ¬ (¬ (0 < 1)) by omega)) (fun _ => ?_)
  refine q_load (v := (6, 478, 0)) (p2 := 9) rfl rfl rfl rfl ?_
  refine q_load (v := (2, 2, 0)) (p2 := 10) rfl rfl rfl rfl ?_
  refine q_load (v := (0, 0, 0)) (p2 := 11) rfl rfl rfl rfl ?_
  refine q_callr (xs := [(0, 0, 0), (2, 2, 0)]) (p2 := 12) rfl rfl rfl rfl (fun _ _ => rfl) rfl (zc_a_275_2_0 ) (Nat.le_refl _) (Nat.le_refl _) rfl ?_
  refine q_callvE (xs := [(0, 98, 0), (6, 478, 0)]) (p2 := 13) rfl rfl rfl rfl (x_rcv_s 478 (zD_478 hD).choose_spec.1) rfl (zc_addD hD (by omega) (by omega)) (Nat.le_refl _) (Nat.le_refl _) rfl (fun φ1 hR1 => ?_)
  obtain ⟨hD1, frn1⟩ := hR1
  refine q_iinc (z := 1) (loc2 := [(6, 478, 0), (2, 2, 0), (11, 0, 0), (0, 1, 0), (0, 1, 0)]) (p2 := 14) rfl rfl (by decide) rfl rfl ?_
  refine q_goto rfl ?_
  refine q_load (v := (0, 1, 0)) (p2 := 6) rfl rfl rfl rfl ?_
  refine q_load (v := (0, 1, 0)) (p2 := 7) rfl rfl rfl rfl ?_
  refine q_icmp_s (p2 := 8) rfl (by decide) (by omega) (by omega) rfl (fun _ => ?_) (fun hb => absurd (show ¬ (1 < 1) by omega) hb)
  exact q_ret rfl (⟨rfl, rfl, rfl, hD1, fun j hj0 hj1 hj2 => (frn1 j (by omega) (by omega) (by omega))⟩)
theorem zc_a_274_3 {d n sl : Nat} {φ : FH}    : x_f x_P (d + 1) 274 [(2, 3, 0), (11, 0, 0), (11, 0, 0), (11, 0, 0), (11, 0, 0)] φ n sl (x_r φ n sl (0, 1, 0)) := by
  refine x_f_of rfl ?_
  refine q_const (p2 := 1) rfl rfl ?_
  refine q_store (loc2 := [(2, 3, 0), (11, 0, 0), (0, 0, 0), (11, 0, 0), (11, 0, 0)]) (p2 := 2) rfl rfl rfl rfl rfl ?_
  refine q_load (v := (2, 3, 0)) (p2 := 3) rfl rfl rfl rfl ?_
  refine q_store2 (loc2 := [(2, 3, 0), (11, 0, 0), (0, 0, 0), (2, 3, 0), (11, 0, 0)]) (p2 := 4) rfl rfl rfl rfl rfl ?_
  refine q_load (v := (2, 3, 0)) (p2 := 5) rfl rfl rfl rfl ?_
  refine q_const (p2 := 6) rfl rfl ?_
  refine q_lcif (p2 := 8) rfl rfl (by decide) (by omega) (by omega) rfl (fun hb => absurd hb (show ¬ (¬ (0 < 3)) by omega)) (fun _ => ?_)
  refine q_iinc (z := 1) (loc2 := [(2, 3, 0), (11, 0, 0), (0, 1, 0), (2, 3, 0), (11, 0, 0)]) (p2 := 9) rfl rfl (by decide) rfl rfl ?_
  refine q_load (v := (2, 3, 0)) (p2 := 10) rfl rfl rfl rfl ?_
  refine q_const (p2 := 11) rfl rfl ?_
  refine q_ldr9 (z := 0) (p2 := 12) rfl (by omega) (by omega) (by omega) (by omega) rfl ?_
  refine q_store2 (loc2 := [(2, 3, 0), (11, 0, 0), (0, 1, 0), (2, 0, 0), (11, 0, 0)]) (p2 := 13) rfl rfl rfl rfl rfl ?_
  refine q_goto rfl ?_
  refine q_load (v := (2, 0, 0)) (p2 := 5) rfl rfl rfl rfl ?_
  refine q_const (p2 := 6) rfl rfl ?_
  refine q_lcif (p2 := 8) rfl rfl (by decide) (by omega) (by omega) rfl (fun _ => ?_) (fun hb => absurd (show ¬ (0 < 0) by omega) hb)
  refine q_load (v := (0, 1, 0)) (p2 := 15) rfl rfl rfl rfl ?_
  exact q_retv (v := (0, 1, 0)) rfl rfl (⟨rfl, rfl, rfl, rfl, rfl⟩)
theorem zc_a_275_3_0 {d n sl : Nat} {φ : FH}    : x_f x_P (d + 2) 275 [(2, 3, 0), (11, 0, 0), (0, 0, 0), (11, 0, 0), (11, 0, 0), (11, 0, 0)] φ n sl (x_r φ n sl (0, 99, 0)) := by
  refine x_f_of rfl ?_
  refine q_load (v := (2, 3, 0)) (p2 := 1) rfl rfl rfl rfl ?_
  refine q_store2 (loc2 := [(2, 3, 0), (11, 0, 0), (0, 0, 0), (2, 3, 0), (11, 0, 0), (11, 0, 0)]) (p2 := 2) rfl rfl rfl rfl rfl ?_
  refine q_load (v := (2, 3, 0)) (p2 := 3) rfl rfl rfl rfl ?_
  refine q_callr (xs := [(2, 3, 0)]) (p2 := 4) rfl rfl rfl rfl (fun _ _ => rfl) rfl (zc_a_274_3 ) (Nat.le_refl _) (Nat.le_refl _) rfl ?_
  refine q_const (p2 := 5) rfl rfl ?_
  refine q_iop (w := 1 + (4294967296 - 1 % 4294967296)) (z := 0) (p2 := 6) rfl (xo_sub 1 1) (by decide) rfl ?_
  refine q_load (v := (0, 0, 0)) (p2 := 7) rfl rfl rfl rfl ?_
  refine q_iop (w := 0 + (4294967296 - 0 % 4294967296)) (z := 0) (p2 := 8) rfl (xo_sub 0 0) (by decide) rfl ?_
  refine q_store (loc2 := [(2, 3, 0), (11, 0, 0), (0, 0, 0), (2, 3, 0), (11, 0, 0), (0, 0, 0)]) (p2 := 9) rfl rfl rfl rfl rfl ?_
  refine q_load (v := (0, 0, 0)) (p2 := 10) rfl rfl rfl rfl ?_
  refine q_if0_s (p2 := 11) rfl (by decide) (by omega) rfl (fun _ => ?_) (fun hb => absurd (show ¬ (0 < 0) by omega) hb)
  refine q_load (v := (2, 3, 0)) (p2 := 18) rfl rfl rfl rfl ?_
  refine q_const (p2 := 19) rfl rfl ?_
  refine q_ldr10 (z := 3) (p2 := 20) rfl (by omega) (by omega) (by omega) (by omega) rfl ?_
  refine q_l2i (z := 3) (p2 := 21) rfl (Nat.mod_eq_of_lt (by omega)) rfl ?_
  refine q_store (loc2 := [(2, 3, 0), (11, 0, 0), (0, 0, 0), (2, 3, 0), (11, 0, 0), (0, 3, 0)]) (p2 := 22) rfl rfl rfl rfl rfl ?_
  refine q_load (v := (0, 3, 0)) (p2 := 23) rfl rfl rfl rfl ?_
  refine q_const (p2 := 24) rfl rfl ?_
  refine q_icmp_s (p2 := 25) rfl (by decide) (by omega) (by omega) rfl (fun hb => absurd hb (show ¬ (26 < 3) by omega)) (fun _ => ?_)
  refine q_const (p2 := 26) rfl rfl ?_
  refine q_load (v := (0, 3, 0)) (p2 := 27) rfl rfl rfl rfl ?_
  refine q_iop (w := 97 + 3) (z := 100) (p2 := 28) rfl (xo_add 97 3) (by decide) rfl ?_
  refine q_const (p2 := 29) rfl rfl ?_
  refine q_iop (w := 100 + (4294967296 - 1 % 4294967296)) (z := 99) (p2 := 30) rfl (xo_sub 100 1) (by decide) rfl ?_
  exact q_retv (v := (0, 99, 0)) rfl rfl (⟨rfl, rfl, rfl, rfl, rfl⟩)
theorem zc_word_3 {d n sl : Nat} {φ : FH} {sz b : Nat} {bw : Nat → Nat} {L : List Nat} (hD : zD φ sz bw L b) (hb : b < 5900) : x_f x_P (d + 3) 211 [(6, 478, 0), (2, 3, 0), (11, 0, 0), (11, 0, 0), (11, 0, 0)] φ n sl (x_vR n sl (fun φ2 => zD φ2 sz bw (L ++ [99]) (b + 1) ∧ ∀ j, j ≠ 478 → j ≠ 479 → j ≠ 480 → φ2 j = φ j)) := by
  refine x_f_of rfl ?_
  refine q_load (v := (2, 3, 0)) (p2 := 1) rfl rfl rfl rfl ?_
  refine q_callr (xs := [(2, 3, 0)]) (p2 := 2) rfl rfl rfl rfl (fun _ _ => rfl) rfl (zc_a_274_3 ) (Nat.le_refl _) (Nat.le_refl _) rfl ?_
  refine q_store (loc2 := [(6, 478, 0), (2, 3, 0), (11, 0, 0), (0, 1, 0), (11, 0, 0)]) (p2 := 3) rfl rfl rfl rfl rfl ?_
  refine q_const (p2 := 4) rfl rfl ?_
  refine q_store (loc2 := [(6, 478, 0), (2, 3, 0), (11, 0, 0), (0, 1, 0), (0, 0, 0)]) (p2 := 5) rfl rfl rfl rfl rfl ?_
  refine q_load (v := (0, 0, 0)) (p2 := 6) rfl rfl rfl rfl ?_
  refine q_load (v := (0, 1, 0)) (p2 := 7) rfl rfl rfl rfl ?_
  refine q_icmp_s (p2 := 8) rfl (by decide) (by omega) (by omega) rfl (fun hb => absurd hb (show ¬ (¬ (0 < 1)) by omega)) (fun _ => ?_)
  refine q_load (v := (6, 478, 0)) (p2 := 9) rfl rfl rfl rfl ?_
  refine q_load (v := (2, 3, 0)) (p2 := 10) rfl rfl rfl rfl ?_
  refine q_load (v := (0, 0, 0)) (p2 := 11) rfl rfl rfl rfl ?_
  refine q_callr (xs := [(0, 0, 0), (2, 3, 0)]) (p2 := 12) rfl rfl rfl rfl (fun _ _ => rfl) rfl (zc_a_275_3_0 ) (Nat.le_refl _) (Nat.le_refl _) rfl ?_
  refine q_callvE (xs := [(0, 99, 0), (6, 478, 0)]) (p2 := 13) rfl rfl rfl rfl (x_rcv_s 478 (zD_478 hD).choose_spec.1) rfl (zc_addD hD (by omega) (by omega)) (Nat.le_refl _) (Nat.le_refl _) rfl (fun φ1 hR1 => ?_)
  obtain ⟨hD1, frn1⟩ := hR1
  refine q_iinc (z := 1) (loc2 := [(6, 478, 0), (2, 3, 0), (11, 0, 0), (0, 1, 0), (0, 1, 0)]) (p2 := 14) rfl rfl (by decide) rfl rfl ?_
  refine q_goto rfl ?_
  refine q_load (v := (0, 1, 0)) (p2 := 6) rfl rfl rfl rfl ?_
  refine q_load (v := (0, 1, 0)) (p2 := 7) rfl rfl rfl rfl ?_
  refine q_icmp_s (p2 := 8) rfl (by decide) (by omega) (by omega) rfl (fun _ => ?_) (fun hb => absurd (show ¬ (1 < 1) by omega) hb)
  exact q_ret rfl (⟨rfl, rfl, rfl, hD1, fun j hj0 hj1 hj2 => (frn1 j (by omega) (by omega) (by omega))⟩)
theorem zc_held_0 {d n sl : Nat} {φ : FH} {A : Nat} {B : Nat} {made : Nat} {sv : Nat} {svm : Nat} {s9 : Nat} {comb : Nat → Nat} {hm : Nat → MV} {sz b v : Nat} {bw : Nat → Nat} {L : List Nat}  (hPS : x_PS φ A B made sv svm s9 comb hm) (hS : x_sch φ) (hN : zq_nm φ) (hn0 : 486 ≤ n) (hD : zD φ sz bw L b) (hv : x_mv φ v MV0)  (hb : b < 5800) : x_f x_P (d + 3) 212 [(6, 478, 0), (6, v, 0), (11, 0, 0)] φ n sl (x_vR n sl (fun φ2 => zD φ2 sz bw (L ++ [36]) (b + 1) ∧ ∀ j, j ≠ 478 → j ≠ 479 → j ≠ 480 → φ2 j = φ j)) := by
  refine x_f_of rfl ?_
  refine x_n_lt (fun hlt0 => ?_)
  refine q_load (v := (6, v, 0)) (p2 := 1) rfl rfl rfl rfl ?_
  obtain ⟨fV1, hW1, hg1⟩ := x_mv_gS hv (by decide)
  have hl1 := hlt0 _ _ hW1
  have h6_1 := hv.1
  refine q_getv (v := (0, 0, 0)) (p2 := 2) rfl hW1 (by decide) hg1.1 rfl ?_
  refine q_const (p2 := 3) rfl rfl ?_
  refine q_icmp_s (p2 := 4) rfl (by decide) (by omega) (by omega) rfl (fun hb => absurd hb (show ¬ (0 = 6) by omega)) (fun _ => ?_)
  refine q_load (v := (6, 478, 0)) (p2 := 5) rfl rfl rfl rfl ?_
  refine q_load (v := (6, v, 0)) (p2 := 6) rfl rfl rfl rfl ?_
  refine q_getv (v := (0, 0, 0)) (p2 := 7) rfl hW1 (by decide) hg1.1 rfl ?_
  refine q_load (v := (6, v, 0)) (p2 := 8) rfl rfl rfl rfl ?_
  refine q_getv (v := (2, 0, 0)) (p2 := 9) rfl hW1 (by decide) hg1.2.1 rfl ?_
  refine q_callKv (xs := [(2, 0, 0), (0, 0, 0), (6, 478, 0)]) (p2 := 10) rfl rfl rfl rfl (x_rcv_s 478 (zD_478 hD).choose_spec.1) rfl rfl ?_
  refine x_f_of rfl ?_
  refine q_load (v := (6, 478, 0)) (p2 := 1) rfl rfl rfl rfl ?_
  refine q_getv (v := (6, 7, 0)) (p2 := 2) rfl (zD_478 hD).choose_spec.1 (by decide) (zD_478 hD).choose_spec.2 rfl ?_
  refine q_getv (v := (6, 237, 0)) (p2 := 3) rfl hPS.1.choose_spec.1 (by decide) hPS.1.choose_spec.2.1 rfl ?_
  refine q_getv (v := (6, 239, 0)) (p2 := 4) rfl hS.1.choose_spec.1 (by decide) hS.1.choose_spec.2.2.1 rfl ?_
  refine q_const (p2 := 5) rfl rfl ?_
  refine q_aldv (v := (6, 241, 0)) (p2 := 6) rfl hN.1 (by omega) (by omega) rfl rfl ?_
  refine q_store (loc2 := [(6, 478, 0), (0, 0, 0), (2, 0, 0), (11, 0, 0), (6, 241, 0)]) (p2 := 7) rfl rfl rfl rfl rfl ?_
  refine q_load (v := (0, 0, 0)) (p2 := 8) rfl rfl rfl rfl ?_
  refine q_switch (tgt := 71) rfl (by decide) rfl ?_
  refine q_load (v := (6, 478, 0)) (p2 := 72) rfl rfl rfl rfl ?_
  refine q_const (p2 := 73) rfl rfl ?_
  refine q_callvE (xs := [(0, 36, 0), (6, 478, 0)]) (p2 := 74) rfl rfl rfl rfl (x_rcv_s 478 (zD_478 hD).choose_spec.1) rfl (zc_addD hD (by omega) (by omega)) (Nat.le_refl _) (Nat.le_refl _) rfl (fun φ2 hR2 => ?_)
  obtain ⟨hD2, frn2⟩ := hR2
  refine q_ret rfl ⟨rfl, by omega, by omega, ?_⟩
  exact q_ret rfl (⟨rfl, rfl, rfl, hD2, fun j hj0 hj1 hj2 => (frn2 j (by omega) (by omega) (by omega))⟩)
theorem zc_held_1 {d n sl : Nat} {φ : FH} {A : Nat} {B : Nat} {made : Nat} {sv : Nat} {svm : Nat} {s9 : Nat} {comb : Nat → Nat} {hm : Nat → MV} {sz b v : Nat} {bw : Nat → Nat} {L : List Nat} {ka : Nat} (hPS : x_PS φ A B made sv svm s9 comb hm) (hS : x_sch φ) (hN : zq_nm φ) (hn0 : 486 ≤ n) (hD : zD φ sz bw L b) (hv : x_mv φ v (1, ka, 0, 0, [])) (hka : ka < 1024) (hb : b < 5800) : x_f x_P (d + 4) 212 [(6, 478, 0), (6, v, 0), (11, 0, 0)] φ n sl (x_vR n sl (fun φ2 => zD φ2 sz bw (L ++ xdec ka) (b + 4) ∧ ∀ j, j ≠ 478 → j ≠ 479 → j ≠ 480 → φ2 j = φ j)) := by
  refine x_f_of rfl ?_
  refine x_n_lt (fun hlt0 => ?_)
  refine q_load (v := (6, v, 0)) (p2 := 1) rfl rfl rfl rfl ?_
  obtain ⟨fV1, hW1, hg1⟩ := x_mv_gS hv (by decide)
  have hl1 := hlt0 _ _ hW1
  have h6_1 := hv.1
  refine q_getv (v := (0, 1, 0)) (p2 := 2) rfl hW1 (by decide) hg1.1 rfl ?_
  refine q_const (p2 := 3) rfl rfl ?_
  refine q_icmp_s (p2 := 4) rfl (by decide) (by omega) (by omega) rfl (fun hb => absurd hb (show ¬ (1 = 6) by omega)) (fun _ => ?_)
  refine q_load (v := (6, 478, 0)) (p2 := 5) rfl rfl rfl rfl ?_
  refine q_load (v := (6, v, 0)) (p2 := 6) rfl rfl rfl rfl ?_
  refine q_getv (v := (0, 1, 0)) (p2 := 7) rfl hW1 (by decide) hg1.1 rfl ?_
  refine q_load (v := (6, v, 0)) (p2 := 8) rfl rfl rfl rfl ?_
  refine q_getv (v := (2, ka, 0)) (p2 := 9) rfl hW1 (by decide) hg1.2.1 rfl ?_
  refine q_callKv (xs := [(2, ka, 0), (0, 1, 0), (6, 478, 0)]) (p2 := 10) rfl rfl rfl rfl (x_rcv_s 478 (zD_478 hD).choose_spec.1) rfl rfl ?_
  refine x_f_of rfl ?_
  refine q_load (v := (6, 478, 0)) (p2 := 1) rfl rfl rfl rfl ?_
  refine q_getv (v := (6, 7, 0)) (p2 := 2) rfl (zD_478 hD).choose_spec.1 (by decide) (zD_478 hD).choose_spec.2 rfl ?_
  refine q_getv (v := (6, 237, 0)) (p2 := 3) rfl hPS.1.choose_spec.1 (by decide) hPS.1.choose_spec.2.1 rfl ?_
  refine q_getv (v := (6, 239, 0)) (p2 := 4) rfl hS.1.choose_spec.1 (by decide) hS.1.choose_spec.2.2.1 rfl ?_
  refine q_const (p2 := 5) rfl rfl ?_
  refine q_aldv (v := (6, 241, 0)) (p2 := 6) rfl hN.1 (by omega) (by omega) rfl rfl ?_
  refine q_store (loc2 := [(6, 478, 0), (0, 1, 0), (2, ka, 0), (11, 0, 0), (6, 241, 0)]) (p2 := 7) rfl rfl rfl rfl rfl ?_
  refine q_load (v := (0, 1, 0)) (p2 := 8) rfl rfl rfl rfl ?_
  refine q_switch (tgt := 9) rfl (by decide) rfl ?_
  refine q_load (v := (6, 478, 0)) (p2 := 10) rfl rfl rfl rfl ?_
  refine q_load (v := (2, ka, 0)) (p2 := 11) rfl rfl rfl rfl ?_
  refine q_callvE (xs := [(2, ka, 0), (6, 478, 0)]) (p2 := 12) rfl rfl rfl rfl (x_rcv_s 478 (zD_478 hD).choose_spec.1) rfl (zc_wnum hD (by omega) (by omega)) (Nat.le_refl _) (Nat.le_refl _) rfl (fun φ2 hR2 => ?_)
  obtain ⟨hD2, frn2⟩ := hR2
  refine q_goto rfl ?_
  refine q_ret rfl ⟨rfl, by omega, by omega, ?_⟩
  exact q_ret rfl (⟨rfl, rfl, rfl, hD2, fun j hj0 hj1 hj2 => (frn2 j (by omega) (by omega) (by omega))⟩)
theorem zc_held_5 {d n sl : Nat} {φ : FH} {A : Nat} {B : Nat} {made : Nat} {sv : Nat} {svm : Nat} {s9 : Nat} {comb : Nat → Nat} {hm : Nat → MV} {sz b v : Nat} {bw : Nat → Nat} {L : List Nat} {ka : Nat} (hPS : x_PS φ A B made sv svm s9 comb hm) (hS : x_sch φ) (hN : zq_nm φ) (hn0 : 486 ≤ n) (hD : zD φ sz bw L b) (hv : x_mv φ v (5, ka, 0, 0, [])) (hka : ka < 1024) (hb : b < 5800) : x_f x_P (d + 4) 212 [(6, 478, 0), (6, v, 0), (11, 0, 0)] φ n sl (x_vR n sl (fun φ2 => zD φ2 sz bw ((L ++ [35]) ++ xdec ka) (b + 5) ∧ ∀ j, j ≠ 478 → j ≠ 479 → j ≠ 480 → φ2 j = φ j)) := by
  refine x_f_of rfl ?_
  refine x_n_lt (fun hlt0 => ?_)
  refine q_load (v := (6, v, 0)) (p2 := 1) rfl rfl rfl rfl ?_
  obtain ⟨fV1, hW1, hg1⟩ := x_mv_gS hv (by decide)
  have hl1 := hlt0 _ _ hW1
  have h6_1 := hv.1
  refine q_getv (v := (0, 5, 0)) (p2 := 2) rfl hW1 (by decide) hg1.1 rfl ?_
  refine q_const (p2 := 3) rfl rfl ?_
  refine q_icmp_s (p2 := 4) rfl (by decide) (by omega) (by omega) rfl (fun hb => absurd hb (show ¬ (5 = 6) by omega)) (fun _ => ?_)
  refine q_load (v := (6, 478, 0)) (p2 := 5) rfl rfl rfl rfl ?_
  refine q_load (v := (6, v, 0)) (p2 := 6) rfl rfl rfl rfl ?_
  refine q_getv (v := (0, 5, 0)) (p2 := 7) rfl hW1 (by decide) hg1.1 rfl ?_
  refine q_load (v := (6, v, 0)) (p2 := 8) rfl rfl rfl rfl ?_
  refine q_getv (v := (2, ka, 0)) (p2 := 9) rfl hW1 (by decide) hg1.2.1 rfl ?_
  refine q_callKv (xs := [(2, ka, 0), (0, 5, 0), (6, 478, 0)]) (p2 := 10) rfl rfl rfl rfl (x_rcv_s 478 (zD_478 hD).choose_spec.1) rfl rfl ?_
  refine x_f_of rfl ?_
  refine q_load (v := (6, 478, 0)) (p2 := 1) rfl rfl rfl rfl ?_
  refine q_getv (v := (6, 7, 0)) (p2 := 2) rfl (zD_478 hD).choose_spec.1 (by decide) (zD_478 hD).choose_spec.2 rfl ?_
  refine q_getv (v := (6, 237, 0)) (p2 := 3) rfl hPS.1.choose_spec.1 (by decide) hPS.1.choose_spec.2.1 rfl ?_
  refine q_getv (v := (6, 239, 0)) (p2 := 4) rfl hS.1.choose_spec.1 (by decide) hS.1.choose_spec.2.2.1 rfl ?_
  refine q_const (p2 := 5) rfl rfl ?_
  refine q_aldv (v := (6, 241, 0)) (p2 := 6) rfl hN.1 (by omega) (by omega) rfl rfl ?_
  refine q_store (loc2 := [(6, 478, 0), (0, 5, 0), (2, ka, 0), (11, 0, 0), (6, 241, 0)]) (p2 := 7) rfl rfl rfl rfl rfl ?_
  refine q_load (v := (0, 5, 0)) (p2 := 8) rfl rfl rfl rfl ?_
  refine q_switch (tgt := 64) rfl (by decide) rfl ?_
  refine q_load (v := (6, 478, 0)) (p2 := 65) rfl rfl rfl rfl ?_
  refine q_const (p2 := 66) rfl rfl ?_
  refine q_callvE (xs := [(0, 35, 0), (6, 478, 0)]) (p2 := 67) rfl rfl rfl rfl (x_rcv_s 478 (zD_478 hD).choose_spec.1) rfl (zc_addD hD (by omega) (by omega)) (Nat.le_refl _) (Nat.le_refl _) rfl (fun φ2 hR2 => ?_)
  obtain ⟨hD2, frn2⟩ := hR2
  refine q_load (v := (6, 478, 0)) (p2 := 68) rfl rfl rfl rfl ?_
  refine q_load (v := (2, ka, 0)) (p2 := 69) rfl rfl rfl rfl ?_
  refine q_callvE (xs := [(2, ka, 0), (6, 478, 0)]) (p2 := 70) rfl rfl rfl rfl (x_rcv_s 478 (zD_478 hD2).choose_spec.1) rfl (zc_wnum hD2 (by omega) (by omega)) (Nat.le_refl _) (Nat.le_refl _) rfl (fun φ3 hR3 => ?_)
  obtain ⟨hD3, frn3⟩ := hR3
  refine q_goto rfl ?_
  refine q_ret rfl ⟨rfl, by omega, by omega, ?_⟩
  exact q_ret rfl (⟨rfl, rfl, rfl, hD3, fun j hj0 hj1 hj2 => ((frn3 j (by omega) (by omega) (by omega)).trans (frn2 j (by omega) (by omega) (by omega)))⟩)
theorem zc_held_60 {d n sl : Nat} {φ : FH} {A : Nat} {B : Nat} {made : Nat} {sv : Nat} {svm : Nat} {s9 : Nat} {comb : Nat → Nat} {hm : Nat → MV} {sz b v : Nat} {bw : Nat → Nat} {L : List Nat}  (hPS : x_PS φ A B made sv svm s9 comb hm) (hS : x_sch φ) (hN : zq_nm φ) (hn0 : 486 ≤ n) (hD : zD φ sz bw L b) (hv : x_mv φ v (6, 0, 3, 5, []))  (hb : b < 5800) : x_f x_P (d + 2) 212 [(6, 478, 0), (6, v, 0), (11, 0, 0)] φ n sl (x_vR n sl (fun φ2 => zD φ2 sz bw ((L ++ [40]) ++ [41]) (b + 2) ∧ ∀ j, j ≠ 478 → j ≠ 479 → j ≠ 480 → φ2 j = φ j)) := by
  refine x_f_of rfl ?_
  refine x_n_lt (fun hlt0 => ?_)
  refine q_load (v := (6, v, 0)) (p2 := 1) rfl rfl rfl rfl ?_
  obtain ⟨fA1, cA1, gA1, h8_1, hW1, hg1, hcA1, hgA1, hlA1, hLA1⟩ := x_mv_gA hv
  have hl1 := hlt0 _ _ hW1
  have h6_1 := hv.1
  have hlB1 : ([]).length ≤ 24 := hlA1
  refine q_getv (v := (0, 6, 0)) (p2 := 2) rfl hW1 (by decide) hg1.1 rfl ?_
  refine q_const (p2 := 3) rfl rfl ?_
  refine q_icmp_s (p2 := 4) rfl (by decide) (by omega) (by omega) rfl (fun _ => ?_) (fun hb => absurd (show 6 = 6 by omega) hb)
  refine q_load (v := (6, 478, 0)) (p2 := 12) rfl rfl rfl rfl ?_
  refine q_const (p2 := 13) rfl rfl ?_
  refine q_callvE (xs := [(0, 40, 0), (6, 478, 0)]) (p2 := 14) rfl rfl rfl rfl (x_rcv_s 478 (zD_478 hD).choose_spec.1) rfl (zc_addD hD (by omega) (by omega)) (Nat.le_refl _) (Nat.le_refl _) rfl (fun φ2 hR2 => ?_)
  obtain ⟨hD2, frn2⟩ := hR2
  refine q_const (p2 := 15) rfl rfl ?_
  refine q_store (loc2 := [(6, 478, 0), (6, v, 0), (0, 0, 0)]) (p2 := 16) rfl rfl rfl rfl rfl ?_
  refine q_load (v := (0, 0, 0)) (p2 := 17) rfl rfl rfl rfl ?_
  refine q_load (v := (6, v, 0)) (p2 := 18) rfl rfl rfl rfl ?_
  refine q_getv (v := (6, cA1, 0)) (p2 := 19) rfl ((frn2 v (by omega) (by omega) (by omega)).trans hW1) (by decide) hg1.2.2.2.2.2.2 rfl ?_
  refine q_alen (p2 := 20) rfl ((frn2 cA1 (by omega) (by omega) (by omega)).trans (show φ cA1 = some (6, 0, 0, gA1) from hcA1)) rfl (by omega) rfl ?_
  refine q_icmp_s (p2 := 21) rfl (by decide) (by omega) (by omega) rfl (fun _ => ?_) (fun hb => absurd (show ¬ (0 < 0) by omega) hb)
  refine q_load (v := (6, 478, 0)) (p2 := 37) rfl rfl rfl rfl ?_
  refine q_const (p2 := 38) rfl rfl ?_
  refine q_callvE (xs := [(0, 41, 0), (6, 478, 0)]) (p2 := 39) rfl rfl rfl rfl (x_rcv_s 478 (zD_478 hD2).choose_spec.1) rfl (zc_addD hD2 (by omega) (by omega)) (Nat.le_refl _) (Nat.le_refl _) rfl (fun φ3 hR3 => ?_)
  obtain ⟨hD3, frn3⟩ := hR3
  exact q_ret rfl (⟨rfl, rfl, rfl, hD3, fun j hj0 hj1 hj2 => ((frn3 j (by omega) (by omega) (by omega)).trans (frn2 j (by omega) (by omega) (by omega)))⟩)
theorem zc_held_61 {d n sl : Nat} {φ : FH} {A : Nat} {B : Nat} {made : Nat} {sv : Nat} {svm : Nat} {s9 : Nat} {comb : Nat → Nat} {hm : Nat → MV} {sz b v : Nat} {bw : Nat → Nat} {L : List Nat} {ka : Nat} (hPS : x_PS φ A B made sv svm s9 comb hm) (hS : x_sch φ) (hN : zq_nm φ) (hn0 : 486 ≤ n) (hD : zD φ sz bw L b) (hv : x_mv φ v (6, 0, 3, 5, [ka])) (hka : ka < 1024) (hb : b < 5800) : x_f x_P (d + 5) 212 [(6, 478, 0), (6, v, 0), (11, 0, 0)] φ n sl (x_vR n sl (fun φ2 => zD φ2 sz bw ((((L ++ [40]) ++ [35]) ++ xdec ka) ++ [41]) (b + 7) ∧ ∀ j, j ≠ 478 → j ≠ 479 → j ≠ 480 → φ2 j = φ j)) := by
  refine x_f_of rfl ?_
  refine x_n_lt (fun hlt0 => ?_)
  refine q_load (v := (6, v, 0)) (p2 := 1) rfl rfl rfl rfl ?_
  obtain ⟨fA1, cA1, gA1, h8_1, hW1, hg1, hcA1, hgA1, hlA1, hLA1⟩ := x_mv_gA hv
  have hl1 := hlt0 _ _ hW1
  have h6_1 := hv.1
  have hlB1 : ([ka]).length ≤ 24 := hlA1
  refine q_getv (v := (0, 6, 0)) (p2 := 2) rfl hW1 (by decide) hg1.1 rfl ?_
  refine q_const (p2 := 3) rfl rfl ?_
  refine q_icmp_s (p2 := 4) rfl (by decide) (by omega) (by omega) rfl (fun _ => ?_) (fun hb => absurd (show 6 = 6 by omega) hb)
  refine q_load (v := (6, 478, 0)) (p2 := 12) rfl rfl rfl rfl ?_
  refine q_const (p2 := 13) rfl rfl ?_
  refine q_callvE (xs := [(0, 40, 0), (6, 478, 0)]) (p2 := 14) rfl rfl rfl rfl (x_rcv_s 478 (zD_478 hD).choose_spec.1) rfl (zc_addD hD (by omega) (by omega)) (Nat.le_refl _) (Nat.le_refl _) rfl (fun φ2 hR2 => ?_)
  obtain ⟨hD2, frn2⟩ := hR2
  refine q_const (p2 := 15) rfl rfl ?_
  refine q_store (loc2 := [(6, 478, 0), (6, v, 0), (0, 0, 0)]) (p2 := 16) rfl rfl rfl rfl rfl ?_
  refine q_load (v := (0, 0, 0)) (p2 := 17) rfl rfl rfl rfl ?_
  refine q_load (v := (6, v, 0)) (p2 := 18) rfl rfl rfl rfl ?_
  refine q_getv (v := (6, cA1, 0)) (p2 := 19) rfl ((frn2 v (by omega) (by omega) (by omega)).trans hW1) (by decide) hg1.2.2.2.2.2.2 rfl ?_
  refine q_alen (p2 := 20) rfl ((frn2 cA1 (by omega) (by omega) (by omega)).trans (show φ cA1 = some (6, 0, 1, gA1) from hcA1)) rfl (by omega) rfl ?_
  refine q_icmp_s (p2 := 21) rfl (by decide) (by omega) (by omega) rfl (fun hb => absurd hb (show ¬ (¬ (0 < 1)) by omega)) (fun _ => ?_)
  refine q_load (v := (0, 0, 0)) (p2 := 22) rfl rfl rfl rfl ?_
  refine q_if0_s (p2 := 23) rfl (by decide) (by omega) rfl (fun _ => ?_) (fun hb => absurd (show ¬ (0 < 0) by omega) hb)
  refine q_load (v := (6, 478, 0)) (p2 := 27) rfl rfl rfl rfl ?_
  refine q_load (v := (6, v, 0)) (p2 := 28) rfl rfl rfl rfl ?_
  refine q_load (v := (0, 0, 0)) (p2 := 29) rfl rfl rfl rfl ?_
  refine q_callK (xs := [(0, 0, 0), (6, v, 0)]) (p2 := 30) rfl rfl rfl rfl (x_rcv_s v ((frn2 v (by omega) (by omega) (by omega)).trans hW1)) rfl rfl ?_
  refine x_f_of rfl ?_
  refine q_load (v := (0, 0, 0)) (p2 := 1) rfl rfl rfl rfl ?_
  refine q_if0_s (p2 := 2) rfl (by decide) (by omega) rfl (fun hb => absurd hb (show ¬ (0 < 0) by omega)) (fun _ => ?_)
  refine q_load (v := (0, 0, 0)) (p2 := 3) rfl rfl rfl rfl ?_
  refine q_load (v := (6, v, 0)) (p2 := 4) rfl rfl rfl rfl ?_
  refine q_getv (v := (6, cA1, 0)) (p2 := 5) rfl ((frn2 v (by omega) (by omega) (by omega)).trans hW1) (by decide) hg1.2.2.2.2.2.2 rfl ?_
  refine q_alen (p2 := 6) rfl ((frn2 cA1 (by omega) (by omega) (by omega)).trans (show φ cA1 = some (6, 0, 1, gA1) from hcA1)) rfl (by omega) rfl ?_
  refine q_icmp_s (p2 := 7) rfl (by decide) (by omega) (by omega) rfl (fun hb => absurd hb (show ¬ (¬ (0 < 1)) by omega)) (fun _ => ?_)
  refine q_load (v := (6, v, 0)) (p2 := 8) rfl rfl rfl rfl ?_
  refine q_load (v := (0, 0, 0)) (p2 := 9) rfl rfl rfl rfl ?_
  refine q_callK (xs := [(0, 0, 0), (6, v, 0)]) (p2 := 10) rfl rfl rfl rfl (x_rcv_s v ((frn2 v (by omega) (by omega) (by omega)).trans hW1)) rfl rfl ?_
  refine x_f_of rfl ?_
  refine q_load (v := (6, v, 0)) (p2 := 1) rfl rfl rfl rfl ?_
  refine q_getv (v := (0, 0, 0)) (p2 := 2) rfl ((frn2 v (by omega) (by omega) (by omega)).trans hW1) (by decide) hg1.2.2.2.2.2.1 rfl ?_
  refine q_load (v := (0, 0, 0)) (p2 := 3) rfl rfl rfl rfl ?_
  refine q_iop (w := 0 >>> (0 % 32)) (z := 0) (p2 := 4) rfl (xo_shr (show 0 < 2147483648 by decide) 0) (by decide) rfl ?_
  refine q_const (p2 := 5) rfl rfl ?_
  refine q_iop (w := 0 &&& 1) (z := 0) (p2 := 6) rfl (xo_and 0 1) (by decide) rfl ?_
  refine q_const (p2 := 7) rfl rfl ?_
  refine q_icmp_s (p2 := 8) rfl (by decide) (by omega) (by omega) rfl (fun _ => ?_) (fun hb => absurd (show ¬ (0 = 1) by omega) hb)
  refine q_const (p2 := 11) rfl rfl ?_
  refine q_retv (v := (0, 0, 0)) rfl rfl ⟨rfl, by omega, by omega, ?_⟩
  refine q_if0_s (p2 := 11) rfl (by decide) (by omega) rfl (fun _ => ?_) (fun hb => absurd (show 0 = 0 by omega) hb)
  refine q_load (v := (6, v, 0)) (p2 := 14) rfl rfl rfl rfl ?_
  refine q_getv (v := (0, 5, 0)) (p2 := 15) rfl ((frn2 v (by omega) (by omega) (by omega)).trans hW1) (by decide) hg1.2.2.2.2.1 rfl ?_
  refine q_retv (v := (0, 5, 0)) rfl rfl ⟨rfl, by omega, by omega, ?_⟩
  refine q_load (v := (6, v, 0)) (p2 := 31) rfl rfl rfl rfl ?_
  refine q_load (v := (0, 0, 0)) (p2 := 32) rfl rfl rfl rfl ?_
  refine q_callK (xs := [(0, 0, 0), (6, v, 0)]) (p2 := 33) rfl rfl rfl rfl (x_rcv_s v ((frn2 v (by omega) (by omega) (by omega)).trans hW1)) rfl rfl ?_
  refine x_f_of rfl ?_
  refine q_load (v := (0, 0, 0)) (p2 := 1) rfl rfl rfl rfl ?_
  refine q_if0_s (p2 := 2) rfl (by decide) (by omega) rfl (fun hb => absurd hb (show ¬ (0 < 0) by omega)) (fun _ => ?_)
  refine q_load (v := (0, 0, 0)) (p2 := 3) rfl rfl rfl rfl ?_
  refine q_load (v := (6, v, 0)) (p2 := 4) rfl rfl rfl rfl ?_
  refine q_getv (v := (6, cA1, 0)) (p2 := 5) rfl ((frn2 v (by omega) (by omega) (by omega)).trans hW1) (by decide) hg1.2.2.2.2.2.2 rfl ?_
  refine q_alen (p2 := 6) rfl ((frn2 cA1 (by omega) (by omega) (by omega)).trans (show φ cA1 = some (6, 0, 1, gA1) from hcA1)) rfl (by omega) rfl ?_
  refine q_icmp_s (p2 := 7) rfl (by decide) (by omega) (by omega) rfl (fun hb => absurd hb (show ¬ (¬ (0 < 1)) by omega)) (fun _ => ?_)
  refine q_load (v := (6, v, 0)) (p2 := 8) rfl rfl rfl rfl ?_
  refine q_load (v := (0, 0, 0)) (p2 := 9) rfl rfl rfl rfl ?_
  refine q_callK (xs := [(0, 0, 0), (6, v, 0)]) (p2 := 10) rfl rfl rfl rfl (x_rcv_s v ((frn2 v (by omega) (by omega) (by omega)).trans hW1)) rfl rfl ?_
  refine x_f_of rfl ?_
  refine q_load (v := (6, v, 0)) (p2 := 1) rfl rfl rfl rfl ?_
  refine q_getv (v := (0, 0, 0)) (p2 := 2) rfl ((frn2 v (by omega) (by omega) (by omega)).trans hW1) (by decide) hg1.2.2.2.2.2.1 rfl ?_
  refine q_load (v := (0, 0, 0)) (p2 := 3) rfl rfl rfl rfl ?_
  refine q_iop (w := 0 >>> (0 % 32)) (z := 0) (p2 := 4) rfl (xo_shr (show 0 < 2147483648 by decide) 0) (by decide) rfl ?_
  refine q_const (p2 := 5) rfl rfl ?_
  refine q_iop (w := 0 &&& 1) (z := 0) (p2 := 6) rfl (xo_and 0 1) (by decide) rfl ?_
  refine q_const (p2 := 7) rfl rfl ?_
  refine q_icmp_s (p2 := 8) rfl (by decide) (by omega) (by omega) rfl (fun _ => ?_) (fun hb => absurd (show ¬ (0 = 1) by omega) hb)
  refine q_const (p2 := 11) rfl rfl ?_
  refine q_retv (v := (0, 0, 0)) rfl rfl ⟨rfl, by omega, by omega, ?_⟩
  refine q_if0_s (p2 := 11) rfl (by decide) (by omega) rfl (fun _ => ?_) (fun hb => absurd (show 0 = 0 by omega) hb)
  refine q_load (v := (6, v, 0)) (p2 := 14) rfl rfl rfl rfl ?_
  refine q_getv (v := (6, cA1, 0)) (p2 := 15) rfl ((frn2 v (by omega) (by omega) (by omega)).trans hW1) (by decide) hg1.2.2.2.2.2.2 rfl ?_
  refine q_load (v := (0, 0, 0)) (p2 := 16) rfl rfl rfl rfl ?_
  refine q_aldv (v := (2, ka, 0)) (p2 := 17) rfl ((frn2 cA1 (by omega) (by omega) (by omega)).trans (show φ cA1 = some (6, 0, 1, gA1) from hcA1)) (by omega) (by omega) (hgA1 0 (by show 0 < 1; decide)) rfl ?_
  refine q_retv (v := (2, ka, 0)) rfl rfl ⟨rfl, by omega, by omega, ?_⟩
  refine q_callKv (xs := [(2, ka, 0), (0, 5, 0), (6, 478, 0)]) (p2 := 34) rfl rfl rfl rfl (x_rcv_s 478 (zD_478 hD2).choose_spec.1) rfl rfl ?_
  refine x_f_of rfl ?_
  refine q_load (v := (6, 478, 0)) (p2 := 1) rfl rfl rfl rfl ?_
  refine q_getv (v := (6, 7, 0)) (p2 := 2) rfl (zD_478 hD2).choose_spec.1 (by decide) (zD_478 hD2).choose_spec.2 rfl ?_
  refine x_n_lt (fun hlt4 => ?_)
  have hm3 := (x_PS_at hPS (fun j hj hne => by have hj2 := x_some_lt hlt0 hne; exact (frn2 j (by omega) (by omega) (by omega))))
  refine q_getv (v := (6, 237, 0)) (p2 := 3) rfl hm3.1.choose_spec.1 (by decide) hm3.1.choose_spec.2.1 rfl ?_
  have hm5 := (x_sch_at hS (fun j h1 h2 => (frn2 j (by omega) (by omega) (by omega))))
  refine q_getv (v := (6, 239, 0)) (p2 := 4) rfl hm5.1.choose_spec.1 (by decide) hm5.1.choose_spec.2.2.1 rfl ?_
  refine q_const (p2 := 5) rfl rfl ?_
  have hm6 := (zq_nm_at hN (frn2 239 (by omega) (by omega) (by omega)) (frn2 242 (by omega) (by omega) (by omega)) (frn2 244 (by omega) (by omega) (by omega)))
  refine q_aldv (v := (6, 241, 0)) (p2 := 6) rfl hm6.1 (by omega) (by omega) rfl rfl ?_
  refine q_store (loc2 := [(6, 478, 0), (0, 5, 0), (2, ka, 0), (11, 0, 0), (6, 241, 0)]) (p2 := 7) rfl rfl rfl rfl rfl ?_
  refine q_load (v := (0, 5, 0)) (p2 := 8) rfl rfl rfl rfl ?_
  refine q_switch (tgt := 64) rfl (by decide) rfl ?_
  refine q_load (v := (6, 478, 0)) (p2 := 65) rfl rfl rfl rfl ?_
  refine q_const (p2 := 66) rfl rfl ?_
  refine q_callvE (xs := [(0, 35, 0), (6, 478, 0)]) (p2 := 67) rfl rfl rfl rfl (x_rcv_s 478 (zD_478 hD2).choose_spec.1) rfl (zc_addD hD2 (by omega) (by omega)) (Nat.le_refl _) (Nat.le_refl _) rfl (fun φ7 hR7 => ?_)
  obtain ⟨hD7, frn7⟩ := hR7
  refine q_load (v := (6, 478, 0)) (p2 := 68) rfl rfl rfl rfl ?_
  refine q_load (v := (2, ka, 0)) (p2 := 69) rfl rfl rfl rfl ?_
  refine q_callvE (xs := [(2, ka, 0), (6, 478, 0)]) (p2 := 70) rfl rfl rfl rfl (x_rcv_s 478 (zD_478 hD7).choose_spec.1) rfl (zc_wnum hD7 (by omega) (by omega)) (Nat.le_refl _) (Nat.le_refl _) rfl (fun φ8 hR8 => ?_)
  obtain ⟨hD8, frn8⟩ := hR8
  refine q_goto rfl ?_
  refine q_ret rfl ⟨rfl, by omega, by omega, ?_⟩
  refine q_iinc (z := 1) (loc2 := [(6, 478, 0), (6, v, 0), (0, 1, 0)]) (p2 := 35) rfl rfl (by decide) rfl rfl ?_
  refine q_goto rfl ?_
  refine q_load (v := (0, 1, 0)) (p2 := 17) rfl rfl rfl rfl ?_
  refine q_load (v := (6, v, 0)) (p2 := 18) rfl rfl rfl rfl ?_
  refine q_getv (v := (6, cA1, 0)) (p2 := 19) rfl (((frn8 v (by omega) (by omega) (by omega)).trans ((frn7 v (by omega) (by omega) (by omega)).trans (frn2 v (by omega) (by omega) (by omega)))).trans hW1) (by decide) hg1.2.2.2.2.2.2 rfl ?_
  refine q_alen (p2 := 20) rfl (((frn8 cA1 (by omega) (by omega) (by omega)).trans ((frn7 cA1 (by omega) (by omega) (by omega)).trans (frn2 cA1 (by omega) (by omega) (by omega)))).trans (show φ cA1 = some (6, 0, 1, gA1) from hcA1)) rfl (by omega) rfl ?_
  refine q_icmp_s (p2 := 21) rfl (by decide) (by omega) (by omega) rfl (fun _ => ?_) (fun hb => absurd (show ¬ (1 < 1) by omega) hb)
  refine q_load (v := (6, 478, 0)) (p2 := 37) rfl rfl rfl rfl ?_
  refine q_const (p2 := 38) rfl rfl ?_
  refine q_callvE (xs := [(0, 41, 0), (6, 478, 0)]) (p2 := 39) rfl rfl rfl rfl (x_rcv_s 478 (zD_478 hD8).choose_spec.1) rfl (zc_addD hD8 (by omega) (by omega)) (Nat.le_refl _) (Nat.le_refl _) rfl (fun φ9 hR9 => ?_)
  obtain ⟨hD9, frn9⟩ := hR9
  exact q_ret rfl (⟨rfl, rfl, rfl, hD9, fun j hj0 hj1 hj2 => ((frn9 j (by omega) (by omega) (by omega)).trans ((frn8 j (by omega) (by omega) (by omega)).trans ((frn7 j (by omega) (by omega) (by omega)).trans (frn2 j (by omega) (by omega) (by omega)))))⟩)
theorem zc_held_62 {d n sl : Nat} {φ : FH} {A : Nat} {B : Nat} {made : Nat} {sv : Nat} {svm : Nat} {s9 : Nat} {comb : Nat → Nat} {hm : Nat → MV} {sz b v : Nat} {bw : Nat → Nat} {L : List Nat} {ka kb : Nat} (hPS : x_PS φ A B made sv svm s9 comb hm) (hS : x_sch φ) (hN : zq_nm φ) (hn0 : 486 ≤ n) (hD : zD φ sz bw L b) (hv : x_mv φ v (6, 0, 3, 5, [ka, kb])) (hka : ka < 1024) (hkb : kb < 1024) (hb : b < 5800) : x_f x_P (d + 7) 212 [(6, 478, 0), (6, v, 0), (11, 0, 0)] φ n sl (x_vR n sl (fun φ2 => zD φ2 sz bw (((((((L ++ [40]) ++ [35]) ++ xdec ka) ++ [44]) ++ [35]) ++ xdec kb) ++ [41]) (b + 13) ∧ ∀ j, j ≠ 478 → j ≠ 479 → j ≠ 480 → φ2 j = φ j)) := by
  refine x_f_of rfl ?_
  refine x_n_lt (fun hlt0 => ?_)
  refine q_load (v := (6, v, 0)) (p2 := 1) rfl rfl rfl rfl ?_
  obtain ⟨fA1, cA1, gA1, h8_1, hW1, hg1, hcA1, hgA1, hlA1, hLA1⟩ := x_mv_gA hv
  have hl1 := hlt0 _ _ hW1
  have h6_1 := hv.1
  have hlB1 : ([ka, kb]).length ≤ 24 := hlA1
  refine q_getv (v := (0, 6, 0)) (p2 := 2) rfl hW1 (by decide) hg1.1 rfl ?_
  refine q_const (p2 := 3) rfl rfl ?_
  refine q_icmp_s (p2 := 4) rfl (by decide) (by omega) (by omega) rfl (fun _ => ?_) (fun hb => absurd (show 6 = 6 by omega) hb)
  refine q_load (v := (6, 478, 0)) (p2 := 12) rfl rfl rfl rfl ?_
  refine q_const (p2 := 13) rfl rfl ?_
  refine q_callvE (xs := [(0, 40, 0), (6, 478, 0)]) (p2 := 14) rfl rfl rfl rfl (x_rcv_s 478 (zD_478 hD).choose_spec.1) rfl (zc_addD hD (by omega) (by omega)) (Nat.le_refl _) (Nat.le_refl _) rfl (fun φ2 hR2 => ?_)
  obtain ⟨hD2, frn2⟩ := hR2
  refine q_const (p2 := 15) rfl rfl ?_
  refine q_store (loc2 := [(6, 478, 0), (6, v, 0), (0, 0, 0)]) (p2 := 16) rfl rfl rfl rfl rfl ?_
  refine q_load (v := (0, 0, 0)) (p2 := 17) rfl rfl rfl rfl ?_
  refine q_load (v := (6, v, 0)) (p2 := 18) rfl rfl rfl rfl ?_
  refine q_getv (v := (6, cA1, 0)) (p2 := 19) rfl ((frn2 v (by omega) (by omega) (by omega)).trans hW1) (by decide) hg1.2.2.2.2.2.2 rfl ?_
  refine q_alen (p2 := 20) rfl ((frn2 cA1 (by omega) (by omega) (by omega)).trans (show φ cA1 = some (6, 0, 2, gA1) from hcA1)) rfl (by omega) rfl ?_
  refine q_icmp_s (p2 := 21) rfl (by decide) (by omega) (by omega) rfl (fun hb => absurd hb (show ¬ (¬ (0 < 2)) by omega)) (fun _ => ?_)
  refine q_load (v := (0, 0, 0)) (p2 := 22) rfl rfl rfl rfl ?_
  refine q_if0_s (p2 := 23) rfl (by decide) (by omega) rfl (fun _ => ?_) (fun hb => absurd (show ¬ (0 < 0) by omega) hb)
  refine q_load (v := (6, 478, 0)) (p2 := 27) rfl rfl rfl rfl ?_
  refine q_load (v := (6, v, 0)) (p2 := 28) rfl rfl rfl rfl ?_
  refine q_load (v := (0, 0, 0)) (p2 := 29) rfl rfl rfl rfl ?_
  refine q_callK (xs := [(0, 0, 0), (6, v, 0)]) (p2 := 30) rfl rfl rfl rfl (x_rcv_s v ((frn2 v (by omega) (by omega) (by omega)).trans hW1)) rfl rfl ?_
  refine x_f_of rfl ?_
  refine q_load (v := (0, 0, 0)) (p2 := 1) rfl rfl rfl rfl ?_
  refine q_if0_s (p2 := 2) rfl (by decide) (by omega) rfl (fun hb => absurd hb (show ¬ (0 < 0) by omega)) (fun _ => ?_)
  refine q_load (v := (0, 0, 0)) (p2 := 3) rfl rfl rfl rfl ?_
  refine q_load (v := (6, v, 0)) (p2 := 4) rfl rfl rfl rfl ?_
  refine q_getv (v := (6, cA1, 0)) (p2 := 5) rfl ((frn2 v (by omega) (by omega) (by omega)).trans hW1) (by decide) hg1.2.2.2.2.2.2 rfl ?_
  refine q_alen (p2 := 6) rfl ((frn2 cA1 (by omega) (by omega) (by omega)).trans (show φ cA1 = some (6, 0, 2, gA1) from hcA1)) rfl (by omega) rfl ?_
  refine q_icmp_s (p2 := 7) rfl (by decide) (by omega) (by omega) rfl (fun hb => absurd hb (show ¬ (¬ (0 < 2)) by omega)) (fun _ => ?_)
  refine q_load (v := (6, v, 0)) (p2 := 8) rfl rfl rfl rfl ?_
  refine q_load (v := (0, 0, 0)) (p2 := 9) rfl rfl rfl rfl ?_
  refine q_callK (xs := [(0, 0, 0), (6, v, 0)]) (p2 := 10) rfl rfl rfl rfl (x_rcv_s v ((frn2 v (by omega) (by omega) (by omega)).trans hW1)) rfl rfl ?_
  refine x_f_of rfl ?_
  refine q_load (v := (6, v, 0)) (p2 := 1) rfl rfl rfl rfl ?_
  refine q_getv (v := (0, 0, 0)) (p2 := 2) rfl ((frn2 v (by omega) (by omega) (by omega)).trans hW1) (by decide) hg1.2.2.2.2.2.1 rfl ?_
  refine q_load (v := (0, 0, 0)) (p2 := 3) rfl rfl rfl rfl ?_
  refine q_iop (w := 0 >>> (0 % 32)) (z := 0) (p2 := 4) rfl (xo_shr (show 0 < 2147483648 by decide) 0) (by decide) rfl ?_
  refine q_const (p2 := 5) rfl rfl ?_
  refine q_iop (w := 0 &&& 1) (z := 0) (p2 := 6) rfl (xo_and 0 1) (by decide) rfl ?_
  refine q_const (p2 := 7) rfl rfl ?_
  refine q_icmp_s (p2 := 8) rfl (by decide) (by omega) (by omega) rfl (fun _ => ?_) (fun hb => absurd (show ¬ (0 = 1) by omega) hb)
  refine q_const (p2 := 11) rfl rfl ?_
  refine q_retv (v := (0, 0, 0)) rfl rfl ⟨rfl, by omega, by omega, ?_⟩
  refine q_if0_s (p2 := 11) rfl (by decide) (by omega) rfl (fun _ => ?_) (fun hb => absurd (show 0 = 0 by omega) hb)
  refine q_load (v := (6, v, 0)) (p2 := 14) rfl rfl rfl rfl ?_
  refine q_getv (v := (0, 5, 0)) (p2 := 15) rfl ((frn2 v (by omega) (by omega) (by omega)).trans hW1) (by decide) hg1.2.2.2.2.1 rfl ?_
  refine q_retv (v := (0, 5, 0)) rfl rfl ⟨rfl, by omega, by omega, ?_⟩
  refine q_load (v := (6, v, 0)) (p2 := 31) rfl rfl rfl rfl ?_
  refine q_load (v := (0, 0, 0)) (p2 := 32) rfl rfl rfl rfl ?_
  refine q_callK (xs := [(0, 0, 0), (6, v, 0)]) (p2 := 33) rfl rfl rfl rfl (x_rcv_s v ((frn2 v (by omega) (by omega) (by omega)).trans hW1)) rfl rfl ?_
  refine x_f_of rfl ?_
  refine q_load (v := (0, 0, 0)) (p2 := 1) rfl rfl rfl rfl ?_
  refine q_if0_s (p2 := 2) rfl (by decide) (by omega) rfl (fun hb => absurd hb (show ¬ (0 < 0) by omega)) (fun _ => ?_)
  refine q_load (v := (0, 0, 0)) (p2 := 3) rfl rfl rfl rfl ?_
  refine q_load (v := (6, v, 0)) (p2 := 4) rfl rfl rfl rfl ?_
  refine q_getv (v := (6, cA1, 0)) (p2 := 5) rfl ((frn2 v (by omega) (by omega) (by omega)).trans hW1) (by decide) hg1.2.2.2.2.2.2 rfl ?_
  refine q_alen (p2 := 6) rfl ((frn2 cA1 (by omega) (by omega) (by omega)).trans (show φ cA1 = some (6, 0, 2, gA1) from hcA1)) rfl (by omega) rfl ?_
  refine q_icmp_s (p2 := 7) rfl (by decide) (by omega) (by omega) rfl (fun hb => absurd hb (show ¬ (¬ (0 < 2)) by omega)) (fun _ => ?_)
  refine q_load (v := (6, v, 0)) (p2 := 8) rfl rfl rfl rfl ?_
  refine q_load (v := (0, 0, 0)) (p2 := 9) rfl rfl rfl rfl ?_
  refine q_callK (xs := [(0, 0, 0), (6, v, 0)]) (p2 := 10) rfl rfl rfl rfl (x_rcv_s v ((frn2 v (by omega) (by omega) (by omega)).trans hW1)) rfl rfl ?_
  refine x_f_of rfl ?_
  refine q_load (v := (6, v, 0)) (p2 := 1) rfl rfl rfl rfl ?_
  refine q_getv (v := (0, 0, 0)) (p2 := 2) rfl ((frn2 v (by omega) (by omega) (by omega)).trans hW1) (by decide) hg1.2.2.2.2.2.1 rfl ?_
  refine q_load (v := (0, 0, 0)) (p2 := 3) rfl rfl rfl rfl ?_
  refine q_iop (w := 0 >>> (0 % 32)) (z := 0) (p2 := 4) rfl (xo_shr (show 0 < 2147483648 by decide) 0) (by decide) rfl ?_
  refine q_const (p2 := 5) rfl rfl ?_
  refine q_iop (w := 0 &&& 1) (z := 0) (p2 := 6) rfl (xo_and 0 1) (by decide) rfl ?_
  refine q_const (p2 := 7) rfl rfl ?_
  refine q_icmp_s (p2 := 8) rfl (by decide) (by omega) (by omega) rfl (fun _ => ?_) (fun hb => absurd (show ¬ (0 = 1) by omega) hb)
  refine q_const (p2 := 11) rfl rfl ?_
  refine q_retv (v := (0, 0, 0)) rfl rfl ⟨rfl, by omega, by omega, ?_⟩
  refine q_if0_s (p2 := 11) rfl (by decide) (by omega) rfl (fun _ => ?_) (fun hb => absurd (show 0 = 0 by omega) hb)
  refine q_load (v := (6, v, 0)) (p2 := 14) rfl rfl rfl rfl ?_
  refine q_getv (v := (6, cA1, 0)) (p2 := 15) rfl ((frn2 v (by omega) (by omega) (by omega)).trans hW1) (by decide) hg1.2.2.2.2.2.2 rfl ?_
  refine q_load (v := (0, 0, 0)) (p2 := 16) rfl rfl rfl rfl ?_
  refine q_aldv (v := (2, ka, 0)) (p2 := 17) rfl ((frn2 cA1 (by omega) (by omega) (by omega)).trans (show φ cA1 = some (6, 0, 2, gA1) from hcA1)) (by omega) (by omega) (hgA1 0 (by show 0 < 2; decide)) rfl ?_
  refine q_retv (v := (2, ka, 0)) rfl rfl ⟨rfl, by omega, by omega, ?_⟩
  refine q_callKv (xs := [(2, ka, 0), (0, 5, 0), (6, 478, 0)]) (p2 := 34) rfl rfl rfl rfl (x_rcv_s 478 (zD_478 hD2).choose_spec.1) rfl rfl ?_
  refine x_f_of rfl ?_
  refine q_load (v := (6, 478, 0)) (p2 := 1) rfl rfl rfl rfl ?_
  refine q_getv (v := (6, 7, 0)) (p2 := 2) rfl (zD_478 hD2).choose_spec.1 (by decide) (zD_478 hD2).choose_spec.2 rfl ?_
  refine x_n_lt (fun hlt4 => ?_)
  have hm3 := (x_PS_at hPS (fun j hj hne => by have hj2 := x_some_lt hlt0 hne; exact (frn2 j (by omega) (by omega) (by omega))))
  refine q_getv (v := (6, 237, 0)) (p2 := 3) rfl hm3.1.choose_spec.1 (by decide) hm3.1.choose_spec.2.1 rfl ?_
  have hm5 := (x_sch_at hS (fun j h1 h2 => (frn2 j (by omega) (by omega) (by omega))))
  refine q_getv (v := (6, 239, 0)) (p2 := 4) rfl hm5.1.choose_spec.1 (by decide) hm5.1.choose_spec.2.2.1 rfl ?_
  refine q_const (p2 := 5) rfl rfl ?_
  have hm6 := (zq_nm_at hN (frn2 239 (by omega) (by omega) (by omega)) (frn2 242 (by omega) (by omega) (by omega)) (frn2 244 (by omega) (by omega) (by omega)))
  refine q_aldv (v := (6, 241, 0)) (p2 := 6) rfl hm6.1 (by omega) (by omega) rfl rfl ?_
  refine q_store (loc2 := [(6, 478, 0), (0, 5, 0), (2, ka, 0), (11, 0, 0), (6, 241, 0)]) (p2 := 7) rfl rfl rfl rfl rfl ?_
  refine q_load (v := (0, 5, 0)) (p2 := 8) rfl rfl rfl rfl ?_
  refine q_switch (tgt := 64) rfl (by decide) rfl ?_
  refine q_load (v := (6, 478, 0)) (p2 := 65) rfl rfl rfl rfl ?_
  refine q_const (p2 := 66) rfl rfl ?_
  refine q_callvE (xs := [(0, 35, 0), (6, 478, 0)]) (p2 := 67) rfl rfl rfl rfl (x_rcv_s 478 (zD_478 hD2).choose_spec.1) rfl (zc_addD hD2 (by omega) (by omega)) (Nat.le_refl _) (Nat.le_refl _) rfl (fun φ7 hR7 => ?_)
  obtain ⟨hD7, frn7⟩ := hR7
  refine q_load (v := (6, 478, 0)) (p2 := 68) rfl rfl rfl rfl ?_
  refine q_load (v := (2, ka, 0)) (p2 := 69) rfl rfl rfl rfl ?_
  refine q_callvE (xs := [(2, ka, 0), (6, 478, 0)]) (p2 := 70) rfl rfl rfl rfl (x_rcv_s 478 (zD_478 hD7).choose_spec.1) rfl (zc_wnum hD7 (by omega) (by omega)) (Nat.le_refl _) (Nat.le_refl _) rfl (fun φ8 hR8 => ?_)
  obtain ⟨hD8, frn8⟩ := hR8
  refine q_goto rfl ?_
  refine q_ret rfl ⟨rfl, by omega, by omega, ?_⟩
  refine q_iinc (z := 1) (loc2 := [(6, 478, 0), (6, v, 0), (0, 1, 0)]) (p2 := 35) rfl rfl (by decide) rfl rfl ?_
  refine q_goto rfl ?_
  refine q_load (v := (0, 1, 0)) (p2 := 17) rfl rfl rfl rfl ?_
  refine q_load (v := (6, v, 0)) (p2 := 18) rfl rfl rfl rfl ?_
  refine q_getv (v := (6, cA1, 0)) (p2 := 19) rfl (((frn8 v (by omega) (by omega) (by omega)).trans ((frn7 v (by omega) (by omega) (by omega)).trans (frn2 v (by omega) (by omega) (by omega)))).trans hW1) (by decide) hg1.2.2.2.2.2.2 rfl ?_
  refine q_alen (p2 := 20) rfl (((frn8 cA1 (by omega) (by omega) (by omega)).trans ((frn7 cA1 (by omega) (by omega) (by omega)).trans (frn2 cA1 (by omega) (by omega) (by omega)))).trans (show φ cA1 = some (6, 0, 2, gA1) from hcA1)) rfl (by omega) rfl ?_
  refine q_icmp_s (p2 := 21) rfl (by decide) (by omega) (by omega) rfl (fun hb => absurd hb (show ¬ (¬ (1 < 2)) by omega)) (fun _ => ?_)
  refine q_load (v := (0, 1, 0)) (p2 := 22) rfl rfl rfl rfl ?_
  refine q_if0_s (p2 := 23) rfl (by decide) (by omega) rfl (fun hb => absurd hb (show ¬ (¬ (0 < 1)) by omega)) (fun _ => ?_)
  refine q_load (v := (6, 478, 0)) (p2 := 24) rfl rfl rfl rfl ?_
  refine q_const (p2 := 25) rfl rfl ?_
  refine q_callvE (xs := [(0, 44, 0), (6, 478, 0)]) (p2 := 26) rfl rfl rfl rfl (x_rcv_s 478 (zD_478 hD8).choose_spec.1) rfl (zc_addD hD8 (by omega) (by omega)) (Nat.le_refl _) (Nat.le_refl _) rfl (fun φ9 hR9 => ?_)
  obtain ⟨hD9, frn9⟩ := hR9
  refine q_load (v := (6, 478, 0)) (p2 := 27) rfl rfl rfl rfl ?_
  refine q_load (v := (6, v, 0)) (p2 := 28) rfl rfl rfl rfl ?_
  refine q_load (v := (0, 1, 0)) (p2 := 29) rfl rfl rfl rfl ?_
  refine q_callK (xs := [(0, 1, 0), (6, v, 0)]) (p2 := 30) rfl rfl rfl rfl (x_rcv_s v (((frn9 v (by omega) (by omega) (by omega)).trans ((frn8 v (by omega) (by omega) (by omega)).trans ((frn7 v (by omega) (by omega) (by omega)).trans (frn2 v (by omega) (by omega) (by omega))))).trans hW1)) rfl rfl ?_
  refine x_f_of rfl ?_
  refine q_load (v := (0, 1, 0)) (p2 := 1) rfl rfl rfl rfl ?_
  refine q_if0_s (p2 := 2) rfl (by decide) (by omega) rfl (fun hb => absurd hb (show ¬ (1 < 0) by omega)) (fun _ => ?_)
  refine q_load (v := (0, 1, 0)) (p2 := 3) rfl rfl rfl rfl ?_
  refine q_load (v := (6, v, 0)) (p2 := 4) rfl rfl rfl rfl ?_
  refine q_getv (v := (6, cA1, 0)) (p2 := 5) rfl (((frn9 v (by omega) (by omega) (by omega)).trans ((frn8 v (by omega) (by omega) (by omega)).trans ((frn7 v (by omega) (by omega) (by omega)).trans (frn2 v (by omega) (by omega) (by omega))))).trans hW1) (by decide) hg1.2.2.2.2.2.2 rfl ?_
  refine q_alen (p2 := 6) rfl (((frn9 cA1 (by omega) (by omega) (by omega)).trans ((frn8 cA1 (by omega) (by omega) (by omega)).trans ((frn7 cA1 (by omega) (by omega) (by omega)).trans (frn2 cA1 (by omega) (by omega) (by omega))))).trans (show φ cA1 = some (6, 0, 2, gA1) from hcA1)) rfl (by omega) rfl ?_
  refine q_icmp_s (p2 := 7) rfl (by decide) (by omega) (by omega) rfl (fun hb => absurd hb (show ¬ (¬ (1 < 2)) by omega)) (fun _ => ?_)
  refine q_load (v := (6, v, 0)) (p2 := 8) rfl rfl rfl rfl ?_
  refine q_load (v := (0, 1, 0)) (p2 := 9) rfl rfl rfl rfl ?_
  refine q_callK (xs := [(0, 1, 0), (6, v, 0)]) (p2 := 10) rfl rfl rfl rfl (x_rcv_s v (((frn9 v (by omega) (by omega) (by omega)).trans ((frn8 v (by omega) (by omega) (by omega)).trans ((frn7 v (by omega) (by omega) (by omega)).trans (frn2 v (by omega) (by omega) (by omega))))).trans hW1)) rfl rfl ?_
  refine x_f_of rfl ?_
  refine q_load (v := (6, v, 0)) (p2 := 1) rfl rfl rfl rfl ?_
  refine q_getv (v := (0, 0, 0)) (p2 := 2) rfl (((frn9 v (by omega) (by omega) (by omega)).trans ((frn8 v (by omega) (by omega) (by omega)).trans ((frn7 v (by omega) (by omega) (by omega)).trans (frn2 v (by omega) (by omega) (by omega))))).trans hW1) (by decide) hg1.2.2.2.2.2.1 rfl ?_
  refine q_load (v := (0, 1, 0)) (p2 := 3) rfl rfl rfl rfl ?_
  refine q_iop (w := 0 >>> (1 % 32)) (z := 0) (p2 := 4) rfl (xo_shr (show 0 < 2147483648 by decide) 1) (by decide) rfl ?_
  refine q_const (p2 := 5) rfl rfl ?_
  refine q_iop (w := 0 &&& 1) (z := 0) (p2 := 6) rfl (xo_and 0 1) (by decide) rfl ?_
  refine q_const (p2 := 7) rfl rfl ?_
  refine q_icmp_s (p2 := 8) rfl (by decide) (by omega) (by omega) rfl (fun _ => ?_) (fun hb => absurd (show ¬ (0 = 1) by omega) hb)
  refine q_const (p2 := 11) rfl rfl ?_
  refine q_retv (v := (0, 0, 0)) rfl rfl ⟨rfl, by omega, by omega, ?_⟩
  refine q_if0_s (p2 := 11) rfl (by decide) (by omega) rfl (fun _ => ?_) (fun hb => absurd (show 0 = 0 by omega) hb)
  refine q_load (v := (6, v, 0)) (p2 := 14) rfl rfl rfl rfl ?_
  refine q_getv (v := (0, 5, 0)) (p2 := 15) rfl (((frn9 v (by omega) (by omega) (by omega)).trans ((frn8 v (by omega) (by omega) (by omega)).trans ((frn7 v (by omega) (by omega) (by omega)).trans (frn2 v (by omega) (by omega) (by omega))))).trans hW1) (by decide) hg1.2.2.2.2.1 rfl ?_
  refine q_retv (v := (0, 5, 0)) rfl rfl ⟨rfl, by omega, by omega, ?_⟩
  refine q_load (v := (6, v, 0)) (p2 := 31) rfl rfl rfl rfl ?_
  refine q_load (v := (0, 1, 0)) (p2 := 32) rfl rfl rfl rfl ?_
  refine q_callK (xs := [(0, 1, 0), (6, v, 0)]) (p2 := 33) rfl rfl rfl rfl (x_rcv_s v (((frn9 v (by omega) (by omega) (by omega)).trans ((frn8 v (by omega) (by omega) (by omega)).trans ((frn7 v (by omega) (by omega) (by omega)).trans (frn2 v (by omega) (by omega) (by omega))))).trans hW1)) rfl rfl ?_
  refine x_f_of rfl ?_
  refine q_load (v := (0, 1, 0)) (p2 := 1) rfl rfl rfl rfl ?_
  refine q_if0_s (p2 := 2) rfl (by decide) (by omega) rfl (fun hb => absurd hb (show ¬ (1 < 0) by omega)) (fun _ => ?_)
  refine q_load (v := (0, 1, 0)) (p2 := 3) rfl rfl rfl rfl ?_
  refine q_load (v := (6, v, 0)) (p2 := 4) rfl rfl rfl rfl ?_
  refine q_getv (v := (6, cA1, 0)) (p2 := 5) rfl (((frn9 v (by omega) (by omega) (by omega)).trans ((frn8 v (by omega) (by omega) (by omega)).trans ((frn7 v (by omega) (by omega) (by omega)).trans (frn2 v (by omega) (by omega) (by omega))))).trans hW1) (by decide) hg1.2.2.2.2.2.2 rfl ?_
  refine q_alen (p2 := 6) rfl (((frn9 cA1 (by omega) (by omega) (by omega)).trans ((frn8 cA1 (by omega) (by omega) (by omega)).trans ((frn7 cA1 (by omega) (by omega) (by omega)).trans (frn2 cA1 (by omega) (by omega) (by omega))))).trans (show φ cA1 = some (6, 0, 2, gA1) from hcA1)) rfl (by omega) rfl ?_
  refine q_icmp_s (p2 := 7) rfl (by decide) (by omega) (by omega) rfl (fun hb => absurd hb (show ¬ (¬ (1 < 2)) by omega)) (fun _ => ?_)
  refine q_load (v := (6, v, 0)) (p2 := 8) rfl rfl rfl rfl ?_
  refine q_load (v := (0, 1, 0)) (p2 := 9) rfl rfl rfl rfl ?_
  refine q_callK (xs := [(0, 1, 0), (6, v, 0)]) (p2 := 10) rfl rfl rfl rfl (x_rcv_s v (((frn9 v (by omega) (by omega) (by omega)).trans ((frn8 v (by omega) (by omega) (by omega)).trans ((frn7 v (by omega) (by omega) (by omega)).trans (frn2 v (by omega) (by omega) (by omega))))).trans hW1)) rfl rfl ?_
  refine x_f_of rfl ?_
  refine q_load (v := (6, v, 0)) (p2 := 1) rfl rfl rfl rfl ?_
  refine q_getv (v := (0, 0, 0)) (p2 := 2) rfl (((frn9 v (by omega) (by omega) (by omega)).trans ((frn8 v (by omega) (by omega) (by omega)).trans ((frn7 v (by omega) (by omega) (by omega)).trans (frn2 v (by omega) (by omega) (by omega))))).trans hW1) (by decide) hg1.2.2.2.2.2.1 rfl ?_
  refine q_load (v := (0, 1, 0)) (p2 := 3) rfl rfl rfl rfl ?_
  refine q_iop (w := 0 >>> (1 % 32)) (z := 0) (p2 := 4) rfl (xo_shr (show 0 < 2147483648 by decide) 1) (by decide) rfl ?_
  refine q_const (p2 := 5) rfl rfl ?_
  refine q_iop (w := 0 &&& 1) (z := 0) (p2 := 6) rfl (xo_and 0 1) (by decide) rfl ?_
  refine q_const (p2 := 7) rfl rfl ?_
  refine q_icmp_s (p2 := 8) rfl (by decide) (by omega) (by omega) rfl (fun _ => ?_) (fun hb => absurd (show ¬ (0 = 1) by omega) hb)
  refine q_const (p2 := 11) rfl rfl ?_
  refine q_retv (v := (0, 0, 0)) rfl rfl ⟨rfl, by omega, by omega, ?_⟩
  refine q_if0_s (p2 := 11) rfl (by decide) (by omega) rfl (fun _ => ?_) (fun hb => absurd (show 0 = 0 by omega) hb)
  refine q_load (v := (6, v, 0)) (p2 := 14) rfl rfl rfl rfl ?_
  refine q_getv (v := (6, cA1, 0)) (p2 := 15) rfl (((frn9 v (by omega) (by omega) (by omega)).trans ((frn8 v (by omega) (by omega) (by omega)).trans ((frn7 v (by omega) (by omega) (by omega)).trans (frn2 v (by omega) (by omega) (by omega))))).trans hW1) (by decide) hg1.2.2.2.2.2.2 rfl ?_
  refine q_load (v := (0, 1, 0)) (p2 := 16) rfl rfl rfl rfl ?_
  refine q_aldv (v := (2, kb, 0)) (p2 := 17) rfl (((frn9 cA1 (by omega) (by omega) (by omega)).trans ((frn8 cA1 (by omega) (by omega) (by omega)).trans ((frn7 cA1 (by omega) (by omega) (by omega)).trans (frn2 cA1 (by omega) (by omega) (by omega))))).trans (show φ cA1 = some (6, 0, 2, gA1) from hcA1)) (by omega) (by omega) (hgA1 1 (by show 1 < 2; decide)) rfl ?_
  refine q_retv (v := (2, kb, 0)) rfl rfl ⟨rfl, by omega, by omega, ?_⟩
  refine q_callKv (xs := [(2, kb, 0), (0, 5, 0), (6, 478, 0)]) (p2 := 34) rfl rfl rfl rfl (x_rcv_s 478 (zD_478 hD9).choose_spec.1) rfl rfl ?_
  refine x_f_of rfl ?_
  refine q_load (v := (6, 478, 0)) (p2 := 1) rfl rfl rfl rfl ?_
  refine q_getv (v := (6, 7, 0)) (p2 := 2) rfl (zD_478 hD9).choose_spec.1 (by decide) (zD_478 hD9).choose_spec.2 rfl ?_
  refine x_n_lt (fun hlt11 => ?_)
  have hm10 := (x_PS_at hm3 (fun j hj hne => by have hj2 := x_some_lt hlt4 hne; exact ((frn9 j (by omega) (by omega) (by omega)).trans ((frn8 j (by omega) (by omega) (by omega)).trans (frn7 j (by omega) (by omega) (by omega))))))
  refine q_getv (v := (6, 237, 0)) (p2 := 3) rfl hm10.1.choose_spec.1 (by decide) hm10.1.choose_spec.2.1 rfl ?_
  have hm12 := (x_sch_at hm5 (fun j h1 h2 => ((frn9 j (by omega) (by omega) (by omega)).trans ((frn8 j (by omega) (by omega) (by omega)).trans (frn7 j (by omega) (by omega) (by omega))))))
  refine q_getv (v := (6, 239, 0)) (p2 := 4) rfl hm12.1.choose_spec.1 (by decide) hm12.1.choose_spec.2.2.1 rfl ?_
  refine q_const (p2 := 5) rfl rfl ?_
  have hm13 := (zq_nm_at hm6 ((frn9 239 (by omega) (by omega) (by omega)).trans ((frn8 239 (by omega) (by omega) (by omega)).trans (frn7 239 (by omega) (by omega) (by omega)))) ((frn9 242 (by omega) (by omega) (by omega)).trans ((frn8 242 (by omega) (by omega) (by omega)).trans (frn7 242 (by omega) (by omega) (by omega)))) ((frn9 244 (by omega) (by omega) (by omega)).trans ((frn8 244 (by omega) (by omega) (by omega)).trans (frn7 244 (by omega) (by omega) (by omega)))))
  refine q_aldv (v := (6, 241, 0)) (p2 := 6) rfl hm13.1 (by omega) (by omega) rfl rfl ?_
  refine q_store (loc2 := [(6, 478, 0), (0, 5, 0), (2, kb, 0), (11, 0, 0), (6, 241, 0)]) (p2 := 7) rfl rfl rfl rfl rfl ?_
  refine q_load (v := (0, 5, 0)) (p2 := 8) rfl rfl rfl rfl ?_
  refine q_switch (tgt := 64) rfl (by decide) rfl ?_
  refine q_load (v := (6, 478, 0)) (p2 := 65) rfl rfl rfl rfl ?_
  refine q_const (p2 := 66) rfl rfl ?_
  refine q_callvE (xs := [(0, 35, 0), (6, 478, 0)]) (p2 := 67) rfl rfl rfl rfl (x_rcv_s 478 (zD_478 hD9).choose_spec.1) rfl (zc_addD hD9 (by omega) (by omega)) (Nat.le_refl _) (Nat.le_refl _) rfl (fun φ14 hR14 => ?_)
  obtain ⟨hD14, frn14⟩ := hR14
  refine q_load (v := (6, 478, 0)) (p2 := 68) rfl rfl rfl rfl ?_
  refine q_load (v := (2, kb, 0)) (p2 := 69) rfl rfl rfl rfl ?_
  refine q_callvE (xs := [(2, kb, 0), (6, 478, 0)]) (p2 := 70) rfl rfl rfl rfl (x_rcv_s 478 (zD_478 hD14).choose_spec.1) rfl (zc_wnum hD14 (by omega) (by omega)) (Nat.le_refl _) (Nat.le_refl _) rfl (fun φ15 hR15 => ?_)
  obtain ⟨hD15, frn15⟩ := hR15
  refine q_goto rfl ?_
  refine q_ret rfl ⟨rfl, by omega, by omega, ?_⟩
  refine q_iinc (z := 2) (loc2 := [(6, 478, 0), (6, v, 0), (0, 2, 0)]) (p2 := 35) rfl rfl (by decide) rfl rfl ?_
  refine q_goto rfl ?_
  refine q_load (v := (0, 2, 0)) (p2 := 17) rfl rfl rfl rfl ?_
  refine q_load (v := (6, v, 0)) (p2 := 18) rfl rfl rfl rfl ?_
  refine q_getv (v := (6, cA1, 0)) (p2 := 19) rfl (((frn15 v (by omega) (by omega) (by omega)).trans ((frn14 v (by omega) (by omega) (by omega)).trans ((frn9 v (by omega) (by omega) (by omega)).trans ((frn8 v (by omega) (by omega) (by omega)).trans ((frn7 v (by omega) (by omega) (by omega)).trans (frn2 v (by omega) (by omega) (by omega))))))).trans hW1) (by decide) hg1.2.2.2.2.2.2 rfl ?_
  refine q_alen (p2 := 20) rfl (((frn15 cA1 (by omega) (by omega) (by omega)).trans ((frn14 cA1 (by omega) (by omega) (by omega)).trans ((frn9 cA1 (by omega) (by omega) (by omega)).trans ((frn8 cA1 (by omega) (by omega) (by omega)).trans ((frn7 cA1 (by omega) (by omega) (by omega)).trans (frn2 cA1 (by omega) (by omega) (by omega))))))).trans (show φ cA1 = some (6, 0, 2, gA1) from hcA1)) rfl (by omega) rfl ?_
  refine q_icmp_s (p2 := 21) rfl (by decide) (by omega) (by omega) rfl (fun _ => ?_) (fun hb => absurd (show ¬ (2 < 2) by omega) hb)
  refine q_load (v := (6, 478, 0)) (p2 := 37) rfl rfl rfl rfl ?_
  refine q_const (p2 := 38) rfl rfl ?_
  refine q_callvE (xs := [(0, 41, 0), (6, 478, 0)]) (p2 := 39) rfl rfl rfl rfl (x_rcv_s 478 (zD_478 hD15).choose_spec.1) rfl (zc_addD hD15 (by omega) (by omega)) (Nat.le_refl _) (Nat.le_refl _) rfl (fun φ16 hR16 => ?_)
  obtain ⟨hD16, frn16⟩ := hR16
  exact q_ret rfl (⟨rfl, rfl, rfl, hD16, fun j hj0 hj1 hj2 => ((frn16 j (by omega) (by omega) (by omega)).trans ((frn15 j (by omega) (by omega) (by omega)).trans ((frn14 j (by omega) (by omega) (by omega)).trans ((frn9 j (by omega) (by omega) (by omega)).trans ((frn8 j (by omega) (by omega) (by omega)).trans ((frn7 j (by omega) (by omega) (by omega)).trans (frn2 j (by omega) (by omega) (by omega))))))))⟩)
/-- an attribute's value as it is written -/
def zhb (m : MV) : List Nat := if m.1 = 0 then [36] else if m.1 = 1 then xdec m.2.1 else if m.1 = 5 then [35] ++ xdec m.2.1 else match m.2.2.2.2 with
  | [] => [40] ++ [41]
  | [ka] => [40] ++ [35] ++ xdec ka ++ [41]
  | ka :: kb :: _ => [40] ++ [35] ++ xdec ka ++ [44] ++ [35] ++ xdec kb ++ [41]
def zHM (m : MV) : Prop := m = MV0 ∨ (∃ k, k < 1024 ∧ m = (1, k, 0, 0, [])) ∨ (∃ y, y < 1024 ∧ m = (5, y, 0, 0, [])) ∨ ∃ L : List Nat, L.length ≤ 2 ∧ (∀ y, y ∈ L → y < 1024) ∧ m = (6, 0, 3, 5, L)
theorem zc_held {d n sl : Nat} {φ : FH} {A : Nat} {B : Nat} {made : Nat} {sv : Nat} {svm : Nat} {s9 : Nat} {comb : Nat → Nat} {hm : Nat → MV} {sz b v : Nat} {bw : Nat → Nat} {L : List Nat} {m : MV} (hPS : x_PS φ A B made sv svm s9 comb hm) (hS : x_sch φ) (hN : zq_nm φ) (hn0 : 486 ≤ n) (hD : zD φ sz bw L b) (hv : x_mv φ v m) (hm_ : zHM m) (hb : b < 5800) : x_f x_P (d + 7) 212 [(6, 478, 0), (6, v, 0), (11, 0, 0)] φ n sl (x_vR n sl (fun φ2 => zD φ2 sz bw (L ++ zhb m) (b + 20) ∧ ∀ j, j ≠ 478 → j ≠ 479 → j ≠ 480 → φ2 j = φ j)) := by
  have key : ∀ (K : List Nat) (k : Nat), k ≤ 20 → L ++ zhb m = K → ∀ (u : Nat) (w : XV) (φ2 : FH) (n2 sl2 : Nat), x_vR n sl (fun φ2 => zD φ2 sz bw K (b + k) ∧ ∀ j, j ≠ 478 → j ≠ 479 → j ≠ 480 → φ2 j = φ j) u w φ2 n2 sl2 → x_vR n sl (fun φ2 => zD φ2 sz bw (L ++ zhb m) (b + 20) ∧ ∀ j, j ≠ 478 → j ≠ 479 → j ≠ 480 → φ2 j = φ j) u w φ2 n2 sl2 := fun K k hk e u w φ2 n2 sl2 q => ⟨q.1, q.2.1, q.2.2.1, zD_eq (zD_le q.2.2.2.1 (by omega)) e.symm, q.2.2.2.2⟩
  rcases hm_ with rfl | ⟨ka, hka, rfl⟩ | ⟨ka, hka, rfl⟩ | ⟨L2, hL2, hL3, rfl⟩
  · exact x_f_mono (zc_held_0 (d := d + 4) hPS hS hN hn0 hD hv  hb) (key _ 1 (by decide) (by show L ++ ([36]) = _; simp only [List.append_assoc]))
  · exact x_f_mono (zc_held_1 (d := d + 3) hPS hS hN hn0 hD hv hka hb) (key _ 4 (by decide) (by show L ++ (xdec ka) = _; simp only [List.append_assoc]))
  · exact x_f_mono (zc_held_5 (d := d + 3) hPS hS hN hn0 hD hv hka hb) (key _ 5 (by decide) (by show L ++ ([35] ++ xdec ka) = _; simp only [List.append_assoc]))
  · match L2, hL2, hL3 with
    | [], _, _ => exact x_f_mono (zc_held_60 (d := d + 5) hPS hS hN hn0 hD hv  hb) (key _ 2 (by decide) (by show L ++ ([40] ++ [41]) = _; simp only [List.append_assoc]))
    | [ka], _, h3 => have hka := h3 ka (List.mem_singleton.mpr rfl); exact x_f_mono (zc_held_61 (d := d + 2) hPS hS hN hn0 hD hv hka hb) (key _ 7 (by decide) (by show L ++ ([40] ++ [35] ++ xdec ka ++ [41]) = _; simp only [List.append_assoc]))
    | [ka, kb], _, h3 => have hka := h3 ka (List.mem_cons_self ..); have hkb := h3 kb (List.mem_cons_of_mem _ (List.mem_singleton.mpr rfl)); exact x_f_mono (zc_held_62 (d := d + 0) hPS hS hN hn0 hD hv hka hkb hb) (key _ 13 (by decide) (by show L ++ ([40] ++ [35] ++ xdec ka ++ [44] ++ [35] ++ xdec kb ++ [41]) = _; simp only [List.append_assoc]))
theorem zc_form_3 {d n sl : Nat} {φ : FH} {A : Nat} {B : Nat} {made : Nat} {sv : Nat} {svm : Nat} {s9 : Nat} {comb : Nat → Nat} {hm : Nat → MV} {sz b x : Nat} {bw : Nat → Nat} {L : List Nat} (hPS : x_PS φ A B made sv svm s9 comb hm) (hS : x_sch φ) (hN : zq_nm φ) (hn0 : 486 ≤ n) (hD : zD φ sz bw L b) (hx : x < 40) (hz0 : zHM (hm (x * 40))) (hz1 : zHM (hm (x * 40 + 1))) (hz3 : zHM (hm (x * 40 + 3))) (hb : b < 5700) : x_f x_P (d + 8) 130 [(6, 478, 0), (0, x, 0), (0, 1, 0), (0, 3, 0), (11, 0, 0), (11, 0, 0)] φ n sl (x_vR n sl (fun φ2 => zD φ2 sz bw ((((((((L ++ [98]) ++ [40]) ++ zhb (hm (x * 40))) ++ [44]) ++ zhb (hm (x * 40 + 1))) ++ [44]) ++ zhb (hm (x * 40 + 3))) ++ [41]) (b + 65) ∧ ∀ j, j ≠ 478 → j ≠ 479 → j ≠ 480 → φ2 j = φ j)) := by
  refine x_f_of rfl ?_
  refine x_n_lt (fun hlt0 => ?_)
  refine q_load (v := (6, 478, 0)) (p2 := 1) rfl rfl rfl rfl ?_
  refine q_load (v := (6, 478, 0)) (p2 := 2) rfl rfl rfl rfl ?_
  refine q_getv (v := (6, 7, 0)) (p2 := 3) rfl (zD_478 hD).choose_spec.1 (by decide) (zD_478 hD).choose_spec.2 rfl ?_
  refine q_getv (v := (6, 237, 0)) (p2 := 4) rfl hPS.1.choose_spec.1 (by decide) hPS.1.choose_spec.2.1 rfl ?_
  refine q_getv (v := (6, 239, 0)) (p2 := 5) rfl hS.1.choose_spec.1 (by decide) hS.1.choose_spec.2.2.1 rfl ?_
  refine q_const (p2 := 6) rfl rfl ?_
  refine q_aldv (v := (6, 242, 0)) (p2 := 7) rfl hN.1 (by omega) (by omega) rfl rfl ?_
  refine q_load (v := (0, 1, 0)) (p2 := 8) rfl rfl rfl rfl ?_
  refine q_aldv (v := (2, 2, 0)) (p2 := 9) rfl hN.2.1 (by omega) (by omega) rfl rfl ?_
  refine q_callvE (xs := [(2, 2, 0), (6, 478, 0)]) (p2 := 10) rfl rfl rfl rfl (x_rcv_s 478 (zD_478 hD).choose_spec.1) rfl (zc_word_2 hD (by omega)) (Nat.le_refl _) (Nat.le_refl _) rfl (fun φ1 hR1 => ?_)
  obtain ⟨hD1, frn1⟩ := hR1
  refine q_load (v := (6, 478, 0)) (p2 := 11) rfl rfl rfl rfl ?_
  refine q_const (p2 := 12) rfl rfl ?_
  refine q_callvE (xs := [(0, 40, 0), (6, 478, 0)]) (p2 := 13) rfl rfl rfl rfl (x_rcv_s 478 (zD_478 hD1).choose_spec.1) rfl (zc_addD hD1 (by omega) (by omega)) (Nat.le_refl _) (Nat.le_refl _) rfl (fun φ2 hR2 => ?_)
  obtain ⟨hD2, frn2⟩ := hR2
  refine q_const (p2 := 14) rfl rfl ?_
  refine q_store (loc2 := [(6, 478, 0), (0, x, 0), (0, 1, 0), (0, 3, 0), (0, 1, 0), (11, 0, 0)]) (p2 := 15) rfl rfl rfl rfl rfl ?_
  refine q_const (p2 := 16) rfl rfl ?_
  refine q_store (loc2 := [(6, 478, 0), (0, x, 0), (0, 1, 0), (0, 3, 0), (0, 1, 0), (0, 0, 0)]) (p2 := 17) rfl rfl rfl rfl rfl ?_
  refine q_load (v := (0, 0, 0)) (p2 := 18) rfl rfl rfl rfl ?_
  refine q_load (v := (6, 478, 0)) (p2 := 19) rfl rfl rfl rfl ?_
  refine q_getv (v := (6, 7, 0)) (p2 := 20) rfl (zD_478 hD2).choose_spec.1 (by decide) (zD_478 hD2).choose_spec.2 rfl ?_
  refine x_n_lt (fun hlt4 => ?_)
  have hm3 := (x_PS_at hPS (fun j hj hne => by have hj2 := x_some_lt hlt0 hne; exact ((frn2 j (by omega) (by omega) (by omega)).trans (frn1 j (by omega) (by omega) (by omega)))))
  refine q_getv (v := (6, 237, 0)) (p2 := 21) rfl hm3.1.choose_spec.1 (by decide) hm3.1.choose_spec.2.1 rfl ?_
  have hm5 := (x_sch_at hS (fun j h1 h2 => ((frn2 j (by omega) (by omega) (by omega)).trans (frn1 j (by omega) (by omega) (by omega)))))
  refine q_getv (v := (6, 246, 0)) (p2 := 22) rfl hm5.1.choose_spec.1 (by decide) hm5.1.choose_spec.2.2.2.1 rfl ?_
  refine q_const (p2 := 23) rfl rfl ?_
  refine q_aldv (v := (0, 5, 0)) (p2 := 24) rfl (x_sc_246 hm5) (by omega) (by omega) rfl rfl ?_
  refine q_icmp_s (p2 := 25) rfl (by decide) (by omega) (by omega) rfl (fun hb => absurd hb (show ¬ (¬ (0 < 5)) by omega)) (fun _ => ?_)
  refine q_load (v := (6, 478, 0)) (p2 := 26) rfl rfl rfl rfl ?_
  refine q_getv (v := (6, 7, 0)) (p2 := 27) rfl (zD_478 hD2).choose_spec.1 (by decide) (zD_478 hD2).choose_spec.2 rfl ?_
  refine q_getv (v := (6, 237, 0)) (p2 := 28) rfl hm3.1.choose_spec.1 (by decide) hm3.1.choose_spec.2.1 rfl ?_
  refine q_load (v := (0, 0, 0)) (p2 := 29) rfl rfl rfl rfl ?_
  refine q_callK (xs := [(0, 0, 0), (6, 237, 0)]) (p2 := 30) rfl rfl rfl rfl (x_rcv_s 237 hm5.1.choose_spec.1) rfl rfl ?_
  refine x_f_of rfl ?_
  refine q_load (v := (0, 0, 0)) (p2 := 1) rfl rfl rfl rfl ?_
  refine q_if0_s (p2 := 2) rfl (by decide) (by omega) rfl (fun hb => absurd hb (show ¬ (0 < 0) by omega)) (fun _ => ?_)
  refine q_load (v := (0, 0, 0)) (p2 := 3) rfl rfl rfl rfl ?_
  refine q_load (v := (6, 237, 0)) (p2 := 4) rfl rfl rfl rfl ?_
  refine q_getv (v := (6, 246, 0)) (p2 := 5) rfl hm5.1.choose_spec.1 (by decide) hm5.1.choose_spec.2.2.2.1 rfl ?_
  refine q_const (p2 := 6) rfl rfl ?_
  refine q_aldv (v := (0, 5, 0)) (p2 := 7) rfl (x_sc_246 hm5) (by omega) (by omega) rfl rfl ?_
  refine q_icmp_s (p2 := 8) rfl (by decide) (by omega) (by omega) rfl (fun hb => absurd hb (show ¬ (¬ (0 < 5)) by omega)) (fun _ => ?_)
  refine q_load (v := (6, 237, 0)) (p2 := 9) rfl rfl rfl rfl ?_
  refine q_getv (v := (6, 271, 0)) (p2 := 10) rfl hm5.1.choose_spec.1 (by decide) hm5.1.choose_spec.2.2.2.2.2.2.2.2.1 rfl ?_
  refine q_load (v := (0, 0, 0)) (p2 := 11) rfl rfl rfl rfl ?_
  refine q_aldv (v := (6, 272, 0)) (p2 := 12) rfl (x_sc_271 hm5) (by omega) (by omega) rfl rfl ?_
  refine q_const (p2 := 13) rfl rfl ?_
  refine q_aldv (v := (0, 0, 0)) (p2 := 14) rfl (x_sc_272 hm5) (by omega) (by omega) rfl rfl ?_
  refine q_if0_s (p2 := 15) rfl (by decide) (by omega) rfl (fun hb => absurd hb (show ¬ (¬ (0 = 0)) by omega)) (fun _ => ?_)
  refine q_const (p2 := 16) rfl rfl ?_
  refine q_goto rfl ?_
  refine q_retv (v := (0, 1, 0)) rfl rfl ⟨rfl, by omega, by omega, ?_⟩
  refine q_if0_s (p2 := 31) rfl (by decide) (by omega) rfl (fun hb => absurd hb (show ¬ (1 = 0) by omega)) (fun _ => ?_)
  refine q_load (v := (0, 3, 0)) (p2 := 32) rfl rfl rfl rfl ?_
  refine q_load (v := (6, 478, 0)) (p2 := 33) rfl rfl rfl rfl ?_
  refine q_getv (v := (6, 7, 0)) (p2 := 34) rfl (zD_478 hD2).choose_spec.1 (by decide) (zD_478 hD2).choose_spec.2 rfl ?_
  refine q_getv (v := (6, 237, 0)) (p2 := 35) rfl hm3.1.choose_spec.1 (by decide) hm3.1.choose_spec.2.1 rfl ?_
  refine q_getv (v := (6, 271, 0)) (p2 := 36) rfl hm5.1.choose_spec.1 (by decide) hm5.1.choose_spec.2.2.2.2.2.2.2.2.1 rfl ?_
  refine q_load (v := (0, 0, 0)) (p2 := 37) rfl rfl rfl rfl ?_
  refine q_aldv (v := (6, 272, 0)) (p2 := 38) rfl (x_sc_271 hm5) (by omega) (by omega) rfl rfl ?_
  refine q_const (p2 := 39) rfl rfl ?_
  refine q_aldv (v := (0, 0, 0)) (p2 := 40) rfl (x_sc_272 hm5) (by omega) (by omega) rfl rfl ?_
  refine q_iop (w := 3 >>> (0 % 32)) (z := 3) (p2 := 41) rfl (xo_shr (show 3 < 2147483648 by decide) 0) (by decide) rfl ?_
  refine q_const (p2 := 42) rfl rfl ?_
  refine q_iop (w := 3 &&& 1) (z := 1) (p2 := 43) rfl (xo_and 3 1) (by decide) rfl ?_
  refine q_const (p2 := 44) rfl rfl ?_
  refine q_icmp_s (p2 := 45) rfl (by decide) (by omega) (by omega) rfl (fun hb => absurd hb (show ¬ (¬ (1 = 1)) by omega)) (fun _ => ?_)
  refine q_load (v := (0, 1, 0)) (p2 := 46) rfl rfl rfl rfl ?_
  refine q_if0_s (p2 := 47) rfl (by decide) (by omega) rfl (fun _ => ?_) (fun hb => absurd (show ¬ (1 = 0) by omega) hb)
  refine q_const (p2 := 51) rfl rfl ?_
  refine q_store (loc2 := [(6, 478, 0), (0, x, 0), (0, 1, 0), (0, 3, 0), (0, 0, 0), (0, 0, 0)]) (p2 := 52) rfl rfl rfl rfl rfl ?_
  refine q_load (v := (6, 478, 0)) (p2 := 53) rfl rfl rfl rfl ?_
  refine q_load (v := (6, 478, 0)) (p2 := 54) rfl rfl rfl rfl ?_
  refine q_getv (v := (6, 7, 0)) (p2 := 55) rfl (zD_478 hD2).choose_spec.1 (by decide) (zD_478 hD2).choose_spec.2 rfl ?_
  refine q_load (v := (0, x, 0)) (p2 := 56) rfl rfl rfl rfl ?_
  refine q_load (v := (0, 0, 0)) (p2 := 57) rfl rfl rfl rfl ?_
  refine q_callrB (xs := [(0, 0, 0), (0, x, 0), (6, 7, 0)]) (p2 := 58) rfl rfl rfl rfl (x_rcv_s 7 hm3.1.choose_spec.1) rfl (e_heldByM hm3 (by omega) (by omega) rfl) rfl (fun w6 φ6 n6 sl6 hn6 hN6 hs6 hT6 hR6 => ?_)
  obtain ⟨v6, hwv6, hV6, hphi6⟩ := hR6
  subst hwv6
  have frn6 : ∀ j, φ6 j = φ2 j := fun j => by rw [hphi6]
  refine x_n_lt (fun hlt7 => ?_)
  have hz8 := x_mv_lt hV6 hlt7
  have hy8 := hV6.1
  have hm9 := (x_PS_at hm3 (fun j hj hne => by have hj2 := x_some_lt hlt4 hne; exact (frn6 j)))
  have hm10 := (zq_nm_at hN ((frn6 239).trans ((frn2 239 (by omega) (by omega) (by omega)).trans (frn1 239 (by omega) (by omega) (by omega)))) ((frn6 242).trans ((frn2 242 (by omega) (by omega) (by omega)).trans (frn1 242 (by omega) (by omega) (by omega)))) ((frn6 244).trans ((frn2 244 (by omega) (by omega) (by omega)).trans (frn1 244 (by omega) (by omega) (by omega)))))
  have hm11 := (x_sch_at hm5 (fun j h1 h2 => (frn6 j)))
  have hm12 := (zD_at hD2 (fun j h1 h2 => (frn6 j)))
  refine q_callvE (xs := [(6, v6, 0), (6, 478, 0)]) (p2 := 59) rfl rfl rfl rfl (x_rcv_s 478 (zD_478 hm12).choose_spec.1) rfl (zc_held hm9 hm11 hm10 (by omega) hm12 hV6 hz0 (by omega)) (Nat.le_refl _) (Nat.le_refl _) rfl (fun φ13 hR13 => ?_)
  obtain ⟨hD13, frn13⟩ := hR13
  refine q_iinc (z := 1) (loc2 := [(6, 478, 0), (0, x, 0), (0, 1, 0), (0, 3, 0), (0, 0, 0), (0, 1, 0)]) (p2 := 60) rfl rfl (by decide) rfl rfl ?_
  refine q_goto rfl ?_
  refine q_load (v := (0, 1, 0)) (p2 := 18) rfl rfl rfl rfl ?_
  refine q_load (v := (6, 478, 0)) (p2 := 19) rfl rfl rfl rfl ?_
  refine q_getv (v := (6, 7, 0)) (p2 := 20) rfl (zD_478 hD13).choose_spec.1 (by decide) (zD_478 hD13).choose_spec.2 rfl ?_
  refine x_n_lt (fun hlt15 => ?_)
  have hm14 := (x_PS_at hm9 (fun j hj hne => by have hj2 := x_some_lt hlt7 hne; exact (frn13 j (by omega) (by omega) (by omega))))
  refine q_getv (v := (6, 237, 0)) (p2 := 21) rfl hm14.1.choose_spec.1 (by decide) hm14.1.choose_spec.2.1 rfl ?_
  have hm16 := (x_sch_at hm11 (fun j h1 h2 => (frn13 j (by omega) (by omega) (by omega))))
  refine q_getv (v := (6, 246, 0)) (p2 := 22) rfl hm16.1.choose_spec.1 (by decide) hm16.1.choose_spec.2.2.2.1 rfl ?_
  refine q_const (p2 := 23) rfl rfl ?_
  refine q_aldv (v := (0, 5, 0)) (p2 := 24) rfl (x_sc_246 hm16) (by omega) (by omega) rfl rfl ?_
  refine q_icmp_s (p2 := 25) rfl (by decide) (by omega) (by omega) rfl (fun hb => absurd hb (show ¬ (¬ (1 < 5)) by omega)) (fun _ => ?_)
  refine q_load (v := (6, 478, 0)) (p2 := 26) rfl rfl rfl rfl ?_
  refine q_getv (v := (6, 7, 0)) (p2 := 27) rfl (zD_478 hD13).choose_spec.1 (by decide) (zD_478 hD13).choose_spec.2 rfl ?_
  refine q_getv (v := (6, 237, 0)) (p2 := 28) rfl hm14.1.choose_spec.1 (by decide) hm14.1.choose_spec.2.1 rfl ?_
  refine q_load (v := (0, 1, 0)) (p2 := 29) rfl rfl rfl rfl ?_
  refine q_callK (xs := [(0, 1, 0), (6, 237, 0)]) (p2 := 30) rfl rfl rfl rfl (x_rcv_s 237 hm16.1.choose_spec.1) rfl rfl ?_
  refine x_f_of rfl ?_
  refine q_load (v := (0, 1, 0)) (p2 := 1) rfl rfl rfl rfl ?_
  refine q_if0_s (p2 := 2) rfl (by decide) (by omega) rfl (fun hb => absurd hb (show ¬ (1 < 0) by omega)) (fun _ => ?_)
  refine q_load (v := (0, 1, 0)) (p2 := 3) rfl rfl rfl rfl ?_
  refine q_load (v := (6, 237, 0)) (p2 := 4) rfl rfl rfl rfl ?_
  refine q_getv (v := (6, 246, 0)) (p2 := 5) rfl hm16.1.choose_spec.1 (by decide) hm16.1.choose_spec.2.2.2.1 rfl ?_
  refine q_const (p2 := 6) rfl rfl ?_
  refine q_aldv (v := (0, 5, 0)) (p2 := 7) rfl (x_sc_246 hm16) (by omega) (by omega) rfl rfl ?_
  refine q_icmp_s (p2 := 8) rfl (by decide) (by omega) (by omega) rfl (fun hb => absurd hb (show ¬ (¬ (1 < 5)) by omega)) (fun _ => ?_)
  refine q_load (v := (6, 237, 0)) (p2 := 9) rfl rfl rfl rfl ?_
  refine q_getv (v := (6, 271, 0)) (p2 := 10) rfl hm16.1.choose_spec.1 (by decide) hm16.1.choose_spec.2.2.2.2.2.2.2.2.1 rfl ?_
  refine q_load (v := (0, 1, 0)) (p2 := 11) rfl rfl rfl rfl ?_
  refine q_aldv (v := (6, 273, 0)) (p2 := 12) rfl (x_sc_271 hm16) (by omega) (by omega) rfl rfl ?_
  refine q_const (p2 := 13) rfl rfl ?_
  refine q_aldv (v := (0, 0, 0)) (p2 := 14) rfl (x_sc_273 hm16) (by omega) (by omega) rfl rfl ?_
  refine q_if0_s (p2 := 15) rfl (by decide) (by omega) rfl (fun hb => absurd hb (show ¬ (¬ (0 = 0)) by omega)) (fun _ => ?_)
  refine q_const (p2 := 16) rfl rfl ?_
  refine q_goto rfl ?_
  refine q_retv (v := (0, 1, 0)) rfl rfl ⟨rfl, by omega, by omega, ?_⟩
  refine q_if0_s (p2 := 31) rfl (by decide) (by omega) rfl (fun hb => absurd hb (show ¬ (1 = 0) by omega)) (fun _ => ?_)
  refine q_load (v := (0, 3, 0)) (p2 := 32) rfl rfl rfl rfl ?_
  refine q_load (v := (6, 478, 0)) (p2 := 33) rfl rfl rfl rfl ?_
  refine q_getv (v := (6, 7, 0)) (p2 := 34) rfl (zD_478 hD13).choose_spec.1 (by decide) (zD_478 hD13).choose_spec.2 rfl ?_
  refine q_getv (v := (6, 237, 0)) (p2 := 35) rfl hm14.1.choose_spec.1 (by decide) hm14.1.choose_spec.2.1 rfl ?_
  refine q_getv (v := (6, 271, 0)) (p2 := 36) rfl hm16.1.choose_spec.1 (by decide) hm16.1.choose_spec.2.2.2.2.2.2.2.2.1 rfl ?_
  refine q_load (v := (0, 1, 0)) (p2 := 37) rfl rfl rfl rfl ?_
  refine q_aldv (v := (6, 273, 0)) (p2 := 38) rfl (x_sc_271 hm16) (by omega) (by omega) rfl rfl ?_
  refine q_const (p2 := 39) rfl rfl ?_
  refine q_aldv (v := (0, 0, 0)) (p2 := 40) rfl (x_sc_273 hm16) (by omega) (by omega) rfl rfl ?_
  refine q_iop (w := 3 >>> (0 % 32)) (z := 3) (p2 := 41) rfl (xo_shr (show 3 < 2147483648 by decide) 0) (by decide) rfl ?_
  refine q_const (p2 := 42) rfl rfl ?_
  refine q_iop (w := 3 &&& 1) (z := 1) (p2 := 43) rfl (xo_and 3 1) (by decide) rfl ?_
  refine q_const (p2 := 44) rfl rfl ?_
  refine q_icmp_s (p2 := 45) rfl (by decide) (by omega) (by omega) rfl (fun hb => absurd hb (show ¬ (¬ (1 = 1)) by omega)) (fun _ => ?_)
  refine q_load (v := (0, 0, 0)) (p2 := 46) rfl rfl rfl rfl ?_
  refine q_if0_s (p2 := 47) rfl (by decide) (by omega) rfl (fun hb => absurd hb (show ¬ (¬ (0 = 0)) by omega)) (fun _ => ?_)
  refine q_load (v := (6, 478, 0)) (p2 := 48) rfl rfl rfl rfl ?_
  refine q_const (p2 := 49) rfl rfl ?_
  refine q_callvE (xs := [(0, 44, 0), (6, 478, 0)]) (p2 := 50) rfl rfl rfl rfl (x_rcv_s 478 (zD_478 hD13).choose_spec.1) rfl (zc_addD hD13 (by omega) (by omega)) (Nat.le_refl _) (Nat.le_refl _) rfl (fun φ17 hR17 => ?_)
  obtain ⟨hD17, frn17⟩ := hR17
  refine q_const (p2 := 51) rfl rfl ?_
  refine q_store (loc2 := [(6, 478, 0), (0, x, 0), (0, 1, 0), (0, 3, 0), (0, 0, 0), (0, 1, 0)]) (p2 := 52) rfl rfl rfl rfl rfl ?_
  refine q_load (v := (6, 478, 0)) (p2 := 53) rfl rfl rfl rfl ?_
  refine q_load (v := (6, 478, 0)) (p2 := 54) rfl rfl rfl rfl ?_
  refine q_getv (v := (6, 7, 0)) (p2 := 55) rfl (zD_478 hD17).choose_spec.1 (by decide) (zD_478 hD17).choose_spec.2 rfl ?_
  refine q_load (v := (0, x, 0)) (p2 := 56) rfl rfl rfl rfl ?_
  refine q_load (v := (0, 1, 0)) (p2 := 57) rfl rfl rfl rfl ?_
  refine x_n_lt (fun hlt19 => ?_)
  have hm18 := (x_PS_at hm14 (fun j hj hne => by have hj2 := x_some_lt hlt15 hne; exact (frn17 j (by omega) (by omega) (by omega))))
  refine q_callrB (xs := [(0, 1, 0), (0, x, 0), (6, 7, 0)]) (p2 := 58) rfl rfl rfl rfl (x_rcv_s 7 hm18.1.choose_spec.1) rfl (e_heldByM hm18 (by omega) (by omega) rfl) rfl (fun w20 φ20 n20 sl20 hn20 hN20 hs20 hT20 hR20 => ?_)
  obtain ⟨v20, hwv20, hV20, hphi20⟩ := hR20
  subst hwv20
  have frn20 : ∀ j, φ20 j = φ17 j := fun j => by rw [hphi20]
  refine x_n_lt (fun hlt21 => ?_)
  have hz22 := x_mv_lt hV20 hlt21
  have hy22 := hV20.1
  have hm23 := (x_PS_at hm18 (fun j hj hne => by have hj2 := x_some_lt hlt19 hne; exact (frn20 j)))
  have hm24 := (zq_nm_at hm10 ((frn20 239).trans ((frn17 239 (by omega) (by omega) (by omega)).trans (frn13 239 (by omega) (by omega) (by omega)))) ((frn20 242).trans ((frn17 242 (by omega) (by omega) (by omega)).trans (frn13 242 (by omega) (by omega) (by omega)))) ((frn20 244).trans ((frn17 244 (by omega) (by omega) (by omega)).trans (frn13 244 (by omega) (by omega) (by omega)))))
  have hm25 := (x_sch_at hm16 (fun j h1 h2 => ((frn20 j).trans (frn17 j (by omega) (by omega) (by omega)))))
  have hm26 := (zD_at hD17 (fun j h1 h2 => (frn20 j)))
  refine q_callvE (xs := [(6, v20, 0), (6, 478, 0)]) (p2 := 59) rfl rfl rfl rfl (x_rcv_s 478 (zD_478 hm26).choose_spec.1) rfl (zc_held hm23 hm25 hm24 (by omega) hm26 hV20 hz1 (by omega)) (Nat.le_refl _) (Nat.le_refl _) rfl (fun φ27 hR27 => ?_)
  obtain ⟨hD27, frn27⟩ := hR27
  refine q_iinc (z := 2) (loc2 := [(6, 478, 0), (0, x, 0), (0, 1, 0), (0, 3, 0), (0, 0, 0), (0, 2, 0)]) (p2 := 60) rfl rfl (by decide) rfl rfl ?_
  refine q_goto rfl ?_
  refine q_load (v := (0, 2, 0)) (p2 := 18) rfl rfl rfl rfl ?_
  refine q_load (v := (6, 478, 0)) (p2 := 19) rfl rfl rfl rfl ?_
  refine q_getv (v := (6, 7, 0)) (p2 := 20) rfl (zD_478 hD27).choose_spec.1 (by decide) (zD_478 hD27).choose_spec.2 rfl ?_
  refine x_n_lt (fun hlt29 => ?_)
  have hm28 := (x_PS_at hm23 (fun j hj hne => by have hj2 := x_some_lt hlt21 hne; exact (frn27 j (by omega) (by omega) (by omega))))
  refine q_getv (v := (6, 237, 0)) (p2 := 21) rfl hm28.1.choose_spec.1 (by decide) hm28.1.choose_spec.2.1 rfl ?_
  have hm30 := (x_sch_at hm25 (fun j h1 h2 => (frn27 j (by omega) (by omega) (by omega))))
  refine q_getv (v := (6, 246, 0)) (p2 := 22) rfl hm30.1.choose_spec.1 (by decide) hm30.1.choose_spec.2.2.2.1 rfl ?_
  refine q_const (p2 := 23) rfl rfl ?_
  refine q_aldv (v := (0, 5, 0)) (p2 := 24) rfl (x_sc_246 hm30) (by omega) (by omega) rfl rfl ?_
  refine q_icmp_s (p2 := 25) rfl (by decide) (by omega) (by omega) rfl (fun hb => absurd hb (show ¬ (¬ (2 < 5)) by omega)) (fun _ => ?_)
  refine q_load (v := (6, 478, 0)) (p2 := 26) rfl rfl rfl rfl ?_
  refine q_getv (v := (6, 7, 0)) (p2 := 27) rfl (zD_478 hD27).choose_spec.1 (by decide) (zD_478 hD27).choose_spec.2 rfl ?_
  refine q_getv (v := (6, 237, 0)) (p2 := 28) rfl hm28.1.choose_spec.1 (by decide) hm28.1.choose_spec.2.1 rfl ?_
  refine q_load (v := (0, 2, 0)) (p2 := 29) rfl rfl rfl rfl ?_
  refine q_callK (xs := [(0, 2, 0), (6, 237, 0)]) (p2 := 30) rfl rfl rfl rfl (x_rcv_s 237 hm30.1.choose_spec.1) rfl rfl ?_
  refine x_f_of rfl ?_
  refine q_load (v := (0, 2, 0)) (p2 := 1) rfl rfl rfl rfl ?_
  refine q_if0_s (p2 := 2) rfl (by decide) (by omega) rfl (fun hb => absurd hb (show ¬ (2 < 0) by omega)) (fun _ => ?_)
  refine q_load (v := (0, 2, 0)) (p2 := 3) rfl rfl rfl rfl ?_
  refine q_load (v := (6, 237, 0)) (p2 := 4) rfl rfl rfl rfl ?_
  refine q_getv (v := (6, 246, 0)) (p2 := 5) rfl hm30.1.choose_spec.1 (by decide) hm30.1.choose_spec.2.2.2.1 rfl ?_
  refine q_const (p2 := 6) rfl rfl ?_
  refine q_aldv (v := (0, 5, 0)) (p2 := 7) rfl (x_sc_246 hm30) (by omega) (by omega) rfl rfl ?_
  refine q_icmp_s (p2 := 8) rfl (by decide) (by omega) (by omega) rfl (fun hb => absurd hb (show ¬ (¬ (2 < 5)) by omega)) (fun _ => ?_)
  refine q_load (v := (6, 237, 0)) (p2 := 9) rfl rfl rfl rfl ?_
  refine q_getv (v := (6, 271, 0)) (p2 := 10) rfl hm30.1.choose_spec.1 (by decide) hm30.1.choose_spec.2.2.2.2.2.2.2.2.1 rfl ?_
  refine q_load (v := (0, 2, 0)) (p2 := 11) rfl rfl rfl rfl ?_
  refine q_aldv (v := (6, 274, 0)) (p2 := 12) rfl (x_sc_271 hm30) (by omega) (by omega) rfl rfl ?_
  refine q_const (p2 := 13) rfl rfl ?_
  refine q_aldv (v := (0, 1, 0)) (p2 := 14) rfl (x_sc_274 hm30) (by omega) (by omega) rfl rfl ?_
  refine q_if0_s (p2 := 15) rfl (by decide) (by omega) rfl (fun _ => ?_) (fun hb => absurd (show ¬ (1 = 0) by omega) hb)
  refine q_const (p2 := 18) rfl rfl ?_
  refine q_retv (v := (0, 0, 0)) rfl rfl ⟨rfl, by omega, by omega, ?_⟩
  refine q_if0_s (p2 := 31) rfl (by decide) (by omega) rfl (fun _ => ?_) (fun hb => absurd (show 0 = 0 by omega) hb)
  refine q_iinc (z := 3) (loc2 := [(6, 478, 0), (0, x, 0), (0, 1, 0), (0, 3, 0), (0, 0, 0), (0, 3, 0)]) (p2 := 60) rfl rfl (by decide) rfl rfl ?_
  refine q_goto rfl ?_
  refine q_load (v := (0, 3, 0)) (p2 := 18) rfl rfl rfl rfl ?_
  refine q_load (v := (6, 478, 0)) (p2 := 19) rfl rfl rfl rfl ?_
  refine q_getv (v := (6, 7, 0)) (p2 := 20) rfl (zD_478 hD27).choose_spec.1 (by decide) (zD_478 hD27).choose_spec.2 rfl ?_
  refine q_getv (v := (6, 237, 0)) (p2 := 21) rfl hm28.1.choose_spec.1 (by decide) hm28.1.choose_spec.2.1 rfl ?_
  refine q_getv (v := (6, 246, 0)) (p2 := 22) rfl hm30.1.choose_spec.1 (by decide) hm30.1.choose_spec.2.2.2.1 rfl ?_
  refine q_const (p2 := 23) rfl rfl ?_
  refine q_aldv (v := (0, 5, 0)) (p2 := 24) rfl (x_sc_246 hm30) (by omega) (by omega) rfl rfl ?_
  refine q_icmp_s (p2 := 25) rfl (by decide) (by omega) (by omega) rfl (fun hb => absurd hb (show ¬ (¬ (3 < 5)) by omega)) (fun _ => ?_)
  refine q_load (v := (6, 478, 0)) (p2 := 26) rfl rfl rfl rfl ?_
  refine q_getv (v := (6, 7, 0)) (p2 := 27) rfl (zD_478 hD27).choose_spec.1 (by decide) (zD_478 hD27).choose_spec.2 rfl ?_
  refine q_getv (v := (6, 237, 0)) (p2 := 28) rfl hm28.1.choose_spec.1 (by decide) hm28.1.choose_spec.2.1 rfl ?_
  refine q_load (v := (0, 3, 0)) (p2 := 29) rfl rfl rfl rfl ?_
  refine q_callK (xs := [(0, 3, 0), (6, 237, 0)]) (p2 := 30) rfl rfl rfl rfl (x_rcv_s 237 hm30.1.choose_spec.1) rfl rfl ?_
  refine x_f_of rfl ?_
  refine q_load (v := (0, 3, 0)) (p2 := 1) rfl rfl rfl rfl ?_
  refine q_if0_s (p2 := 2) rfl (by decide) (by omega) rfl (fun hb => absurd hb (show ¬ (3 < 0) by omega)) (fun _ => ?_)
  refine q_load (v := (0, 3, 0)) (p2 := 3) rfl rfl rfl rfl ?_
  refine q_load (v := (6, 237, 0)) (p2 := 4) rfl rfl rfl rfl ?_
  refine q_getv (v := (6, 246, 0)) (p2 := 5) rfl hm30.1.choose_spec.1 (by decide) hm30.1.choose_spec.2.2.2.1 rfl ?_
  refine q_const (p2 := 6) rfl rfl ?_
  refine q_aldv (v := (0, 5, 0)) (p2 := 7) rfl (x_sc_246 hm30) (by omega) (by omega) rfl rfl ?_
  refine q_icmp_s (p2 := 8) rfl (by decide) (by omega) (by omega) rfl (fun hb => absurd hb (show ¬ (¬ (3 < 5)) by omega)) (fun _ => ?_)
  refine q_load (v := (6, 237, 0)) (p2 := 9) rfl rfl rfl rfl ?_
  refine q_getv (v := (6, 271, 0)) (p2 := 10) rfl hm30.1.choose_spec.1 (by decide) hm30.1.choose_spec.2.2.2.2.2.2.2.2.1 rfl ?_
  refine q_load (v := (0, 3, 0)) (p2 := 11) rfl rfl rfl rfl ?_
  refine q_aldv (v := (6, 275, 0)) (p2 := 12) rfl (x_sc_271 hm30) (by omega) (by omega) rfl rfl ?_
  refine q_const (p2 := 13) rfl rfl ?_
  refine q_aldv (v := (0, 0, 0)) (p2 := 14) rfl (x_sc_275 hm30) (by omega) (by omega) rfl rfl ?_
  refine q_if0_s (p2 := 15) rfl (by decide) (by omega) rfl (fun hb => absurd hb (show ¬ (¬ (0 = 0)) by omega)) (fun _ => ?_)
  refine q_const (p2 := 16) rfl rfl ?_
  refine q_goto rfl ?_
  refine q_retv (v := (0, 1, 0)) rfl rfl ⟨rfl, by omega, by omega, ?_⟩
  refine q_if0_s (p2 := 31) rfl (by decide) (by omega) rfl (fun hb => absurd hb (show ¬ (1 = 0) by omega)) (fun _ => ?_)
  refine q_load (v := (0, 3, 0)) (p2 := 32) rfl rfl rfl rfl ?_
  refine q_load (v := (6, 478, 0)) (p2 := 33) rfl rfl rfl rfl ?_
  refine q_getv (v := (6, 7, 0)) (p2 := 34) rfl (zD_478 hD27).choose_spec.1 (by decide) (zD_478 hD27).choose_spec.2 rfl ?_
  refine q_getv (v := (6, 237, 0)) (p2 := 35) rfl hm28.1.choose_spec.1 (by decide) hm28.1.choose_spec.2.1 rfl ?_
  refine q_getv (v := (6, 271, 0)) (p2 := 36) rfl hm30.1.choose_spec.1 (by decide) hm30.1.choose_spec.2.2.2.2.2.2.2.2.1 rfl ?_
  refine q_load (v := (0, 3, 0)) (p2 := 37) rfl rfl rfl rfl ?_
  refine q_aldv (v := (6, 275, 0)) (p2 := 38) rfl (x_sc_271 hm30) (by omega) (by omega) rfl rfl ?_
  refine q_const (p2 := 39) rfl rfl ?_
  refine q_aldv (v := (0, 1, 0)) (p2 := 40) rfl (x_sc_275 hm30) (by omega) (by omega) rfl rfl ?_
  refine q_iop (w := 3 >>> (1 % 32)) (z := 1) (p2 := 41) rfl (xo_shr (show 3 < 2147483648 by decide) 1) (by decide) rfl ?_
  refine q_const (p2 := 42) rfl rfl ?_
  refine q_iop (w := 1 &&& 1) (z := 1) (p2 := 43) rfl (xo_and 1 1) (by decide) rfl ?_
  refine q_const (p2 := 44) rfl rfl ?_
  refine q_icmp_s (p2 := 45) rfl (by decide) (by omega) (by omega) rfl (fun hb => absurd hb (show ¬ (¬ (1 = 1)) by omega)) (fun _ => ?_)
  refine q_load (v := (0, 0, 0)) (p2 := 46) rfl rfl rfl rfl ?_
  refine q_if0_s (p2 := 47) rfl (by decide) (by omega) rfl (fun hb => absurd hb (show ¬ (¬ (0 = 0)) by omega)) (fun _ => ?_)
  refine q_load (v := (6, 478, 0)) (p2 := 48) rfl rfl rfl rfl ?_
  refine q_const (p2 := 49) rfl rfl ?_
  refine q_callvE (xs := [(0, 44, 0), (6, 478, 0)]) (p2 := 50) rfl rfl rfl rfl (x_rcv_s 478 (zD_478 hD27).choose_spec.1) rfl (zc_addD hD27 (by omega) (by omega)) (Nat.le_refl _) (Nat.le_refl _) rfl (fun φ31 hR31 => ?_)
  obtain ⟨hD31, frn31⟩ := hR31
  refine q_const (p2 := 51) rfl rfl ?_
  refine q_store (loc2 := [(6, 478, 0), (0, x, 0), (0, 1, 0), (0, 3, 0), (0, 0, 0), (0, 3, 0)]) (p2 := 52) rfl rfl rfl rfl rfl ?_
  refine q_load (v := (6, 478, 0)) (p2 := 53) rfl rfl rfl rfl ?_
  refine q_load (v := (6, 478, 0)) (p2 := 54) rfl rfl rfl rfl ?_
  refine q_getv (v := (6, 7, 0)) (p2 := 55) rfl (zD_478 hD31).choose_spec.1 (by decide) (zD_478 hD31).choose_spec.2 rfl ?_
  refine q_load (v := (0, x, 0)) (p2 := 56) rfl rfl rfl rfl ?_
  refine q_load (v := (0, 3, 0)) (p2 := 57) rfl rfl rfl rfl ?_
  refine x_n_lt (fun hlt33 => ?_)
  have hm32 := (x_PS_at hm28 (fun j hj hne => by have hj2 := x_some_lt hlt29 hne; exact (frn31 j (by omega) (by omega) (by omega))))
  refine q_callrB (xs := [(0, 3, 0), (0, x, 0), (6, 7, 0)]) (p2 := 58) rfl rfl rfl rfl (x_rcv_s 7 hm32.1.choose_spec.1) rfl (e_heldByM hm32 (by omega) (by omega) rfl) rfl (fun w34 φ34 n34 sl34 hn34 hN34 hs34 hT34 hR34 => ?_)
  obtain ⟨v34, hwv34, hV34, hphi34⟩ := hR34
  subst hwv34
  have frn34 : ∀ j, φ34 j = φ31 j := fun j => by rw [hphi34]
  refine x_n_lt (fun hlt35 => ?_)
  have hz36 := x_mv_lt hV34 hlt35
  have hy36 := hV34.1
  have hm37 := (x_PS_at hm32 (fun j hj hne => by have hj2 := x_some_lt hlt33 hne; exact (frn34 j)))
  have hm38 := (zq_nm_at hm24 ((frn34 239).trans ((frn31 239 (by omega) (by omega) (by omega)).trans (frn27 239 (by omega) (by omega) (by omega)))) ((frn34 242).trans ((frn31 242 (by omega) (by omega) (by omega)).trans (frn27 242 (by omega) (by omega) (by omega)))) ((frn34 244).trans ((frn31 244 (by omega) (by omega) (by omega)).trans (frn27 244 (by omega) (by omega) (by omega)))))
  have hm39 := (x_sch_at hm30 (fun j h1 h2 => ((frn34 j).trans (frn31 j (by omega) (by omega) (by omega)))))
  have hm40 := (zD_at hD31 (fun j h1 h2 => (frn34 j)))
  refine q_callvE (xs := [(6, v34, 0), (6, 478, 0)]) (p2 := 59) rfl rfl rfl rfl (x_rcv_s 478 (zD_478 hm40).choose_spec.1) rfl (zc_held hm37 hm39 hm38 (by omega) hm40 hV34 hz3 (by omega)) (Nat.le_refl _) (Nat.le_refl _) rfl (fun φ41 hR41 => ?_)
  obtain ⟨hD41, frn41⟩ := hR41
  refine q_iinc (z := 4) (loc2 := [(6, 478, 0), (0, x, 0), (0, 1, 0), (0, 3, 0), (0, 0, 0), (0, 4, 0)]) (p2 := 60) rfl rfl (by decide) rfl rfl ?_
  refine q_goto rfl ?_
  refine q_load (v := (0, 4, 0)) (p2 := 18) rfl rfl rfl rfl ?_
  refine q_load (v := (6, 478, 0)) (p2 := 19) rfl rfl rfl rfl ?_
  refine q_getv (v := (6, 7, 0)) (p2 := 20) rfl (zD_478 hD41).choose_spec.1 (by decide) (zD_478 hD41).choose_spec.2 rfl ?_
  refine x_n_lt (fun hlt43 => ?_)
  have hm42 := (x_PS_at hm37 (fun j hj hne => by have hj2 := x_some_lt hlt35 hne; exact (frn41 j (by omega) (by omega) (by omega))))
  refine q_getv (v := (6, 237, 0)) (p2 := 21) rfl hm42.1.choose_spec.1 (by decide) hm42.1.choose_spec.2.1 rfl ?_
  have hm44 := (x_sch_at hm39 (fun j h1 h2 => (frn41 j (by omega) (by omega) (by omega))))
  refine q_getv (v := (6, 246, 0)) (p2 := 22) rfl hm44.1.choose_spec.1 (by decide) hm44.1.choose_spec.2.2.2.1 rfl ?_
  refine q_const (p2 := 23) rfl rfl ?_
  refine q_aldv (v := (0, 5, 0)) (p2 := 24) rfl (x_sc_246 hm44) (by omega) (by omega) rfl rfl ?_
  refine q_icmp_s (p2 := 25) rfl (by decide) (by omega) (by omega) rfl (fun hb => absurd hb (show ¬ (¬ (4 < 5)) by omega)) (fun _ => ?_)
  refine q_load (v := (6, 478, 0)) (p2 := 26) rfl rfl rfl rfl ?_
  refine q_getv (v := (6, 7, 0)) (p2 := 27) rfl (zD_478 hD41).choose_spec.1 (by decide) (zD_478 hD41).choose_spec.2 rfl ?_
  refine q_getv (v := (6, 237, 0)) (p2 := 28) rfl hm42.1.choose_spec.1 (by decide) hm42.1.choose_spec.2.1 rfl ?_
  refine q_load (v := (0, 4, 0)) (p2 := 29) rfl rfl rfl rfl ?_
  refine q_callK (xs := [(0, 4, 0), (6, 237, 0)]) (p2 := 30) rfl rfl rfl rfl (x_rcv_s 237 hm44.1.choose_spec.1) rfl rfl ?_
  refine x_f_of rfl ?_
  refine q_load (v := (0, 4, 0)) (p2 := 1) rfl rfl rfl rfl ?_
  refine q_if0_s (p2 := 2) rfl (by decide) (by omega) rfl (fun hb => absurd hb (show ¬ (4 < 0) by omega)) (fun _ => ?_)
  refine q_load (v := (0, 4, 0)) (p2 := 3) rfl rfl rfl rfl ?_
  refine q_load (v := (6, 237, 0)) (p2 := 4) rfl rfl rfl rfl ?_
  refine q_getv (v := (6, 246, 0)) (p2 := 5) rfl hm44.1.choose_spec.1 (by decide) hm44.1.choose_spec.2.2.2.1 rfl ?_
  refine q_const (p2 := 6) rfl rfl ?_
  refine q_aldv (v := (0, 5, 0)) (p2 := 7) rfl (x_sc_246 hm44) (by omega) (by omega) rfl rfl ?_
  refine q_icmp_s (p2 := 8) rfl (by decide) (by omega) (by omega) rfl (fun hb => absurd hb (show ¬ (¬ (4 < 5)) by omega)) (fun _ => ?_)
  refine q_load (v := (6, 237, 0)) (p2 := 9) rfl rfl rfl rfl ?_
  refine q_getv (v := (6, 271, 0)) (p2 := 10) rfl hm44.1.choose_spec.1 (by decide) hm44.1.choose_spec.2.2.2.2.2.2.2.2.1 rfl ?_
  refine q_load (v := (0, 4, 0)) (p2 := 11) rfl rfl rfl rfl ?_
  refine q_aldv (v := (6, 276, 0)) (p2 := 12) rfl (x_sc_271 hm44) (by omega) (by omega) rfl rfl ?_
  refine q_const (p2 := 13) rfl rfl ?_
  refine q_aldv (v := (0, 2, 0)) (p2 := 14) rfl (x_sc_276 hm44) (by omega) (by omega) rfl rfl ?_
  refine q_if0_s (p2 := 15) rfl (by decide) (by omega) rfl (fun _ => ?_) (fun hb => absurd (show ¬ (2 = 0) by omega) hb)
  refine q_const (p2 := 18) rfl rfl ?_
  refine q_retv (v := (0, 0, 0)) rfl rfl ⟨rfl, by omega, by omega, ?_⟩
  refine q_if0_s (p2 := 31) rfl (by decide) (by omega) rfl (fun _ => ?_) (fun hb => absurd (show 0 = 0 by omega) hb)
  refine q_iinc (z := 5) (loc2 := [(6, 478, 0), (0, x, 0), (0, 1, 0), (0, 3, 0), (0, 0, 0), (0, 5, 0)]) (p2 := 60) rfl rfl (by decide) rfl rfl ?_
  refine q_goto rfl ?_
  refine q_load (v := (0, 5, 0)) (p2 := 18) rfl rfl rfl rfl ?_
  refine q_load (v := (6, 478, 0)) (p2 := 19) rfl rfl rfl rfl ?_
  refine q_getv (v := (6, 7, 0)) (p2 := 20) rfl (zD_478 hD41).choose_spec.1 (by decide) (zD_478 hD41).choose_spec.2 rfl ?_
  refine q_getv (v := (6, 237, 0)) (p2 := 21) rfl hm42.1.choose_spec.1 (by decide) hm42.1.choose_spec.2.1 rfl ?_
  refine q_getv (v := (6, 246, 0)) (p2 := 22) rfl hm44.1.choose_spec.1 (by decide) hm44.1.choose_spec.2.2.2.1 rfl ?_
  refine q_const (p2 := 23) rfl rfl ?_
  refine q_aldv (v := (0, 5, 0)) (p2 := 24) rfl (x_sc_246 hm44) (by omega) (by omega) rfl rfl ?_
  refine q_icmp_s (p2 := 25) rfl (by decide) (by omega) (by omega) rfl (fun _ => ?_) (fun hb => absurd (show ¬ (5 < 5) by omega) hb)
  refine q_load (v := (6, 478, 0)) (p2 := 62) rfl rfl rfl rfl ?_
  refine q_const (p2 := 63) rfl rfl ?_
  refine q_callvE (xs := [(0, 41, 0), (6, 478, 0)]) (p2 := 64) rfl rfl rfl rfl (x_rcv_s 478 (zD_478 hD41).choose_spec.1) rfl (zc_addD hD41 (by omega) (by omega)) (Nat.le_refl _) (Nat.le_refl _) rfl (fun φ45 hR45 => ?_)
  obtain ⟨hD45, frn45⟩ := hR45
  exact q_ret rfl (⟨rfl, by omega, by omega, hD45, fun j hj0 hj1 hj2 => ((frn45 j (by omega) (by omega) (by omega)).trans ((frn41 j (by omega) (by omega) (by omega)).trans ((frn34 j).trans ((frn31 j (by omega) (by omega) (by omega)).trans ((frn27 j (by omega) (by omega) (by omega)).trans ((frn20 j).trans ((frn17 j (by omega) (by omega) (by omega)).trans ((frn13 j (by omega) (by omega) (by omega)).trans ((frn6 j).trans ((frn2 j (by omega) (by omega) (by omega)).trans (frn1 j (by omega) (by omega) (by omega))))))))))))⟩)
theorem zc_inst_3 {d n sl : Nat} {φ : FH} {A : Nat} {B : Nat} {made : Nat} {sv : Nat} {svm : Nat} {s9 : Nat} {comb : Nat → Nat} {hm : Nat → MV} {sz b x : Nat} {bw : Nat → Nat} {L : List Nat} (hPS : x_PS φ A B made sv svm s9 comb hm) (hS : x_sch φ) (hN : zq_nm φ) (hn0 : 486 ≤ n) (hD : zD φ sz bw L b) (hx : x < 40) (hz0 : zHM (hm (x * 40))) (hz1 : zHM (hm (x * 40 + 1))) (hz3 : zHM (hm (x * 40 + 3))) (hb : b < 5600) : x_f x_P (d + 9) 74 [(6, 478, 0), (0, x, 0), (0, 3, 0), (11, 0, 0), (11, 0, 0)] φ n sl (x_vR n sl (fun φ2 => zD φ2 sz bw ((((((((((((L ++ [35]) ++ xdec x) ++ [61]) ++ [98]) ++ [40]) ++ zhb (hm (x * 40))) ++ [44]) ++ zhb (hm (x * 40 + 1))) ++ [44]) ++ zhb (hm (x * 40 + 3))) ++ [41]) ++ [59]) (b + 72) ∧ ∀ j, j ≠ 478 → j ≠ 479 → j ≠ 480 → φ2 j = φ j)) := by
  refine x_f_of rfl ?_
  refine x_n_lt (fun hlt0 => ?_)
  refine q_load (v := (6, 478, 0)) (p2 := 1) rfl rfl rfl rfl ?_
  refine q_const (p2 := 2) rfl rfl ?_
  refine q_callvE (xs := [(0, 35, 0), (6, 478, 0)]) (p2 := 3) rfl rfl rfl rfl (x_rcv_s 478 (zD_478 hD).choose_spec.1) rfl (zc_addD hD (by omega) (by omega)) (Nat.le_refl _) (Nat.le_refl _) rfl (fun φ1 hR1 => ?_)
  obtain ⟨hD1, frn1⟩ := hR1
  refine q_load (v := (6, 478, 0)) (p2 := 4) rfl rfl rfl rfl ?_
  refine q_load (v := (0, x, 0)) (p2 := 5) rfl rfl rfl rfl ?_
  refine q_i2l (p2 := 6) rfl (by omega) rfl ?_
  refine q_callvE (xs := [(2, x, 0), (6, 478, 0)]) (p2 := 7) rfl rfl rfl rfl (x_rcv_s 478 (zD_478 hD1).choose_spec.1) rfl (zc_wnum hD1 (by omega) (by omega)) (Nat.le_refl _) (Nat.le_refl _) rfl (fun φ2 hR2 => ?_)
  obtain ⟨hD2, frn2⟩ := hR2
  refine q_load (v := (6, 478, 0)) (p2 := 8) rfl rfl rfl rfl ?_
  refine q_const (p2 := 9) rfl rfl ?_
  refine q_callvE (xs := [(0, 61, 0), (6, 478, 0)]) (p2 := 10) rfl rfl rfl rfl (x_rcv_s 478 (zD_478 hD2).choose_spec.1) rfl (zc_addD hD2 (by omega) (by omega)) (Nat.le_refl _) (Nat.le_refl _) rfl (fun φ3 hR3 => ?_)
  obtain ⟨hD3, frn3⟩ := hR3
  refine q_const (p2 := 11) rfl rfl ?_
  refine q_store (loc2 := [(6, 478, 0), (0, x, 0), (0, 3, 0), (0, 4294967293, 0), (11, 0, 0)]) (p2 := 12) rfl rfl rfl rfl rfl ?_
  refine q_const (p2 := 13) rfl rfl ?_
  refine q_store (loc2 := [(6, 478, 0), (0, x, 0), (0, 3, 0), (0, 4294967293, 0), (0, 0, 0)]) (p2 := 14) rfl rfl rfl rfl rfl ?_
  refine q_load (v := (0, 0, 0)) (p2 := 15) rfl rfl rfl rfl ?_
  refine q_load (v := (6, 478, 0)) (p2 := 16) rfl rfl rfl rfl ?_
  refine q_getv (v := (6, 7, 0)) (p2 := 17) rfl (zD_478 hD3).choose_spec.1 (by decide) (zD_478 hD3).choose_spec.2 rfl ?_
  refine x_n_lt (fun hlt5 => ?_)
  have hm4 := (x_PS_at hPS (fun j hj hne => by have hj2 := x_some_lt hlt0 hne; exact ((frn3 j (by omega) (by omega) (by omega)).trans ((frn2 j (by omega) (by omega) (by omega)).trans (frn1 j (by omega) (by omega) (by omega))))))
  refine q_getv (v := (6, 237, 0)) (p2 := 18) rfl hm4.1.choose_spec.1 (by decide) hm4.1.choose_spec.2.1 rfl ?_
  have hm6 := (x_sch_at hS (fun j h1 h2 => ((frn3 j (by omega) (by omega) (by omega)).trans ((frn2 j (by omega) (by omega) (by omega)).trans (frn1 j (by omega) (by omega) (by omega))))))
  refine q_getv (v := (6, 246, 0)) (p2 := 19) rfl hm6.1.choose_spec.1 (by decide) hm6.1.choose_spec.2.2.2.1 rfl ?_
  refine q_const (p2 := 20) rfl rfl ?_
  refine q_aldv (v := (0, 3, 0)) (p2 := 21) rfl (x_sc_246 hm6) (by omega) (by omega) rfl rfl ?_
  refine q_icmp_s (p2 := 22) rfl (by decide) (by omega) (by omega) rfl (fun hb => absurd hb (show ¬ (¬ (0 < 3)) by omega)) (fun _ => ?_)
  refine q_load (v := (6, 478, 0)) (p2 := 23) rfl rfl rfl rfl ?_
  refine q_getv (v := (6, 7, 0)) (p2 := 24) rfl (zD_478 hD3).choose_spec.1 (by decide) (zD_478 hD3).choose_spec.2 rfl ?_
  refine q_getv (v := (6, 237, 0)) (p2 := 25) rfl hm4.1.choose_spec.1 (by decide) hm4.1.choose_spec.2.1 rfl ?_
  refine q_getv (v := (6, 257, 0)) (p2 := 26) rfl hm6.1.choose_spec.1 (by decide) hm6.1.choose_spec.2.2.2.2.2.2.1 rfl ?_
  refine q_load (v := (0, 0, 0)) (p2 := 27) rfl rfl rfl rfl ?_
  refine q_aldv (v := (6, 258, 0)) (p2 := 28) rfl (x_sc_257 hm6) (by omega) (by omega) rfl rfl ?_
  refine q_const (p2 := 29) rfl rfl ?_
  refine q_aldv (v := (0, 0, 0)) (p2 := 30) rfl (x_sc_258 hm6) (by omega) (by omega) rfl rfl ?_
  refine q_const (p2 := 31) rfl rfl ?_
  refine q_load (v := (0, 0, 0)) (p2 := 32) rfl rfl rfl rfl ?_
  refine q_iop (w := 1 <<< (0 % 32)) (z := 1) (p2 := 33) rfl (xo_shl 1 0) (by decide) rfl ?_
  refine q_iop (w := 0 ||| 1) (z := 1) (p2 := 34) rfl (xo_or 0 1) (by decide) rfl ?_
  refine q_load (v := (0, 3, 0)) (p2 := 35) rfl rfl rfl rfl ?_
  refine q_icmp_s (p2 := 36) rfl (by decide) (by omega) (by omega) rfl (fun _ => ?_) (fun hb => absurd (show ¬ (1 = 3) by omega) hb)
  refine q_iinc (z := 1) (loc2 := [(6, 478, 0), (0, x, 0), (0, 3, 0), (0, 4294967293, 0), (0, 1, 0)]) (p2 := 39) rfl rfl (by decide) rfl rfl ?_
  refine q_goto rfl ?_
  refine q_load (v := (0, 1, 0)) (p2 := 15) rfl rfl rfl rfl ?_
  refine q_load (v := (6, 478, 0)) (p2 := 16) rfl rfl rfl rfl ?_
  refine q_getv (v := (6, 7, 0)) (p2 := 17) rfl (zD_478 hD3).choose_spec.1 (by decide) (zD_478 hD3).choose_spec.2 rfl ?_
  refine q_getv (v := (6, 237, 0)) (p2 := 18) rfl hm4.1.choose_spec.1 (by decide) hm4.1.choose_spec.2.1 rfl ?_
  refine q_getv (v := (6, 246, 0)) (p2 := 19) rfl hm6.1.choose_spec.1 (by decide) hm6.1.choose_spec.2.2.2.1 rfl ?_
  refine q_const (p2 := 20) rfl rfl ?_
  refine q_aldv (v := (0, 3, 0)) (p2 := 21) rfl (x_sc_246 hm6) (by omega) (by omega) rfl rfl ?_
  refine q_icmp_s (p2 := 22) rfl (by decide) (by omega) (by omega) rfl (fun hb => absurd hb (show ¬ (¬ (1 < 3)) by omega)) (fun _ => ?_)
  refine q_load (v := (6, 478, 0)) (p2 := 23) rfl rfl rfl rfl ?_
  refine q_getv (v := (6, 7, 0)) (p2 := 24) rfl (zD_478 hD3).choose_spec.1 (by decide) (zD_478 hD3).choose_spec.2 rfl ?_
  refine q_getv (v := (6, 237, 0)) (p2 := 25) rfl hm4.1.choose_spec.1 (by decide) hm4.1.choose_spec.2.1 rfl ?_
  refine q_getv (v := (6, 257, 0)) (p2 := 26) rfl hm6.1.choose_spec.1 (by decide) hm6.1.choose_spec.2.2.2.2.2.2.1 rfl ?_
  refine q_load (v := (0, 1, 0)) (p2 := 27) rfl rfl rfl rfl ?_
  refine q_aldv (v := (6, 259, 0)) (p2 := 28) rfl (x_sc_257 hm6) (by omega) (by omega) rfl rfl ?_
  refine q_const (p2 := 29) rfl rfl ?_
  refine q_aldv (v := (0, 1, 0)) (p2 := 30) rfl (x_sc_259 hm6) (by omega) (by omega) rfl rfl ?_
  refine q_const (p2 := 31) rfl rfl ?_
  refine q_load (v := (0, 1, 0)) (p2 := 32) rfl rfl rfl rfl ?_
  refine q_iop (w := 1 <<< (1 % 32)) (z := 2) (p2 := 33) rfl (xo_shl 1 1) (by decide) rfl ?_
  refine q_iop (w := 1 ||| 2) (z := 3) (p2 := 34) rfl (xo_or 1 2) (by decide) rfl ?_
  refine q_load (v := (0, 3, 0)) (p2 := 35) rfl rfl rfl rfl ?_
  refine q_icmp_s (p2 := 36) rfl (by decide) (by omega) (by omega) rfl (fun hb => absurd hb (show ¬ (¬ (3 = 3)) by omega)) (fun _ => ?_)
  refine q_load (v := (0, 1, 0)) (p2 := 37) rfl rfl rfl rfl ?_
  refine q_store (loc2 := [(6, 478, 0), (0, x, 0), (0, 3, 0), (0, 1, 0), (0, 1, 0)]) (p2 := 38) rfl rfl rfl rfl rfl ?_
  refine q_iinc (z := 2) (loc2 := [(6, 478, 0), (0, x, 0), (0, 3, 0), (0, 1, 0), (0, 2, 0)]) (p2 := 39) rfl rfl (by decide) rfl rfl ?_
  refine q_goto rfl ?_
  refine q_load (v := (0, 2, 0)) (p2 := 15) rfl rfl rfl rfl ?_
  refine q_load (v := (6, 478, 0)) (p2 := 16) rfl rfl rfl rfl ?_
  refine q_getv (v := (6, 7, 0)) (p2 := 17) rfl (zD_478 hD3).choose_spec.1 (by decide) (zD_478 hD3).choose_spec.2 rfl ?_
  refine q_getv (v := (6, 237, 0)) (p2 := 18) rfl hm4.1.choose_spec.1 (by decide) hm4.1.choose_spec.2.1 rfl ?_
  refine q_getv (v := (6, 246, 0)) (p2 := 19) rfl hm6.1.choose_spec.1 (by decide) hm6.1.choose_spec.2.2.2.1 rfl ?_
  refine q_const (p2 := 20) rfl rfl ?_
  refine q_aldv (v := (0, 3, 0)) (p2 := 21) rfl (x_sc_246 hm6) (by omega) (by omega) rfl rfl ?_
  refine q_icmp_s (p2 := 22) rfl (by decide) (by omega) (by omega) rfl (fun hb => absurd hb (show ¬ (¬ (2 < 3)) by omega)) (fun _ => ?_)
  refine q_load (v := (6, 478, 0)) (p2 := 23) rfl rfl rfl rfl ?_
  refine q_getv (v := (6, 7, 0)) (p2 := 24) rfl (zD_478 hD3).choose_spec.1 (by decide) (zD_478 hD3).choose_spec.2 rfl ?_
  refine q_getv (v := (6, 237, 0)) (p2 := 25) rfl hm4.1.choose_spec.1 (by decide) hm4.1.choose_spec.2.1 rfl ?_
  refine q_getv (v := (6, 257, 0)) (p2 := 26) rfl hm6.1.choose_spec.1 (by decide) hm6.1.choose_spec.2.2.2.2.2.2.1 rfl ?_
  refine q_load (v := (0, 2, 0)) (p2 := 27) rfl rfl rfl rfl ?_
  refine q_aldv (v := (6, 260, 0)) (p2 := 28) rfl (x_sc_257 hm6) (by omega) (by omega) rfl rfl ?_
  refine q_const (p2 := 29) rfl rfl ?_
  refine q_aldv (v := (0, 1, 0)) (p2 := 30) rfl (x_sc_260 hm6) (by omega) (by omega) rfl rfl ?_
  refine q_const (p2 := 31) rfl rfl ?_
  refine q_load (v := (0, 2, 0)) (p2 := 32) rfl rfl rfl rfl ?_
  refine q_iop (w := 1 <<< (2 % 32)) (z := 4) (p2 := 33) rfl (xo_shl 1 2) (by decide) rfl ?_
  refine q_iop (w := 1 ||| 4) (z := 5) (p2 := 34) rfl (xo_or 1 4) (by decide) rfl ?_
  refine q_load (v := (0, 3, 0)) (p2 := 35) rfl rfl rfl rfl ?_
  refine q_icmp_s (p2 := 36) rfl (by decide) (by omega) (by omega) rfl (fun _ => ?_) (fun hb => absurd (show ¬ (5 = 3) by omega) hb)
  refine q_iinc (z := 3) (loc2 := [(6, 478, 0), (0, x, 0), (0, 3, 0), (0, 1, 0), (0, 3, 0)]) (p2 := 39) rfl rfl (by decide) rfl rfl ?_
  refine q_goto rfl ?_
  refine q_load (v := (0, 3, 0)) (p2 := 15) rfl rfl rfl rfl ?_
  refine q_load (v := (6, 478, 0)) (p2 := 16) rfl rfl rfl rfl ?_
  refine q_getv (v := (6, 7, 0)) (p2 := 17) rfl (zD_478 hD3).choose_spec.1 (by decide) (zD_478 hD3).choose_spec.2 rfl ?_
  refine q_getv (v := (6, 237, 0)) (p2 := 18) rfl hm4.1.choose_spec.1 (by decide) hm4.1.choose_spec.2.1 rfl ?_
  refine q_getv (v := (6, 246, 0)) (p2 := 19) rfl hm6.1.choose_spec.1 (by decide) hm6.1.choose_spec.2.2.2.1 rfl ?_
  refine q_const (p2 := 20) rfl rfl ?_
  refine q_aldv (v := (0, 3, 0)) (p2 := 21) rfl (x_sc_246 hm6) (by omega) (by omega) rfl rfl ?_
  refine q_icmp_s (p2 := 22) rfl (by decide) (by omega) (by omega) rfl (fun _ => ?_) (fun hb => absurd (show ¬ (3 < 3) by omega) hb)
  refine q_load (v := (0, 1, 0)) (p2 := 41) rfl rfl rfl rfl ?_
  refine q_if0_s (p2 := 42) rfl (by decide) (by omega) rfl (fun hb => absurd hb (show ¬ (1 < 0) by omega)) (fun _ => ?_)
  refine q_load (v := (6, 478, 0)) (p2 := 43) rfl rfl rfl rfl ?_
  refine q_load (v := (0, x, 0)) (p2 := 44) rfl rfl rfl rfl ?_
  refine q_load (v := (0, 1, 0)) (p2 := 45) rfl rfl rfl rfl ?_
  refine q_load (v := (0, 3, 0)) (p2 := 46) rfl rfl rfl rfl ?_
  have hm7 := (zq_nm_at hN ((frn3 239 (by omega) (by omega) (by omega)).trans ((frn2 239 (by omega) (by omega) (by omega)).trans (frn1 239 (by omega) (by omega) (by omega)))) ((frn3 242 (by omega) (by omega) (by omega)).trans ((frn2 242 (by omega) (by omega) (by omega)).trans (frn1 242 (by omega) (by omega) (by omega)))) ((frn3 244 (by omega) (by omega) (by omega)).trans ((frn2 244 (by omega) (by omega) (by omega)).trans (frn1 244 (by omega) (by omega) (by omega)))))
  refine q_callvE (xs := [(0, 3, 0), (0, 1, 0), (0, x, 0), (6, 478, 0)]) (p2 := 47) rfl rfl rfl rfl (x_rcv_s 478 (zD_478 hD3).choose_spec.1) rfl (zc_form_3 hm4 hm6 hm7 (by omega) hD3 (by omega) hz0 hz1 hz3 (by omega)) (Nat.le_refl _) (Nat.le_refl _) rfl (fun φ8 hR8 => ?_)
  obtain ⟨hD8, frn8⟩ := hR8
  refine q_goto rfl ?_
  refine q_load (v := (6, 478, 0)) (p2 := 81) rfl rfl rfl rfl ?_
  refine q_const (p2 := 82) rfl rfl ?_
  refine q_callvE (xs := [(0, 59, 0), (6, 478, 0)]) (p2 := 83) rfl rfl rfl rfl (x_rcv_s 478 (zD_478 hD8).choose_spec.1) rfl (zc_addD hD8 (by omega) (by omega)) (Nat.le_refl _) (Nat.le_refl _) rfl (fun φ9 hR9 => ?_)
  obtain ⟨hD9, frn9⟩ := hR9
  exact q_ret rfl (⟨rfl, rfl, rfl, hD9, fun j hj0 hj1 hj2 => ((frn9 j (by omega) (by omega) (by omega)).trans ((frn8 j (by omega) (by omega) (by omega)).trans ((frn3 j (by omega) (by omega) (by omega)).trans ((frn2 j (by omega) (by omega) (by omega)).trans (frn1 j (by omega) (by omega) (by omega))))))⟩)
theorem zc_form_5 {d n sl : Nat} {φ : FH} {A : Nat} {B : Nat} {made : Nat} {sv : Nat} {svm : Nat} {s9 : Nat} {comb : Nat → Nat} {hm : Nat → MV} {sz b x : Nat} {bw : Nat → Nat} {L : List Nat} (hPS : x_PS φ A B made sv svm s9 comb hm) (hS : x_sch φ) (hN : zq_nm φ) (hn0 : 486 ≤ n) (hD : zD φ sz bw L b) (hx : x < 40) (hz0 : zHM (hm (x * 40))) (hz1 : zHM (hm (x * 40 + 1))) (hz3 : zHM (hm (x * 40 + 3))) (hb : b < 5700) : x_f x_P (d + 8) 130 [(6, 478, 0), (0, x, 0), (0, 2, 0), (0, 5, 0), (11, 0, 0), (11, 0, 0)] φ n sl (x_vR n sl (fun φ2 => zD φ2 sz bw ((((((L ++ [99]) ++ [40]) ++ zhb (hm (x * 40))) ++ [44]) ++ zhb (hm (x * 40 + 1))) ++ [41]) (b + 44) ∧ ∀ j, j ≠ 478 → j ≠ 479 → j ≠ 480 → φ2 j = φ j)) := by
  refine x_f_of rfl ?_
  refine x_n_lt (fun hlt0 => ?_)
  refine q_load (v := (6, 478, 0)) (p2 := 1) rfl rfl rfl rfl ?_
  refine q_load (v := (6, 478, 0)) (p2 := 2) rfl rfl rfl rfl ?_
  refine q_getv (v := (6, 7, 0)) (p2 := 3) rfl (zD_478 hD).choose_spec.1 (by decide) (zD_478 hD).choose_spec.2 rfl ?_
  refine q_getv (v := (6, 237, 0)) (p2 := 4) rfl hPS.1.choose_spec.1 (by decide) hPS.1.choose_spec.2.1 rfl ?_
  refine q_getv (v := (6, 239, 0)) (p2 := 5) rfl hS.1.choose_spec.1 (by decide) hS.1.choose_spec.2.2.1 rfl ?_
  refine q_const (p2 := 6) rfl rfl ?_
  refine q_aldv (v := (6, 242, 0)) (p2 := 7) rfl hN.1 (by omega) (by omega) rfl rfl ?_
  refine q_load (v := (0, 2, 0)) (p2 := 8) rfl rfl rfl rfl ?_
  refine q_aldv (v := (2, 3, 0)) (p2 := 9) rfl hN.2.1 (by omega) (by omega) rfl rfl ?_
  refine q_callvE (xs := [(2, 3, 0), (6, 478, 0)]) (p2 := 10) rfl rfl rfl rfl (x_rcv_s 478 (zD_478 hD).choose_spec.1) rfl (zc_word_3 hD (by omega)) (Nat.le_refl _) (Nat.le_refl _) rfl (fun φ1 hR1 => ?_)
  obtain ⟨hD1, frn1⟩ := hR1
  refine q_load (v := (6, 478, 0)) (p2 := 11) rfl rfl rfl rfl ?_
  refine q_const (p2 := 12) rfl rfl ?_
  refine q_callvE (xs := [(0, 40, 0), (6, 478, 0)]) (p2 := 13) rfl rfl rfl rfl (x_rcv_s 478 (zD_478 hD1).choose_spec.1) rfl (zc_addD hD1 (by omega) (by omega)) (Nat.le_refl _) (Nat.le_refl _) rfl (fun φ2 hR2 => ?_)
  obtain ⟨hD2, frn2⟩ := hR2
  refine q_const (p2 := 14) rfl rfl ?_
  refine q_store (loc2 := [(6, 478, 0), (0, x, 0), (0, 2, 0), (0, 5, 0), (0, 1, 0), (11, 0, 0)]) (p2 := 15) rfl rfl rfl rfl rfl ?_
  refine q_const (p2 := 16) rfl rfl ?_
  refine q_store (loc2 := [(6, 478, 0), (0, x, 0), (0, 2, 0), (0, 5, 0), (0, 1, 0), (0, 0, 0)]) (p2 := 17) rfl rfl rfl rfl rfl ?_
  refine q_load (v := (0, 0, 0)) (p2 := 18) rfl rfl rfl rfl ?_
  refine q_load (v := (6, 478, 0)) (p2 := 19) rfl rfl rfl rfl ?_
  refine q_getv (v := (6, 7, 0)) (p2 := 20) rfl (zD_478 hD2).choose_spec.1 (by decide) (zD_478 hD2).choose_spec.2 rfl ?_
  refine x_n_lt (fun hlt4 => ?_)
  have hm3 := (x_PS_at hPS (fun j hj hne => by have hj2 := x_some_lt hlt0 hne; exact ((frn2 j (by omega) (by omega) (by omega)).trans (frn1 j (by omega) (by omega) (by omega)))))
  refine q_getv (v := (6, 237, 0)) (p2 := 21) rfl hm3.1.choose_spec.1 (by decide) hm3.1.choose_spec.2.1 rfl ?_
  have hm5 := (x_sch_at hS (fun j h1 h2 => ((frn2 j (by omega) (by omega) (by omega)).trans (frn1 j (by omega) (by omega) (by omega)))))
  refine q_getv (v := (6, 246, 0)) (p2 := 22) rfl hm5.1.choose_spec.1 (by decide) hm5.1.choose_spec.2.2.2.1 rfl ?_
  refine q_const (p2 := 23) rfl rfl ?_
  refine q_aldv (v := (0, 5, 0)) (p2 := 24) rfl (x_sc_246 hm5) (by omega) (by omega) rfl rfl ?_
  refine q_icmp_s (p2 := 25) rfl (by decide) (by omega) (by omega) rfl (fun hb => absurd hb (show ¬ (¬ (0 < 5)) by omega)) (fun _ => ?_)
  refine q_load (v := (6, 478, 0)) (p2 := 26) rfl rfl rfl rfl ?_
  refine q_getv (v := (6, 7, 0)) (p2 := 27) rfl (zD_478 hD2).choose_spec.1 (by decide) (zD_478 hD2).choose_spec.2 rfl ?_
  refine q_getv (v := (6, 237, 0)) (p2 := 28) rfl hm3.1.choose_spec.1 (by decide) hm3.1.choose_spec.2.1 rfl ?_
  refine q_load (v := (0, 0, 0)) (p2 := 29) rfl rfl rfl rfl ?_
  refine q_callK (xs := [(0, 0, 0), (6, 237, 0)]) (p2 := 30) rfl rfl rfl rfl (x_rcv_s 237 hm5.1.choose_spec.1) rfl rfl ?_
  refine x_f_of rfl ?_
  refine q_load (v := (0, 0, 0)) (p2 := 1) rfl rfl rfl rfl ?_
  refine q_if0_s (p2 := 2) rfl (by decide) (by omega) rfl (fun hb => absurd hb (show ¬ (0 < 0) by omega)) (fun _ => ?_)
  refine q_load (v := (0, 0, 0)) (p2 := 3) rfl rfl rfl rfl ?_
  refine q_load (v := (6, 237, 0)) (p2 := 4) rfl rfl rfl rfl ?_
  refine q_getv (v := (6, 246, 0)) (p2 := 5) rfl hm5.1.choose_spec.1 (by decide) hm5.1.choose_spec.2.2.2.1 rfl ?_
  refine q_const (p2 := 6) rfl rfl ?_
  refine q_aldv (v := (0, 5, 0)) (p2 := 7) rfl (x_sc_246 hm5) (by omega) (by omega) rfl rfl ?_
  refine q_icmp_s (p2 := 8) rfl (by decide) (by omega) (by omega) rfl (fun hb => absurd hb (show ¬ (¬ (0 < 5)) by omega)) (fun _ => ?_)
  refine q_load (v := (6, 237, 0)) (p2 := 9) rfl rfl rfl rfl ?_
  refine q_getv (v := (6, 271, 0)) (p2 := 10) rfl hm5.1.choose_spec.1 (by decide) hm5.1.choose_spec.2.2.2.2.2.2.2.2.1 rfl ?_
  refine q_load (v := (0, 0, 0)) (p2 := 11) rfl rfl rfl rfl ?_
  refine q_aldv (v := (6, 272, 0)) (p2 := 12) rfl (x_sc_271 hm5) (by omega) (by omega) rfl rfl ?_
  refine q_const (p2 := 13) rfl rfl ?_
  refine q_aldv (v := (0, 0, 0)) (p2 := 14) rfl (x_sc_272 hm5) (by omega) (by omega) rfl rfl ?_
  refine q_if0_s (p2 := 15) rfl (by decide) (by omega) rfl (fun hb => absurd hb (show ¬ (¬ (0 = 0)) by omega)) (fun _ => ?_)
  refine q_const (p2 := 16) rfl rfl ?_
  refine q_goto rfl ?_
  refine q_retv (v := (0, 1, 0)) rfl rfl ⟨rfl, by omega, by omega, ?_⟩
  refine q_if0_s (p2 := 31) rfl (by decide) (by omega) rfl (fun hb => absurd hb (show ¬ (1 = 0) by omega)) (fun _ => ?_)
  refine q_load (v := (0, 5, 0)) (p2 := 32) rfl rfl rfl rfl ?_
  refine q_load (v := (6, 478, 0)) (p2 := 33) rfl rfl rfl rfl ?_
  refine q_getv (v := (6, 7, 0)) (p2 := 34) rfl (zD_478 hD2).choose_spec.1 (by decide) (zD_478 hD2).choose_spec.2 rfl ?_
  refine q_getv (v := (6, 237, 0)) (p2 := 35) rfl hm3.1.choose_spec.1 (by decide) hm3.1.choose_spec.2.1 rfl ?_
  refine q_getv (v := (6, 271, 0)) (p2 := 36) rfl hm5.1.choose_spec.1 (by decide) hm5.1.choose_spec.2.2.2.2.2.2.2.2.1 rfl ?_
  refine q_load (v := (0, 0, 0)) (p2 := 37) rfl rfl rfl rfl ?_
  refine q_aldv (v := (6, 272, 0)) (p2 := 38) rfl (x_sc_271 hm5) (by omega) (by omega) rfl rfl ?_
  refine q_const (p2 := 39) rfl rfl ?_
  refine q_aldv (v := (0, 0, 0)) (p2 := 40) rfl (x_sc_272 hm5) (by omega) (by omega) rfl rfl ?_
  refine q_iop (w := 5 >>> (0 % 32)) (z := 5) (p2 := 41) rfl (xo_shr (show 5 < 2147483648 by decide) 0) (by decide) rfl ?_
  refine q_const (p2 := 42) rfl rfl ?_
  refine q_iop (w := 5 &&& 1) (z := 1) (p2 := 43) rfl (xo_and 5 1) (by decide) rfl ?_
  refine q_const (p2 := 44) rfl rfl ?_
  refine q_icmp_s (p2 := 45) rfl (by decide) (by omega) (by omega) rfl (fun hb => absurd hb (show ¬ (¬ (1 = 1)) by omega)) (fun _ => ?_)
  refine q_load (v := (0, 1, 0)) (p2 := 46) rfl rfl rfl rfl ?_
  refine q_if0_s (p2 := 47) rfl (by decide) (by omega) rfl (fun _ => ?_) (fun hb => absurd (show ¬ (1 = 0) by omega) hb)
  refine q_const (p2 := 51) rfl rfl ?_
  refine q_store (loc2 := [(6, 478, 0), (0, x, 0), (0, 2, 0), (0, 5, 0), (0, 0, 0), (0, 0, 0)]) (p2 := 52) rfl rfl rfl rfl rfl ?_
  refine q_load (v := (6, 478, 0)) (p2 := 53) rfl rfl rfl rfl ?_
  refine q_load (v := (6, 478, 0)) (p2 := 54) rfl rfl rfl rfl ?_
  refine q_getv (v := (6, 7, 0)) (p2 := 55) rfl (zD_478 hD2).choose_spec.1 (by decide) (zD_478 hD2).choose_spec.2 rfl ?_
  refine q_load (v := (0, x, 0)) (p2 := 56) rfl rfl rfl rfl ?_
  refine q_load (v := (0, 0, 0)) (p2 := 57) rfl rfl rfl rfl ?_
  refine q_callrB (xs := [(0, 0, 0), (0, x, 0), (6, 7, 0)]) (p2 := 58) rfl rfl rfl rfl (x_rcv_s 7 hm3.1.choose_spec.1) rfl (e_heldByM hm3 (by omega) (by omega) rfl) rfl (fun w6 φ6 n6 sl6 hn6 hN6 hs6 hT6 hR6 => ?_)
  obtain ⟨v6, hwv6, hV6, hphi6⟩ := hR6
  subst hwv6
  have frn6 : ∀ j, φ6 j = φ2 j := fun j => by rw [hphi6]
  refine x_n_lt (fun hlt7 => ?_)
  have hz8 := x_mv_lt hV6 hlt7
  have hy8 := hV6.1
  have hm9 := (x_PS_at hm3 (fun j hj hne => by have hj2 := x_some_lt hlt4 hne; exact (frn6 j)))
  have hm10 := (zq_nm_at hN ((frn6 239).trans ((frn2 239 (by omega) (by omega) (by omega)).trans (frn1 239 (by omega) (by omega) (by omega)))) ((frn6 242).trans ((frn2 242 (by omega) (by omega) (by omega)).trans (frn1 242 (by omega) (by omega) (by omega)))) ((frn6 244).trans ((frn2 244 (by omega) (by omega) (by omega)).trans (frn1 244 (by omega) (by omega) (by omega)))))
  have hm11 := (x_sch_at hm5 (fun j h1 h2 => (frn6 j)))
  have hm12 := (zD_at hD2 (fun j h1 h2 => (frn6 j)))
  refine q_callvE (xs := [(6, v6, 0), (6, 478, 0)]) (p2 := 59) rfl rfl rfl rfl (x_rcv_s 478 (zD_478 hm12).choose_spec.1) rfl (zc_held hm9 hm11 hm10 (by omega) hm12 hV6 hz0 (by omega)) (Nat.le_refl _) (Nat.le_refl _) rfl (fun φ13 hR13 => ?_)
  obtain ⟨hD13, frn13⟩ := hR13
  refine q_iinc (z := 1) (loc2 := [(6, 478, 0), (0, x, 0), (0, 2, 0), (0, 5, 0), (0, 0, 0), (0, 1, 0)]) (p2 := 60) rfl rfl (by decide) rfl rfl ?_
  refine q_goto rfl ?_
  refine q_load (v := (0, 1, 0)) (p2 := 18) rfl rfl rfl rfl ?_
  refine q_load (v := (6, 478, 0)) (p2 := 19) rfl rfl rfl rfl ?_
  refine q_getv (v := (6, 7, 0)) (p2 := 20) rfl (zD_478 hD13).choose_spec.1 (by decide) (zD_478 hD13).choose_spec.2 rfl ?_
  refine x_n_lt (fun hlt15 => ?_)
  have hm14 := (x_PS_at hm9 (fun j hj hne => by have hj2 := x_some_lt hlt7 hne; exact (frn13 j (by omega) (by omega) (by omega))))
  refine q_getv (v := (6, 237, 0)) (p2 := 21) rfl hm14.1.choose_spec.1 (by decide) hm14.1.choose_spec.2.1 rfl ?_
  have hm16 := (x_sch_at hm11 (fun j h1 h2 => (frn13 j (by omega) (by omega) (by omega))))
  refine q_getv (v := (6, 246, 0)) (p2 := 22) rfl hm16.1.choose_spec.1 (by decide) hm16.1.choose_spec.2.2.2.1 rfl ?_
  refine q_const (p2 := 23) rfl rfl ?_
  refine q_aldv (v := (0, 5, 0)) (p2 := 24) rfl (x_sc_246 hm16) (by omega) (by omega) rfl rfl ?_
  refine q_icmp_s (p2 := 25) rfl (by decide) (by omega) (by omega) rfl (fun hb => absurd hb (show ¬ (¬ (1 < 5)) by omega)) (fun _ => ?_)
  refine q_load (v := (6, 478, 0)) (p2 := 26) rfl rfl rfl rfl ?_
  refine q_getv (v := (6, 7, 0)) (p2 := 27) rfl (zD_478 hD13).choose_spec.1 (by decide) (zD_478 hD13).choose_spec.2 rfl ?_
  refine q_getv (v := (6, 237, 0)) (p2 := 28) rfl hm14.1.choose_spec.1 (by decide) hm14.1.choose_spec.2.1 rfl ?_
  refine q_load (v := (0, 1, 0)) (p2 := 29) rfl rfl rfl rfl ?_
  refine q_callK (xs := [(0, 1, 0), (6, 237, 0)]) (p2 := 30) rfl rfl rfl rfl (x_rcv_s 237 hm16.1.choose_spec.1) rfl rfl ?_
  refine x_f_of rfl ?_
  refine q_load (v := (0, 1, 0)) (p2 := 1) rfl rfl rfl rfl ?_
  refine q_if0_s (p2 := 2) rfl (by decide) (by omega) rfl (fun hb => absurd hb (show ¬ (1 < 0) by omega)) (fun _ => ?_)
  refine q_load (v := (0, 1, 0)) (p2 := 3) rfl rfl rfl rfl ?_
  refine q_load (v := (6, 237, 0)) (p2 := 4) rfl rfl rfl rfl ?_
  refine q_getv (v := (6, 246, 0)) (p2 := 5) rfl hm16.1.choose_spec.1 (by decide) hm16.1.choose_spec.2.2.2.1 rfl ?_
  refine q_const (p2 := 6) rfl rfl ?_
  refine q_aldv (v := (0, 5, 0)) (p2 := 7) rfl (x_sc_246 hm16) (by omega) (by omega) rfl rfl ?_
  refine q_icmp_s (p2 := 8) rfl (by decide) (by omega) (by omega) rfl (fun hb => absurd hb (show ¬ (¬ (1 < 5)) by omega)) (fun _ => ?_)
  refine q_load (v := (6, 237, 0)) (p2 := 9) rfl rfl rfl rfl ?_
  refine q_getv (v := (6, 271, 0)) (p2 := 10) rfl hm16.1.choose_spec.1 (by decide) hm16.1.choose_spec.2.2.2.2.2.2.2.2.1 rfl ?_
  refine q_load (v := (0, 1, 0)) (p2 := 11) rfl rfl rfl rfl ?_
  refine q_aldv (v := (6, 273, 0)) (p2 := 12) rfl (x_sc_271 hm16) (by omega) (by omega) rfl rfl ?_
  refine q_const (p2 := 13) rfl rfl ?_
  refine q_aldv (v := (0, 0, 0)) (p2 := 14) rfl (x_sc_273 hm16) (by omega) (by omega) rfl rfl ?_
  refine q_if0_s (p2 := 15) rfl (by decide) (by omega) rfl (fun hb => absurd hb (show ¬ (¬ (0 = 0)) by omega)) (fun _ => ?_)
  refine q_const (p2 := 16) rfl rfl ?_
  refine q_goto rfl ?_
  refine q_retv (v := (0, 1, 0)) rfl rfl ⟨rfl, by omega, by omega, ?_⟩
  refine q_if0_s (p2 := 31) rfl (by decide) (by omega) rfl (fun hb => absurd hb (show ¬ (1 = 0) by omega)) (fun _ => ?_)
  refine q_load (v := (0, 5, 0)) (p2 := 32) rfl rfl rfl rfl ?_
  refine q_load (v := (6, 478, 0)) (p2 := 33) rfl rfl rfl rfl ?_
  refine q_getv (v := (6, 7, 0)) (p2 := 34) rfl (zD_478 hD13).choose_spec.1 (by decide) (zD_478 hD13).choose_spec.2 rfl ?_
  refine q_getv (v := (6, 237, 0)) (p2 := 35) rfl hm14.1.choose_spec.1 (by decide) hm14.1.choose_spec.2.1 rfl ?_
  refine q_getv (v := (6, 271, 0)) (p2 := 36) rfl hm16.1.choose_spec.1 (by decide) hm16.1.choose_spec.2.2.2.2.2.2.2.2.1 rfl ?_
  refine q_load (v := (0, 1, 0)) (p2 := 37) rfl rfl rfl rfl ?_
  refine q_aldv (v := (6, 273, 0)) (p2 := 38) rfl (x_sc_271 hm16) (by omega) (by omega) rfl rfl ?_
  refine q_const (p2 := 39) rfl rfl ?_
  refine q_aldv (v := (0, 0, 0)) (p2 := 40) rfl (x_sc_273 hm16) (by omega) (by omega) rfl rfl ?_
  refine q_iop (w := 5 >>> (0 % 32)) (z := 5) (p2 := 41) rfl (xo_shr (show 5 < 2147483648 by decide) 0) (by decide) rfl ?_
  refine q_const (p2 := 42) rfl rfl ?_
  refine q_iop (w := 5 &&& 1) (z := 1) (p2 := 43) rfl (xo_and 5 1) (by decide) rfl ?_
  refine q_const (p2 := 44) rfl rfl ?_
  refine q_icmp_s (p2 := 45) rfl (by decide) (by omega) (by omega) rfl (fun hb => absurd hb (show ¬ (¬ (1 = 1)) by omega)) (fun _ => ?_)
  refine q_load (v := (0, 0, 0)) (p2 := 46) rfl rfl rfl rfl ?_
  refine q_if0_s (p2 := 47) rfl (by decide) (by omega) rfl (fun hb => absurd hb (show ¬ (¬ (0 = 0)) by omega)) (fun _ => ?_)
  refine q_load (v := (6, 478, 0)) (p2 := 48) rfl rfl rfl rfl ?_
  refine q_const (p2 := 49) rfl rfl ?_
  refine q_callvE (xs := [(0, 44, 0), (6, 478, 0)]) (p2 := 50) rfl rfl rfl rfl (x_rcv_s 478 (zD_478 hD13).choose_spec.1) rfl (zc_addD hD13 (by omega) (by omega)) (Nat.le_refl _) (Nat.le_refl _) rfl (fun φ17 hR17 => ?_)
  obtain ⟨hD17, frn17⟩ := hR17
  refine q_const (p2 := 51) rfl rfl ?_
  refine q_store (loc2 := [(6, 478, 0), (0, x, 0), (0, 2, 0), (0, 5, 0), (0, 0, 0), (0, 1, 0)]) (p2 := 52) rfl rfl rfl rfl rfl ?_
  refine q_load (v := (6, 478, 0)) (p2 := 53) rfl rfl rfl rfl ?_
  refine q_load (v := (6, 478, 0)) (p2 := 54) rfl rfl rfl rfl ?_
  refine q_getv (v := (6, 7, 0)) (p2 := 55) rfl (zD_478 hD17).choose_spec.1 (by decide) (zD_478 hD17).choose_spec.2 rfl ?_
  refine q_load (v := (0, x, 0)) (p2 := 56) rfl rfl rfl rfl ?_
  refine q_load (v := (0, 1, 0)) (p2 := 57) rfl rfl rfl rfl ?_
  refine x_n_lt (fun hlt19 => ?_)
  have hm18 := (x_PS_at hm14 (fun j hj hne => by have hj2 := x_some_lt hlt15 hne; exact (frn17 j (by omega) (by omega) (by omega))))
  refine q_callrB (xs := [(0, 1, 0), (0, x, 0), (6, 7, 0)]) (p2 := 58) rfl rfl rfl rfl (x_rcv_s 7 hm18.1.choose_spec.1) rfl (e_heldByM hm18 (by omega) (by omega) rfl) rfl (fun w20 φ20 n20 sl20 hn20 hN20 hs20 hT20 hR20 => ?_)
  obtain ⟨v20, hwv20, hV20, hphi20⟩ := hR20
  subst hwv20
  have frn20 : ∀ j, φ20 j = φ17 j := fun j => by rw [hphi20]
  refine x_n_lt (fun hlt21 => ?_)
  have hz22 := x_mv_lt hV20 hlt21
  have hy22 := hV20.1
  have hm23 := (x_PS_at hm18 (fun j hj hne => by have hj2 := x_some_lt hlt19 hne; exact (frn20 j)))
  have hm24 := (zq_nm_at hm10 ((frn20 239).trans ((frn17 239 (by omega) (by omega) (by omega)).trans (frn13 239 (by omega) (by omega) (by omega)))) ((frn20 242).trans ((frn17 242 (by omega) (by omega) (by omega)).trans (frn13 242 (by omega) (by omega) (by omega)))) ((frn20 244).trans ((frn17 244 (by omega) (by omega) (by omega)).trans (frn13 244 (by omega) (by omega) (by omega)))))
  have hm25 := (x_sch_at hm16 (fun j h1 h2 => ((frn20 j).trans (frn17 j (by omega) (by omega) (by omega)))))
  have hm26 := (zD_at hD17 (fun j h1 h2 => (frn20 j)))
  refine q_callvE (xs := [(6, v20, 0), (6, 478, 0)]) (p2 := 59) rfl rfl rfl rfl (x_rcv_s 478 (zD_478 hm26).choose_spec.1) rfl (zc_held hm23 hm25 hm24 (by omega) hm26 hV20 hz1 (by omega)) (Nat.le_refl _) (Nat.le_refl _) rfl (fun φ27 hR27 => ?_)
  obtain ⟨hD27, frn27⟩ := hR27
  refine q_iinc (z := 2) (loc2 := [(6, 478, 0), (0, x, 0), (0, 2, 0), (0, 5, 0), (0, 0, 0), (0, 2, 0)]) (p2 := 60) rfl rfl (by decide) rfl rfl ?_
  refine q_goto rfl ?_
  refine q_load (v := (0, 2, 0)) (p2 := 18) rfl rfl rfl rfl ?_
  refine q_load (v := (6, 478, 0)) (p2 := 19) rfl rfl rfl rfl ?_
  refine q_getv (v := (6, 7, 0)) (p2 := 20) rfl (zD_478 hD27).choose_spec.1 (by decide) (zD_478 hD27).choose_spec.2 rfl ?_
  refine x_n_lt (fun hlt29 => ?_)
  have hm28 := (x_PS_at hm23 (fun j hj hne => by have hj2 := x_some_lt hlt21 hne; exact (frn27 j (by omega) (by omega) (by omega))))
  refine q_getv (v := (6, 237, 0)) (p2 := 21) rfl hm28.1.choose_spec.1 (by decide) hm28.1.choose_spec.2.1 rfl ?_
  have hm30 := (x_sch_at hm25 (fun j h1 h2 => (frn27 j (by omega) (by omega) (by omega))))
  refine q_getv (v := (6, 246, 0)) (p2 := 22) rfl hm30.1.choose_spec.1 (by decide) hm30.1.choose_spec.2.2.2.1 rfl ?_
  refine q_const (p2 := 23) rfl rfl ?_
  refine q_aldv (v := (0, 5, 0)) (p2 := 24) rfl (x_sc_246 hm30) (by omega) (by omega) rfl rfl ?_
  refine q_icmp_s (p2 := 25) rfl (by decide) (by omega) (by omega) rfl (fun hb => absurd hb (show ¬ (¬ (2 < 5)) by omega)) (fun _ => ?_)
  refine q_load (v := (6, 478, 0)) (p2 := 26) rfl rfl rfl rfl ?_
  refine q_getv (v := (6, 7, 0)) (p2 := 27) rfl (zD_478 hD27).choose_spec.1 (by decide) (zD_478 hD27).choose_spec.2 rfl ?_
  refine q_getv (v := (6, 237, 0)) (p2 := 28) rfl hm28.1.choose_spec.1 (by decide) hm28.1.choose_spec.2.1 rfl ?_
  refine q_load (v := (0, 2, 0)) (p2 := 29) rfl rfl rfl rfl ?_
  refine q_callK (xs := [(0, 2, 0), (6, 237, 0)]) (p2 := 30) rfl rfl rfl rfl (x_rcv_s 237 hm30.1.choose_spec.1) rfl rfl ?_
  refine x_f_of rfl ?_
  refine q_load (v := (0, 2, 0)) (p2 := 1) rfl rfl rfl rfl ?_
  refine q_if0_s (p2 := 2) rfl (by decide) (by omega) rfl (fun hb => absurd hb (show ¬ (2 < 0) by omega)) (fun _ => ?_)
  refine q_load (v := (0, 2, 0)) (p2 := 3) rfl rfl rfl rfl ?_
  refine q_load (v := (6, 237, 0)) (p2 := 4) rfl rfl rfl rfl ?_
  refine q_getv (v := (6, 246, 0)) (p2 := 5) rfl hm30.1.choose_spec.1 (by decide) hm30.1.choose_spec.2.2.2.1 rfl ?_
  refine q_const (p2 := 6) rfl rfl ?_
  refine q_aldv (v := (0, 5, 0)) (p2 := 7) rfl (x_sc_246 hm30) (by omega) (by omega) rfl rfl ?_
  refine q_icmp_s (p2 := 8) rfl (by decide) (by omega) (by omega) rfl (fun hb => absurd hb (show ¬ (¬ (2 < 5)) by omega)) (fun _ => ?_)
  refine q_load (v := (6, 237, 0)) (p2 := 9) rfl rfl rfl rfl ?_
  refine q_getv (v := (6, 271, 0)) (p2 := 10) rfl hm30.1.choose_spec.1 (by decide) hm30.1.choose_spec.2.2.2.2.2.2.2.2.1 rfl ?_
  refine q_load (v := (0, 2, 0)) (p2 := 11) rfl rfl rfl rfl ?_
  refine q_aldv (v := (6, 274, 0)) (p2 := 12) rfl (x_sc_271 hm30) (by omega) (by omega) rfl rfl ?_
  refine q_const (p2 := 13) rfl rfl ?_
  refine q_aldv (v := (0, 1, 0)) (p2 := 14) rfl (x_sc_274 hm30) (by omega) (by omega) rfl rfl ?_
  refine q_if0_s (p2 := 15) rfl (by decide) (by omega) rfl (fun _ => ?_) (fun hb => absurd (show ¬ (1 = 0) by omega) hb)
  refine q_const (p2 := 18) rfl rfl ?_
  refine q_retv (v := (0, 0, 0)) rfl rfl ⟨rfl, by omega, by omega, ?_⟩
  refine q_if0_s (p2 := 31) rfl (by decide) (by omega) rfl (fun _ => ?_) (fun hb => absurd (show 0 = 0 by omega) hb)
  refine q_iinc (z := 3) (loc2 := [(6, 478, 0), (0, x, 0), (0, 2, 0), (0, 5, 0), (0, 0, 0), (0, 3, 0)]) (p2 := 60) rfl rfl (by decide) rfl rfl ?_
  refine q_goto rfl ?_
  refine q_load (v := (0, 3, 0)) (p2 := 18) rfl rfl rfl rfl ?_
  refine q_load (v := (6, 478, 0)) (p2 := 19) rfl rfl rfl rfl ?_
  refine q_getv (v := (6, 7, 0)) (p2 := 20) rfl (zD_478 hD27).choose_spec.1 (by decide) (zD_478 hD27).choose_spec.2 rfl ?_
  refine q_getv (v := (6, 237, 0)) (p2 := 21) rfl hm28.1.choose_spec.1 (by decide) hm28.1.choose_spec.2.1 rfl ?_
  refine q_getv (v := (6, 246, 0)) (p2 := 22) rfl hm30.1.choose_spec.1 (by decide) hm30.1.choose_spec.2.2.2.1 rfl ?_
  refine q_const (p2 := 23) rfl rfl ?_
  refine q_aldv (v := (0, 5, 0)) (p2 := 24) rfl (x_sc_246 hm30) (by omega) (by omega) rfl rfl ?_
  refine q_icmp_s (p2 := 25) rfl (by decide) (by omega) (by omega) rfl (fun hb => absurd hb (show ¬ (¬ (3 < 5)) by omega)) (fun _ => ?_)
  refine q_load (v := (6, 478, 0)) (p2 := 26) rfl rfl rfl rfl ?_
  refine q_getv (v := (6, 7, 0)) (p2 := 27) rfl (zD_478 hD27).choose_spec.1 (by decide) (zD_478 hD27).choose_spec.2 rfl ?_
  refine q_getv (v := (6, 237, 0)) (p2 := 28) rfl hm28.1.choose_spec.1 (by decide) hm28.1.choose_spec.2.1 rfl ?_
  refine q_load (v := (0, 3, 0)) (p2 := 29) rfl rfl rfl rfl ?_
  refine q_callK (xs := [(0, 3, 0), (6, 237, 0)]) (p2 := 30) rfl rfl rfl rfl (x_rcv_s 237 hm30.1.choose_spec.1) rfl rfl ?_
  refine x_f_of rfl ?_
  refine q_load (v := (0, 3, 0)) (p2 := 1) rfl rfl rfl rfl ?_
  refine q_if0_s (p2 := 2) rfl (by decide) (by omega) rfl (fun hb => absurd hb (show ¬ (3 < 0) by omega)) (fun _ => ?_)
  refine q_load (v := (0, 3, 0)) (p2 := 3) rfl rfl rfl rfl ?_
  refine q_load (v := (6, 237, 0)) (p2 := 4) rfl rfl rfl rfl ?_
  refine q_getv (v := (6, 246, 0)) (p2 := 5) rfl hm30.1.choose_spec.1 (by decide) hm30.1.choose_spec.2.2.2.1 rfl ?_
  refine q_const (p2 := 6) rfl rfl ?_
  refine q_aldv (v := (0, 5, 0)) (p2 := 7) rfl (x_sc_246 hm30) (by omega) (by omega) rfl rfl ?_
  refine q_icmp_s (p2 := 8) rfl (by decide) (by omega) (by omega) rfl (fun hb => absurd hb (show ¬ (¬ (3 < 5)) by omega)) (fun _ => ?_)
  refine q_load (v := (6, 237, 0)) (p2 := 9) rfl rfl rfl rfl ?_
  refine q_getv (v := (6, 271, 0)) (p2 := 10) rfl hm30.1.choose_spec.1 (by decide) hm30.1.choose_spec.2.2.2.2.2.2.2.2.1 rfl ?_
  refine q_load (v := (0, 3, 0)) (p2 := 11) rfl rfl rfl rfl ?_
  refine q_aldv (v := (6, 275, 0)) (p2 := 12) rfl (x_sc_271 hm30) (by omega) (by omega) rfl rfl ?_
  refine q_const (p2 := 13) rfl rfl ?_
  refine q_aldv (v := (0, 0, 0)) (p2 := 14) rfl (x_sc_275 hm30) (by omega) (by omega) rfl rfl ?_
  refine q_if0_s (p2 := 15) rfl (by decide) (by omega) rfl (fun hb => absurd hb (show ¬ (¬ (0 = 0)) by omega)) (fun _ => ?_)
  refine q_const (p2 := 16) rfl rfl ?_
  refine q_goto rfl ?_
  refine q_retv (v := (0, 1, 0)) rfl rfl ⟨rfl, by omega, by omega, ?_⟩
  refine q_if0_s (p2 := 31) rfl (by decide) (by omega) rfl (fun hb => absurd hb (show ¬ (1 = 0) by omega)) (fun _ => ?_)
  refine q_load (v := (0, 5, 0)) (p2 := 32) rfl rfl rfl rfl ?_
  refine q_load (v := (6, 478, 0)) (p2 := 33) rfl rfl rfl rfl ?_
  refine q_getv (v := (6, 7, 0)) (p2 := 34) rfl (zD_478 hD27).choose_spec.1 (by decide) (zD_478 hD27).choose_spec.2 rfl ?_
  refine q_getv (v := (6, 237, 0)) (p2 := 35) rfl hm28.1.choose_spec.1 (by decide) hm28.1.choose_spec.2.1 rfl ?_
  refine q_getv (v := (6, 271, 0)) (p2 := 36) rfl hm30.1.choose_spec.1 (by decide) hm30.1.choose_spec.2.2.2.2.2.2.2.2.1 rfl ?_
  refine q_load (v := (0, 3, 0)) (p2 := 37) rfl rfl rfl rfl ?_
  refine q_aldv (v := (6, 275, 0)) (p2 := 38) rfl (x_sc_271 hm30) (by omega) (by omega) rfl rfl ?_
  refine q_const (p2 := 39) rfl rfl ?_
  refine q_aldv (v := (0, 1, 0)) (p2 := 40) rfl (x_sc_275 hm30) (by omega) (by omega) rfl rfl ?_
  refine q_iop (w := 5 >>> (1 % 32)) (z := 2) (p2 := 41) rfl (xo_shr (show 5 < 2147483648 by decide) 1) (by decide) rfl ?_
  refine q_const (p2 := 42) rfl rfl ?_
  refine q_iop (w := 2 &&& 1) (z := 0) (p2 := 43) rfl (xo_and 2 1) (by decide) rfl ?_
  refine q_const (p2 := 44) rfl rfl ?_
  refine q_icmp_s (p2 := 45) rfl (by decide) (by omega) (by omega) rfl (fun _ => ?_) (fun hb => absurd (show ¬ (0 = 1) by omega) hb)
  refine q_iinc (z := 4) (loc2 := [(6, 478, 0), (0, x, 0), (0, 2, 0), (0, 5, 0), (0, 0, 0), (0, 4, 0)]) (p2 := 60) rfl rfl (by decide) rfl rfl ?_
  refine q_goto rfl ?_
  refine q_load (v := (0, 4, 0)) (p2 := 18) rfl rfl rfl rfl ?_
  refine q_load (v := (6, 478, 0)) (p2 := 19) rfl rfl rfl rfl ?_
  refine q_getv (v := (6, 7, 0)) (p2 := 20) rfl (zD_478 hD27).choose_spec.1 (by decide) (zD_478 hD27).choose_spec.2 rfl ?_
  refine q_getv (v := (6, 237, 0)) (p2 := 21) rfl hm28.1.choose_spec.1 (by decide) hm28.1.choose_spec.2.1 rfl ?_
  refine q_getv (v := (6, 246, 0)) (p2 := 22) rfl hm30.1.choose_spec.1 (by decide) hm30.1.choose_spec.2.2.2.1 rfl ?_
  refine q_const (p2 := 23) rfl rfl ?_
  refine q_aldv (v := (0, 5, 0)) (p2 := 24) rfl (x_sc_246 hm30) (by omega) (by omega) rfl rfl ?_
  refine q_icmp_s (p2 := 25) rfl (by decide) (by omega) (by omega) rfl (fun hb => absurd hb (show ¬ (¬ (4 < 5)) by omega)) (fun _ => ?_)
  refine q_load (v := (6, 478, 0)) (p2 := 26) rfl rfl rfl rfl ?_
  refine q_getv (v := (6, 7, 0)) (p2 := 27) rfl (zD_478 hD27).choose_spec.1 (by decide) (zD_478 hD27).choose_spec.2 rfl ?_
  refine q_getv (v := (6, 237, 0)) (p2 := 28) rfl hm28.1.choose_spec.1 (by decide) hm28.1.choose_spec.2.1 rfl ?_
  refine q_load (v := (0, 4, 0)) (p2 := 29) rfl rfl rfl rfl ?_
  refine q_callK (xs := [(0, 4, 0), (6, 237, 0)]) (p2 := 30) rfl rfl rfl rfl (x_rcv_s 237 hm30.1.choose_spec.1) rfl rfl ?_
  refine x_f_of rfl ?_
  refine q_load (v := (0, 4, 0)) (p2 := 1) rfl rfl rfl rfl ?_
  refine q_if0_s (p2 := 2) rfl (by decide) (by omega) rfl (fun hb => absurd hb (show ¬ (4 < 0) by omega)) (fun _ => ?_)
  refine q_load (v := (0, 4, 0)) (p2 := 3) rfl rfl rfl rfl ?_
  refine q_load (v := (6, 237, 0)) (p2 := 4) rfl rfl rfl rfl ?_
  refine q_getv (v := (6, 246, 0)) (p2 := 5) rfl hm30.1.choose_spec.1 (by decide) hm30.1.choose_spec.2.2.2.1 rfl ?_
  refine q_const (p2 := 6) rfl rfl ?_
  refine q_aldv (v := (0, 5, 0)) (p2 := 7) rfl (x_sc_246 hm30) (by omega) (by omega) rfl rfl ?_
  refine q_icmp_s (p2 := 8) rfl (by decide) (by omega) (by omega) rfl (fun hb => absurd hb (show ¬ (¬ (4 < 5)) by omega)) (fun _ => ?_)
  refine q_load (v := (6, 237, 0)) (p2 := 9) rfl rfl rfl rfl ?_
  refine q_getv (v := (6, 271, 0)) (p2 := 10) rfl hm30.1.choose_spec.1 (by decide) hm30.1.choose_spec.2.2.2.2.2.2.2.2.1 rfl ?_
  refine q_load (v := (0, 4, 0)) (p2 := 11) rfl rfl rfl rfl ?_
  refine q_aldv (v := (6, 276, 0)) (p2 := 12) rfl (x_sc_271 hm30) (by omega) (by omega) rfl rfl ?_
  refine q_const (p2 := 13) rfl rfl ?_
  refine q_aldv (v := (0, 2, 0)) (p2 := 14) rfl (x_sc_276 hm30) (by omega) (by omega) rfl rfl ?_
  refine q_if0_s (p2 := 15) rfl (by decide) (by omega) rfl (fun _ => ?_) (fun hb => absurd (show ¬ (2 = 0) by omega) hb)
  refine q_const (p2 := 18) rfl rfl ?_
  refine q_retv (v := (0, 0, 0)) rfl rfl ⟨rfl, by omega, by omega, ?_⟩
  refine q_if0_s (p2 := 31) rfl (by decide) (by omega) rfl (fun _ => ?_) (fun hb => absurd (show 0 = 0 by omega) hb)
  refine q_iinc (z := 5) (loc2 := [(6, 478, 0), (0, x, 0), (0, 2, 0), (0, 5, 0), (0, 0, 0), (0, 5, 0)]) (p2 := 60) rfl rfl (by decide) rfl rfl ?_
  refine q_goto rfl ?_
  refine q_load (v := (0, 5, 0)) (p2 := 18) rfl rfl rfl rfl ?_
  refine q_load (v := (6, 478, 0)) (p2 := 19) rfl rfl rfl rfl ?_
  refine q_getv (v := (6, 7, 0)) (p2 := 20) rfl (zD_478 hD27).choose_spec.1 (by decide) (zD_478 hD27).choose_spec.2 rfl ?_
  refine q_getv (v := (6, 237, 0)) (p2 := 21) rfl hm28.1.choose_spec.1 (by decide) hm28.1.choose_spec.2.1 rfl ?_
  refine q_getv (v := (6, 246, 0)) (p2 := 22) rfl hm30.1.choose_spec.1 (by decide) hm30.1.choose_spec.2.2.2.1 rfl ?_
  refine q_const (p2 := 23) rfl rfl ?_
  refine q_aldv (v := (0, 5, 0)) (p2 := 24) rfl (x_sc_246 hm30) (by omega) (by omega) rfl rfl ?_
  refine q_icmp_s (p2 := 25) rfl (by decide) (by omega) (by omega) rfl (fun _ => ?_) (fun hb => absurd (show ¬ (5 < 5) by omega) hb)
  refine q_load (v := (6, 478, 0)) (p2 := 62) rfl rfl rfl rfl ?_
  refine q_const (p2 := 63) rfl rfl ?_
  refine q_callvE (xs := [(0, 41, 0), (6, 478, 0)]) (p2 := 64) rfl rfl rfl rfl (x_rcv_s 478 (zD_478 hD27).choose_spec.1) rfl (zc_addD hD27 (by omega) (by omega)) (Nat.le_refl _) (Nat.le_refl _) rfl (fun φ31 hR31 => ?_)
  obtain ⟨hD31, frn31⟩ := hR31
  exact q_ret rfl (⟨rfl, by omega, by omega, hD31, fun j hj0 hj1 hj2 => ((frn31 j (by omega) (by omega) (by omega)).trans ((frn27 j (by omega) (by omega) (by omega)).trans ((frn20 j).trans ((frn17 j (by omega) (by omega) (by omega)).trans ((frn13 j (by omega) (by omega) (by omega)).trans ((frn6 j).trans ((frn2 j (by omega) (by omega) (by omega)).trans (frn1 j (by omega) (by omega) (by omega)))))))))⟩)
theorem zc_inst_5 {d n sl : Nat} {φ : FH} {A : Nat} {B : Nat} {made : Nat} {sv : Nat} {svm : Nat} {s9 : Nat} {comb : Nat → Nat} {hm : Nat → MV} {sz b x : Nat} {bw : Nat → Nat} {L : List Nat} (hPS : x_PS φ A B made sv svm s9 comb hm) (hS : x_sch φ) (hN : zq_nm φ) (hn0 : 486 ≤ n) (hD : zD φ sz bw L b) (hx : x < 40) (hz0 : zHM (hm (x * 40))) (hz1 : zHM (hm (x * 40 + 1))) (hz3 : zHM (hm (x * 40 + 3))) (hb : b < 5600) : x_f x_P (d + 9) 74 [(6, 478, 0), (0, x, 0), (0, 5, 0), (11, 0, 0), (11, 0, 0)] φ n sl (x_vR n sl (fun φ2 => zD φ2 sz bw ((((((((((L ++ [35]) ++ xdec x) ++ [61]) ++ [99]) ++ [40]) ++ zhb (hm (x * 40))) ++ [44]) ++ zhb (hm (x * 40 + 1))) ++ [41]) ++ [59]) (b + 51) ∧ ∀ j, j ≠ 478 → j ≠ 479 → j ≠ 480 → φ2 j = φ j)) := by
  refine x_f_of rfl ?_
  refine x_n_lt (fun hlt0 => ?_)
  refine q_load (v := (6, 478, 0)) (p2 := 1) rfl rfl rfl rfl ?_
  refine q_const (p2 := 2) rfl rfl ?_
  refine q_callvE (xs := [(0, 35, 0), (6, 478, 0)]) (p2 := 3) rfl rfl rfl rfl (x_rcv_s 478 (zD_478 hD).choose_spec.1) rfl (zc_addD hD (by omega) (by omega)) (Nat.le_refl _) (Nat.le_refl _) rfl (fun φ1 hR1 => ?_)
  obtain ⟨hD1, frn1⟩ := hR1
  refine q_load (v := (6, 478, 0)) (p2 := 4) rfl rfl rfl rfl ?_
  refine q_load (v := (0, x, 0)) (p2 := 5) rfl rfl rfl rfl ?_
  refine q_i2l (p2 := 6) rfl (by omega) rfl ?_
  refine q_callvE (xs := [(2, x, 0), (6, 478, 0)]) (p2 := 7) rfl rfl rfl rfl (x_rcv_s 478 (zD_478 hD1).choose_spec.1) rfl (zc_wnum hD1 (by omega) (by omega)) (Nat.le_refl _) (Nat.le_refl _) rfl (fun φ2 hR2 => ?_)
  obtain ⟨hD2, frn2⟩ := hR2
  refine q_load (v := (6, 478, 0)) (p2 := 8) rfl rfl rfl rfl ?_
  refine q_const (p2 := 9) rfl rfl ?_
  refine q_callvE (xs := [(0, 61, 0), (6, 478, 0)]) (p2 := 10) rfl rfl rfl rfl (x_rcv_s 478 (zD_478 hD2).choose_spec.1) rfl (zc_addD hD2 (by omega) (by omega)) (Nat.le_refl _) (Nat.le_refl _) rfl (fun φ3 hR3 => ?_)
  obtain ⟨hD3, frn3⟩ := hR3
  refine q_const (p2 := 11) rfl rfl ?_
  refine q_store (loc2 := [(6, 478, 0), (0, x, 0), (0, 5, 0), (0, 4294967293, 0), (11, 0, 0)]) (p2 := 12) rfl rfl rfl rfl rfl ?_
  refine q_const (p2 := 13) rfl rfl ?_
  refine q_store (loc2 := [(6, 478, 0), (0, x, 0), (0, 5, 0), (0, 4294967293, 0), (0, 0, 0)]) (p2 := 14) rfl rfl rfl rfl rfl ?_
  refine q_load (v := (0, 0, 0)) (p2 := 15) rfl rfl rfl rfl ?_
  refine q_load (v := (6, 478, 0)) (p2 := 16) rfl rfl rfl rfl ?_
  refine q_getv (v := (6, 7, 0)) (p2 := 17) rfl (zD_478 hD3).choose_spec.1 (by decide) (zD_478 hD3).choose_spec.2 rfl ?_
  refine x_n_lt (fun hlt5 => ?_)
  have hm4 := (x_PS_at hPS (fun j hj hne => by have hj2 := x_some_lt hlt0 hne; exact ((frn3 j (by omega) (by omega) (by omega)).trans ((frn2 j (by omega) (by omega) (by omega)).trans (frn1 j (by omega) (by omega) (by omega))))))
  refine q_getv (v := (6, 237, 0)) (p2 := 18) rfl hm4.1.choose_spec.1 (by decide) hm4.1.choose_spec.2.1 rfl ?_
  have hm6 := (x_sch_at hS (fun j h1 h2 => ((frn3 j (by omega) (by omega) (by omega)).trans ((frn2 j (by omega) (by omega) (by omega)).trans (frn1 j (by omega) (by omega) (by omega))))))
  refine q_getv (v := (6, 246, 0)) (p2 := 19) rfl hm6.1.choose_spec.1 (by decide) hm6.1.choose_spec.2.2.2.1 rfl ?_
  refine q_const (p2 := 20) rfl rfl ?_
  refine q_aldv (v := (0, 3, 0)) (p2 := 21) rfl (x_sc_246 hm6) (by omega) (by omega) rfl rfl ?_
  refine q_icmp_s (p2 := 22) rfl (by decide) (by omega) (by omega) rfl (fun hb => absurd hb (show ¬ (¬ (0 < 3)) by omega)) (fun _ => ?_)
  refine q_load (v := (6, 478, 0)) (p2 := 23) rfl rfl rfl rfl ?_
  refine q_getv (v := (6, 7, 0)) (p2 := 24) rfl (zD_478 hD3).choose_spec.1 (by decide) (zD_478 hD3).choose_spec.2 rfl ?_
  refine q_getv (v := (6, 237, 0)) (p2 := 25) rfl hm4.1.choose_spec.1 (by decide) hm4.1.choose_spec.2.1 rfl ?_
  refine q_getv (v := (6, 257, 0)) (p2 := 26) rfl hm6.1.choose_spec.1 (by decide) hm6.1.choose_spec.2.2.2.2.2.2.1 rfl ?_
  refine q_load (v := (0, 0, 0)) (p2 := 27) rfl rfl rfl rfl ?_
  refine q_aldv (v := (6, 258, 0)) (p2 := 28) rfl (x_sc_257 hm6) (by omega) (by omega) rfl rfl ?_
  refine q_const (p2 := 29) rfl rfl ?_
  refine q_aldv (v := (0, 0, 0)) (p2 := 30) rfl (x_sc_258 hm6) (by omega) (by omega) rfl rfl ?_
  refine q_const (p2 := 31) rfl rfl ?_
  refine q_load (v := (0, 0, 0)) (p2 := 32) rfl rfl rfl rfl ?_
  refine q_iop (w := 1 <<< (0 % 32)) (z := 1) (p2 := 33) rfl (xo_shl 1 0) (by decide) rfl ?_
  refine q_iop (w := 0 ||| 1) (z := 1) (p2 := 34) rfl (xo_or 0 1) (by decide) rfl ?_
  refine q_load (v := (0, 5, 0)) (p2 := 35) rfl rfl rfl rfl ?_
  refine q_icmp_s (p2 := 36) rfl (by decide) (by omega) (by omega) rfl (fun _ => ?_) (fun hb => absurd (show ¬ (1 = 5) by omega) hb)
  refine q_iinc (z := 1) (loc2 := [(6, 478, 0), (0, x, 0), (0, 5, 0), (0, 4294967293, 0), (0, 1, 0)]) (p2 := 39) rfl rfl (by decide) rfl rfl ?_
  refine q_goto rfl ?_
  refine q_load (v := (0, 1, 0)) (p2 := 15) rfl rfl rfl rfl ?_
  refine q_load (v := (6, 478, 0)) (p2 := 16) rfl rfl rfl rfl ?_
  refine q_getv (v := (6, 7, 0)) (p2 := 17) rfl (zD_478 hD3).choose_spec.1 (by decide) (zD_478 hD3).choose_spec.2 rfl ?_
  refine q_getv (v := (6, 237, 0)) (p2 := 18) rfl hm4.1.choose_spec.1 (by decide) hm4.1.choose_spec.2.1 rfl ?_
  refine q_getv (v := (6, 246, 0)) (p2 := 19) rfl hm6.1.choose_spec.1 (by decide) hm6.1.choose_spec.2.2.2.1 rfl ?_
  refine q_const (p2 := 20) rfl rfl ?_
  refine q_aldv (v := (0, 3, 0)) (p2 := 21) rfl (x_sc_246 hm6) (by omega) (by omega) rfl rfl ?_
  refine q_icmp_s (p2 := 22) rfl (by decide) (by omega) (by omega) rfl (fun hb => absurd hb (show ¬ (¬ (1 < 3)) by omega)) (fun _ => ?_)
  refine q_load (v := (6, 478, 0)) (p2 := 23) rfl rfl rfl rfl ?_
  refine q_getv (v := (6, 7, 0)) (p2 := 24) rfl (zD_478 hD3).choose_spec.1 (by decide) (zD_478 hD3).choose_spec.2 rfl ?_
  refine q_getv (v := (6, 237, 0)) (p2 := 25) rfl hm4.1.choose_spec.1 (by decide) hm4.1.choose_spec.2.1 rfl ?_
  refine q_getv (v := (6, 257, 0)) (p2 := 26) rfl hm6.1.choose_spec.1 (by decide) hm6.1.choose_spec.2.2.2.2.2.2.1 rfl ?_
  refine q_load (v := (0, 1, 0)) (p2 := 27) rfl rfl rfl rfl ?_
  refine q_aldv (v := (6, 259, 0)) (p2 := 28) rfl (x_sc_257 hm6) (by omega) (by omega) rfl rfl ?_
  refine q_const (p2 := 29) rfl rfl ?_
  refine q_aldv (v := (0, 1, 0)) (p2 := 30) rfl (x_sc_259 hm6) (by omega) (by omega) rfl rfl ?_
  refine q_const (p2 := 31) rfl rfl ?_
  refine q_load (v := (0, 1, 0)) (p2 := 32) rfl rfl rfl rfl ?_
  refine q_iop (w := 1 <<< (1 % 32)) (z := 2) (p2 := 33) rfl (xo_shl 1 1) (by decide) rfl ?_
  refine q_iop (w := 1 ||| 2) (z := 3) (p2 := 34) rfl (xo_or 1 2) (by decide) rfl ?_
  refine q_load (v := (0, 5, 0)) (p2 := 35) rfl rfl rfl rfl ?_
  refine q_icmp_s (p2 := 36) rfl (by decide) (by omega) (by omega) rfl (fun _ => ?_) (fun hb => absurd (show ¬ (3 = 5) by omega) hb)
  refine q_iinc (z := 2) (loc2 := [(6, 478, 0), (0, x, 0), (0, 5, 0), (0, 4294967293, 0), (0, 2, 0)]) (p2 := 39) rfl rfl (by decide) rfl rfl ?_
  refine q_goto rfl ?_
  refine q_load (v := (0, 2, 0)) (p2 := 15) rfl rfl rfl rfl ?_
  refine q_load (v := (6, 478, 0)) (p2 := 16) rfl rfl rfl rfl ?_
  refine q_getv (v := (6, 7, 0)) (p2 := 17) rfl (zD_478 hD3).choose_spec.1 (by decide) (zD_478 hD3).choose_spec.2 rfl ?_
  refine q_getv (v := (6, 237, 0)) (p2 := 18) rfl hm4.1.choose_spec.1 (by decide) hm4.1.choose_spec.2.1 rfl ?_
  refine q_getv (v := (6, 246, 0)) (p2 := 19) rfl hm6.1.choose_spec.1 (by decide) hm6.1.choose_spec.2.2.2.1 rfl ?_
  refine q_const (p2 := 20) rfl rfl ?_
  refine q_aldv (v := (0, 3, 0)) (p2 := 21) rfl (x_sc_246 hm6) (by omega) (by omega) rfl rfl ?_
  refine q_icmp_s (p2 := 22) rfl (by decide) (by omega) (by omega) rfl (fun hb => absurd hb (show ¬ (¬ (2 < 3)) by omega)) (fun _ => ?_)
  refine q_load (v := (6, 478, 0)) (p2 := 23) rfl rfl rfl rfl ?_
  refine q_getv (v := (6, 7, 0)) (p2 := 24) rfl (zD_478 hD3).choose_spec.1 (by decide) (zD_478 hD3).choose_spec.2 rfl ?_
  refine q_getv (v := (6, 237, 0)) (p2 := 25) rfl hm4.1.choose_spec.1 (by decide) hm4.1.choose_spec.2.1 rfl ?_
  refine q_getv (v := (6, 257, 0)) (p2 := 26) rfl hm6.1.choose_spec.1 (by decide) hm6.1.choose_spec.2.2.2.2.2.2.1 rfl ?_
  refine q_load (v := (0, 2, 0)) (p2 := 27) rfl rfl rfl rfl ?_
  refine q_aldv (v := (6, 260, 0)) (p2 := 28) rfl (x_sc_257 hm6) (by omega) (by omega) rfl rfl ?_
  refine q_const (p2 := 29) rfl rfl ?_
  refine q_aldv (v := (0, 1, 0)) (p2 := 30) rfl (x_sc_260 hm6) (by omega) (by omega) rfl rfl ?_
  refine q_const (p2 := 31) rfl rfl ?_
  refine q_load (v := (0, 2, 0)) (p2 := 32) rfl rfl rfl rfl ?_
  refine q_iop (w := 1 <<< (2 % 32)) (z := 4) (p2 := 33) rfl (xo_shl 1 2) (by decide) rfl ?_
  refine q_iop (w := 1 ||| 4) (z := 5) (p2 := 34) rfl (xo_or 1 4) (by decide) rfl ?_
  refine q_load (v := (0, 5, 0)) (p2 := 35) rfl rfl rfl rfl ?_
  refine q_icmp_s (p2 := 36) rfl (by decide) (by omega) (by omega) rfl (fun hb => absurd hb (show ¬ (¬ (5 = 5)) by omega)) (fun _ => ?_)
  refine q_load (v := (0, 2, 0)) (p2 := 37) rfl rfl rfl rfl ?_
  refine q_store (loc2 := [(6, 478, 0), (0, x, 0), (0, 5, 0), (0, 2, 0), (0, 2, 0)]) (p2 := 38) rfl rfl rfl rfl rfl ?_
  refine q_iinc (z := 3) (loc2 := [(6, 478, 0), (0, x, 0), (0, 5, 0), (0, 2, 0), (0, 3, 0)]) (p2 := 39) rfl rfl (by decide) rfl rfl ?_
  refine q_goto rfl ?_
  refine q_load (v := (0, 3, 0)) (p2 := 15) rfl rfl rfl rfl ?_
  refine q_load (v := (6, 478, 0)) (p2 := 16) rfl rfl rfl rfl ?_
  refine q_getv (v := (6, 7, 0)) (p2 := 17) rfl (zD_478 hD3).choose_spec.1 (by decide) (zD_478 hD3).choose_spec.2 rfl ?_
  refine q_getv (v := (6, 237, 0)) (p2 := 18) rfl hm4.1.choose_spec.1 (by decide) hm4.1.choose_spec.2.1 rfl ?_
  refine q_getv (v := (6, 246, 0)) (p2 := 19) rfl hm6.1.choose_spec.1 (by decide) hm6.1.choose_spec.2.2.2.1 rfl ?_
  refine q_const (p2 := 20) rfl rfl ?_
  refine q_aldv (v := (0, 3, 0)) (p2 := 21) rfl (x_sc_246 hm6) (by omega) (by omega) rfl rfl ?_
  refine q_icmp_s (p2 := 22) rfl (by decide) (by omega) (by omega) rfl (fun _ => ?_) (fun hb => absurd (show ¬ (3 < 3) by omega) hb)
  refine q_load (v := (0, 2, 0)) (p2 := 41) rfl rfl rfl rfl ?_
  refine q_if0_s (p2 := 42) rfl (by decide) (by omega) rfl (fun hb => absurd hb (show ¬ (2 < 0) by omega)) (fun _ => ?_)
  refine q_load (v := (6, 478, 0)) (p2 := 43) rfl rfl rfl rfl ?_
  refine q_load (v := (0, x, 0)) (p2 := 44) rfl rfl rfl rfl ?_
  refine q_load (v := (0, 2, 0)) (p2 := 45) rfl rfl rfl rfl ?_
  refine q_load (v := (0, 5, 0)) (p2 := 46) rfl rfl rfl rfl ?_
  have hm7 := (zq_nm_at hN ((frn3 239 (by omega) (by omega) (by omega)).trans ((frn2 239 (by omega) (by omega) (by omega)).trans (frn1 239 (by omega) (by omega) (by omega)))) ((frn3 242 (by omega) (by omega) (by omega)).trans ((frn2 242 (by omega) (by omega) (by omega)).trans (frn1 242 (by omega) (by omega) (by omega)))) ((frn3 244 (by omega) (by omega) (by omega)).trans ((frn2 244 (by omega) (by omega) (by omega)).trans (frn1 244 (by omega) (by omega) (by omega)))))
  refine q_callvE (xs := [(0, 5, 0), (0, 2, 0), (0, x, 0), (6, 478, 0)]) (p2 := 47) rfl rfl rfl rfl (x_rcv_s 478 (zD_478 hD3).choose_spec.1) rfl (zc_form_5 hm4 hm6 hm7 (by omega) hD3 (by omega) hz0 hz1 hz3 (by omega)) (Nat.le_refl _) (Nat.le_refl _) rfl (fun φ8 hR8 => ?_)
  obtain ⟨hD8, frn8⟩ := hR8
  refine q_goto rfl ?_
  refine q_load (v := (6, 478, 0)) (p2 := 81) rfl rfl rfl rfl ?_
  refine q_const (p2 := 82) rfl rfl ?_
  refine q_callvE (xs := [(0, 59, 0), (6, 478, 0)]) (p2 := 83) rfl rfl rfl rfl (x_rcv_s 478 (zD_478 hD8).choose_spec.1) rfl (zc_addD hD8 (by omega) (by omega)) (Nat.le_refl _) (Nat.le_refl _) rfl (fun φ9 hR9 => ?_)
  obtain ⟨hD9, frn9⟩ := hR9
  exact q_ret rfl (⟨rfl, rfl, rfl, hD9, fun j hj0 hj1 hj2 => ((frn9 j (by omega) (by omega) (by omega)).trans ((frn8 j (by omega) (by omega) (by omega)).trans ((frn3 j (by omega) (by omega) (by omega)).trans ((frn2 j (by omega) (by omega) (by omega)).trans (frn1 j (by omega) (by omega) (by omega))))))⟩)
end FPOP71
