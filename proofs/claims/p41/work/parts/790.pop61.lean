section FPOP61
theorem zc_pn_1_0 {d n sl : Nat} {φ : FH} {hand lf ie : Nat} {tp : Nat → Nat} {v : Nat}  (hH : zq_H φ 0 hand lf ie) (hB : zq_tp φ tp) (hv : 0 ≤ v ∧ v ≤ 9)  : x_f x_P (d + 4) 5 [(6, 0, 0), (0, v, 0), (11, 0, 0), (11, 0, 0), (11, 0, 0)] φ n sl (x_rR (0, 1, 0) n sl (fun φ2 => ∃ tp2, zq_H φ2 1 hand lf ie ∧ zq_tp φ2 tp2 ∧ tp2 0 = (v / 1) % 10 + 48 ∧ ∀ j, j ≠ 0 → j ≠ 1 → φ2 j = φ j)) := by
  refine x_f_of rfl ?_
  refine q_const (p2 := 1) rfl rfl ?_
  refine q_store (loc2 := [(6, 0, 0), (0, v, 0), (0, 1, 0), (11, 0, 0), (11, 0, 0)]) (p2 := 2) rfl rfl rfl rfl rfl ?_
  refine q_const (p2 := 3) rfl rfl ?_
  refine q_store (loc2 := [(6, 0, 0), (0, v, 0), (0, 1, 0), (0, 1, 0), (11, 0, 0)]) (p2 := 4) rfl rfl rfl rfl rfl ?_
  refine q_load (v := (0, v, 0)) (p2 := 5) rfl rfl rfl rfl ?_
  refine q_load (v := (0, 1, 0)) (p2 := 6) rfl rfl rfl rfl ?_
  refine q_idr9 (z := v / 1) (p2 := 7) rfl (by omega) (by omega) (by omega) rfl rfl ?_
  refine q_const (p2 := 8) rfl rfl ?_
  refine q_icmp_s (p2 := 9) rfl (by decide) (by omega) (by omega) rfl (fun _ => ?_) (fun hb => absurd (show ¬ (9 < (v / 1)) by omega) hb)
  refine q_load (v := (0, 1, 0)) (p2 := 15) rfl rfl rfl rfl ?_
  refine q_store (loc2 := [(6, 0, 0), (0, v, 0), (0, 1, 0), (0, 1, 0), (0, 1, 0)]) (p2 := 16) rfl rfl rfl rfl rfl ?_
  refine q_load (v := (0, 1, 0)) (p2 := 17) rfl rfl rfl rfl ?_
  refine q_if0_s (p2 := 18) rfl (by decide) (by omega) rfl (fun hb => absurd hb (show ¬ (¬ (0 < 1)) by omega)) (fun _ => ?_)
  refine q_load (v := (0, 1, 0)) (p2 := 19) rfl rfl rfl rfl ?_
  refine q_load (v := (6, 0, 0)) (p2 := 20) rfl rfl rfl rfl ?_
  refine q_const (p2 := 21) rfl rfl ?_
  refine q_load (v := (0, v, 0)) (p2 := 22) rfl rfl rfl rfl ?_
  refine q_load (v := (0, 1, 0)) (p2 := 23) rfl rfl rfl rfl ?_
  refine q_idr9 (z := v / 1) (p2 := 24) rfl (by omega) (by omega) (by omega) rfl rfl ?_
  refine q_const (p2 := 25) rfl rfl ?_
  refine q_idr10 (z := (v / 1) % 10) (p2 := 26) rfl (by omega) (by omega) (by omega) rfl rfl ?_
  refine q_iaddz (z := (v / 1) % 10 + 48) (p2 := 27) rfl (by omega) (by omega) rfl ?_
  refine q_callrE (xs := [(0, (v / 1) % 10 + 48, 0), (6, 0, 0)]) (p2 := 28) rfl rfl rfl rfl (fun _ _ => rfl) rfl (zc_put hH hB (by omega) (by omega)) (Nat.le_refl _) (Nat.le_refl _) rfl (fun φ1 hR1 => ?_)
  obtain ⟨tpq1, hH1, hB1, hc1, hq1, fr1⟩ := hR1
  refine q_iop (w := 1 &&& 1) (z := 1) (p2 := 29) rfl (xo_and 1 1) (by decide) rfl ?_
  refine q_store (loc2 := [(6, 0, 0), (0, v, 0), (0, 1, 0), (0, 1, 0), (0, 1, 0)]) (p2 := 30) rfl rfl rfl rfl rfl ?_
  refine q_load (v := (0, 1, 0)) (p2 := 31) rfl rfl rfl rfl ?_
  refine q_const (p2 := 32) rfl rfl ?_
  refine q_iop (w := 1 / 10) (z := 0) (p2 := 33) rfl (xo_div (by decide) (by decide) (by decide)) (by decide) rfl ?_
  refine q_store (loc2 := [(6, 0, 0), (0, v, 0), (0, 1, 0), (0, 1, 0), (0, 0, 0)]) (p2 := 34) rfl rfl rfl rfl rfl ?_
  refine q_goto rfl ?_
  refine q_load (v := (0, 0, 0)) (p2 := 17) rfl rfl rfl rfl ?_
  refine q_if0_s (p2 := 18) rfl (by decide) (by omega) rfl (fun _ => ?_) (fun hb => absurd (show ¬ (0 < 0) by omega) hb)
  refine q_load (v := (0, 1, 0)) (p2 := 36) rfl rfl rfl rfl ?_
  exact q_retv (v := (0, 1, 0)) rfl rfl (⟨rfl, rfl, rfl, rfl, _, hH1, hB1, hc1, fun j hj0 hj1 => (fr1 j (by omega) (by omega))⟩)
theorem zc_pn_2_0 {d n sl : Nat} {φ : FH} {hand lf ie : Nat} {tp : Nat → Nat} {v : Nat}  (hH : zq_H φ 0 hand lf ie) (hB : zq_tp φ tp) (hv : 10 ≤ v ∧ v ≤ 99)  : x_f x_P (d + 4) 5 [(6, 0, 0), (0, v, 0), (11, 0, 0), (11, 0, 0), (11, 0, 0)] φ n sl (x_rR (0, 1, 0) n sl (fun φ2 => ∃ tp2, zq_H φ2 2 hand lf ie ∧ zq_tp φ2 tp2 ∧ tp2 0 = (v / 10) % 10 + 48 ∧ tp2 1 = (v / 1) % 10 + 48 ∧ ∀ j, j ≠ 0 → j ≠ 1 → φ2 j = φ j)) := by
  refine x_f_of rfl ?_
  refine q_const (p2 := 1) rfl rfl ?_
  refine q_store (loc2 := [(6, 0, 0), (0, v, 0), (0, 1, 0), (11, 0, 0), (11, 0, 0)]) (p2 := 2) rfl rfl rfl rfl rfl ?_
  refine q_const (p2 := 3) rfl rfl ?_
  refine q_store (loc2 := [(6, 0, 0), (0, v, 0), (0, 1, 0), (0, 1, 0), (11, 0, 0)]) (p2 := 4) rfl rfl rfl rfl rfl ?_
  refine q_load (v := (0, v, 0)) (p2 := 5) rfl rfl rfl rfl ?_
  refine q_load (v := (0, 1, 0)) (p2 := 6) rfl rfl rfl rfl ?_
  refine q_idr9 (z := v / 1) (p2 := 7) rfl (by omega) (by omega) (by omega) rfl rfl ?_
  refine q_const (p2 := 8) rfl rfl ?_
  refine q_icmp_s (p2 := 9) rfl (by decide) (by omega) (by omega) rfl (fun hb => absurd hb (show ¬ (¬ (9 < (v / 1))) by omega)) (fun _ => ?_)
  refine q_load (v := (0, 1, 0)) (p2 := 10) rfl rfl rfl rfl ?_
  refine q_const (p2 := 11) rfl rfl ?_
  refine q_iop (w := 1 * 10) (z := 10) (p2 := 12) rfl (xo_mul 1 10) (by decide) rfl ?_
  refine q_store (loc2 := [(6, 0, 0), (0, v, 0), (0, 1, 0), (0, 10, 0), (11, 0, 0)]) (p2 := 13) rfl rfl rfl rfl rfl ?_
  refine q_goto rfl ?_
  refine q_load (v := (0, v, 0)) (p2 := 5) rfl rfl rfl rfl ?_
  refine q_load (v := (0, 10, 0)) (p2 := 6) rfl rfl rfl rfl ?_
  refine q_idr9 (z := v / 10) (p2 := 7) rfl (by omega) (by omega) (by omega) rfl rfl ?_
  refine q_const (p2 := 8) rfl rfl ?_
  refine q_icmp_s (p2 := 9) rfl (by decide) (by omega) (by omega) rfl (fun _ => ?_) (fun hb => absurd (show ¬ (9 < (v / 10)) by omega) hb)
  refine q_load (v := (0, 10, 0)) (p2 := 15) rfl rfl rfl rfl ?_
  refine q_store (loc2 := [(6, 0, 0), (0, v, 0), (0, 1, 0), (0, 10, 0), (0, 10, 0)]) (p2 := 16) rfl rfl rfl rfl rfl ?_
  refine q_load (v := (0, 10, 0)) (p2 := 17) rfl rfl rfl rfl ?_
  refine q_if0_s (p2 := 18) rfl (by decide) (by omega) rfl (fun hb => absurd hb (show ¬ (¬ (0 < 10)) by omega)) (fun _ => ?_)
  refine q_load (v := (0, 1, 0)) (p2 := 19) rfl rfl rfl rfl ?_
  refine q_load (v := (6, 0, 0)) (p2 := 20) rfl rfl rfl rfl ?_
  refine q_const (p2 := 21) rfl rfl ?_
  refine q_load (v := (0, v, 0)) (p2 := 22) rfl rfl rfl rfl ?_
  refine q_load (v := (0, 10, 0)) (p2 := 23) rfl rfl rfl rfl ?_
  refine q_idr9 (z := v / 10) (p2 := 24) rfl (by omega) (by omega) (by omega) rfl rfl ?_
  refine q_const (p2 := 25) rfl rfl ?_
  refine q_idr10 (z := (v / 10) % 10) (p2 := 26) rfl (by omega) (by omega) (by omega) rfl rfl ?_
  refine q_iaddz (z := (v / 10) % 10 + 48) (p2 := 27) rfl (by omega) (by omega) rfl ?_
  refine q_callrE (xs := [(0, (v / 10) % 10 + 48, 0), (6, 0, 0)]) (p2 := 28) rfl rfl rfl rfl (fun _ _ => rfl) rfl (zc_put hH hB (by omega) (by omega)) (Nat.le_refl _) (Nat.le_refl _) rfl (fun φ1 hR1 => ?_)
  obtain ⟨tpq1, hH1, hB1, hc1, hq1, fr1⟩ := hR1
  refine q_iop (w := 1 &&& 1) (z := 1) (p2 := 29) rfl (xo_and 1 1) (by decide) rfl ?_
  refine q_store (loc2 := [(6, 0, 0), (0, v, 0), (0, 1, 0), (0, 10, 0), (0, 10, 0)]) (p2 := 30) rfl rfl rfl rfl rfl ?_
  refine q_load (v := (0, 10, 0)) (p2 := 31) rfl rfl rfl rfl ?_
  refine q_const (p2 := 32) rfl rfl ?_
  refine q_iop (w := 10 / 10) (z := 1) (p2 := 33) rfl (xo_div (by decide) (by decide) (by decide)) (by decide) rfl ?_
  refine q_store (loc2 := [(6, 0, 0), (0, v, 0), (0, 1, 0), (0, 10, 0), (0, 1, 0)]) (p2 := 34) rfl rfl rfl rfl rfl ?_
  refine q_goto rfl ?_
  refine q_load (v := (0, 1, 0)) (p2 := 17) rfl rfl rfl rfl ?_
  refine q_if0_s (p2 := 18) rfl (by decide) (by omega) rfl (fun hb => absurd hb (show ¬ (¬ (0 < 1)) by omega)) (fun _ => ?_)
  refine q_load (v := (0, 1, 0)) (p2 := 19) rfl rfl rfl rfl ?_
  refine q_load (v := (6, 0, 0)) (p2 := 20) rfl rfl rfl rfl ?_
  refine q_const (p2 := 21) rfl rfl ?_
  refine q_load (v := (0, v, 0)) (p2 := 22) rfl rfl rfl rfl ?_
  refine q_load (v := (0, 1, 0)) (p2 := 23) rfl rfl rfl rfl ?_
  refine q_idr9 (z := v / 1) (p2 := 24) rfl (by omega) (by omega) (by omega) rfl rfl ?_
  refine q_const (p2 := 25) rfl rfl ?_
  refine q_idr10 (z := (v / 1) % 10) (p2 := 26) rfl (by omega) (by omega) (by omega) rfl rfl ?_
  refine q_iaddz (z := (v / 1) % 10 + 48) (p2 := 27) rfl (by omega) (by omega) rfl ?_
  refine q_callrE (xs := [(0, (v / 1) % 10 + 48, 0), (6, 0, 0)]) (p2 := 28) rfl rfl rfl rfl (fun _ _ => rfl) rfl (zc_put hH1 hB1 (by omega) (by omega)) (Nat.le_refl _) (Nat.le_refl _) rfl (fun φ2 hR2 => ?_)
  obtain ⟨tpq2, hH2, hB2, hc2, hq2, fr2⟩ := hR2
  refine q_iop (w := 1 &&& 1) (z := 1) (p2 := 29) rfl (xo_and 1 1) (by decide) rfl ?_
  refine q_store (loc2 := [(6, 0, 0), (0, v, 0), (0, 1, 0), (0, 10, 0), (0, 1, 0)]) (p2 := 30) rfl rfl rfl rfl rfl ?_
  refine q_load (v := (0, 1, 0)) (p2 := 31) rfl rfl rfl rfl ?_
  refine q_const (p2 := 32) rfl rfl ?_
  refine q_iop (w := 1 / 10) (z := 0) (p2 := 33) rfl (xo_div (by decide) (by decide) (by decide)) (by decide) rfl ?_
  refine q_store (loc2 := [(6, 0, 0), (0, v, 0), (0, 1, 0), (0, 10, 0), (0, 0, 0)]) (p2 := 34) rfl rfl rfl rfl rfl ?_
  refine q_goto rfl ?_
  refine q_load (v := (0, 0, 0)) (p2 := 17) rfl rfl rfl rfl ?_
  refine q_if0_s (p2 := 18) rfl (by decide) (by omega) rfl (fun _ => ?_) (fun hb => absurd (show ¬ (0 < 0) by omega) hb)
  refine q_load (v := (0, 1, 0)) (p2 := 36) rfl rfl rfl rfl ?_
  exact q_retv (v := (0, 1, 0)) rfl rfl (⟨rfl, rfl, rfl, rfl, _, hH2, hB2, ((hq2 0 (by omega)).trans hc1), hc2, fun j hj0 hj1 => ((fr2 j (by omega) (by omega)).trans (fr1 j (by omega) (by omega)))⟩)
theorem zc_pn_3_0 {d n sl : Nat} {φ : FH} {hand lf ie : Nat} {tp : Nat → Nat} {v : Nat}  (hH : zq_H φ 0 hand lf ie) (hB : zq_tp φ tp) (hv : 100 ≤ v ∧ v ≤ 999)  : x_f x_P (d + 4) 5 [(6, 0, 0), (0, v, 0), (11, 0, 0), (11, 0, 0), (11, 0, 0)] φ n sl (x_rR (0, 1, 0) n sl (fun φ2 => ∃ tp2, zq_H φ2 3 hand lf ie ∧ zq_tp φ2 tp2 ∧ tp2 0 = (v / 100) % 10 + 48 ∧ tp2 1 = (v / 10) % 10 + 48 ∧ tp2 2 = (v / 1) % 10 + 48 ∧ ∀ j, j ≠ 0 → j ≠ 1 → φ2 j = φ j)) := by
  refine x_f_of rfl ?_
  refine q_const (p2 := 1) rfl rfl ?_
  refine q_store (loc2 := [(6, 0, 0), (0, v, 0), (0, 1, 0), (11, 0, 0), (11, 0, 0)]) (p2 := 2) rfl rfl rfl rfl rfl ?_
  refine q_const (p2 := 3) rfl rfl ?_
  refine q_store (loc2 := [(6, 0, 0), (0, v, 0), (0, 1, 0), (0, 1, 0), (11, 0, 0)]) (p2 := 4) rfl rfl rfl rfl rfl ?_
  refine q_load (v := (0, v, 0)) (p2 := 5) rfl rfl rfl rfl ?_
  refine q_load (v := (0, 1, 0)) (p2 := 6) rfl rfl rfl rfl ?_
  refine q_idr9 (z := v / 1) (p2 := 7) rfl (by omega) (by omega) (by omega) rfl rfl ?_
  refine q_const (p2 := 8) rfl rfl ?_
  refine q_icmp_s (p2 := 9) rfl (by decide) (by omega) (by omega) rfl (fun hb => absurd hb (show ¬ (¬ (9 < (v / 1))) by omega)) (fun _ => ?_)
  refine q_load (v := (0, 1, 0)) (p2 := 10) rfl rfl rfl rfl ?_
  refine q_const (p2 := 11) rfl rfl ?_
  refine q_iop (w := 1 * 10) (z := 10) (p2 := 12) rfl (xo_mul 1 10) (by decide) rfl ?_
  refine q_store (loc2 := [(6, 0, 0), (0, v, 0), (0, 1, 0), (0, 10, 0), (11, 0, 0)]) (p2 := 13) rfl rfl rfl rfl rfl ?_
  refine q_goto rfl ?_
  refine q_load (v := (0, v, 0)) (p2 := 5) rfl rfl rfl rfl ?_
  refine q_load (v := (0, 10, 0)) (p2 := 6) rfl rfl rfl rfl ?_
  refine q_idr9 (z := v / 10) (p2 := 7) rfl (by omega) (by omega) (by omega) rfl rfl ?_
  refine q_const (p2 := 8) rfl rfl ?_
  refine q_icmp_s (p2 := 9) rfl (by decide) (by omega) (by omega) rfl (fun hb => absurd hb (show ¬ (¬ (9 < (v / 10))) by omega)) (fun _ => ?_)
  refine q_load (v := (0, 10, 0)) (p2 := 10) rfl rfl rfl rfl ?_
  refine q_const (p2 := 11) rfl rfl ?_
  refine q_iop (w := 10 * 10) (z := 100) (p2 := 12) rfl (xo_mul 10 10) (by decide) rfl ?_
  refine q_store (loc2 := [(6, 0, 0), (0, v, 0), (0, 1, 0), (0, 100, 0), (11, 0, 0)]) (p2 := 13) rfl rfl rfl rfl rfl ?_
  refine q_goto rfl ?_
  refine q_load (v := (0, v, 0)) (p2 := 5) rfl rfl rfl rfl ?_
  refine q_load (v := (0, 100, 0)) (p2 := 6) rfl rfl rfl rfl ?_
  refine q_idr9 (z := v / 100) (p2 := 7) rfl (by omega) (by omega) (by omega) rfl rfl ?_
  refine q_const (p2 := 8) rfl rfl ?_
  refine q_icmp_s (p2 := 9) rfl (by decide) (by omega) (by omega) rfl (fun _ => ?_) (fun hb => absurd (show ¬ (9 < (v / 100)) by omega) hb)
  refine q_load (v := (0, 100, 0)) (p2 := 15) rfl rfl rfl rfl ?_
  refine q_store (loc2 := [(6, 0, 0), (0, v, 0), (0, 1, 0), (0, 100, 0), (0, 100, 0)]) (p2 := 16) rfl rfl rfl rfl rfl ?_
  refine q_load (v := (0, 100, 0)) (p2 := 17) rfl rfl rfl rfl ?_
  refine q_if0_s (p2 := 18) rfl (by decide) (by omega) rfl (fun hb => absurd hb (show ¬ (¬ (0 < 100)) by omega)) (fun _ => ?_)
  refine q_load (v := (0, 1, 0)) (p2 := 19) rfl rfl rfl rfl ?_
  refine q_load (v := (6, 0, 0)) (p2 := 20) rfl rfl rfl rfl ?_
  refine q_const (p2 := 21) rfl rfl ?_
  refine q_load (v := (0, v, 0)) (p2 := 22) rfl rfl rfl rfl ?_
  refine q_load (v := (0, 100, 0)) (p2 := 23) rfl rfl rfl rfl ?_
  refine q_idr9 (z := v / 100) (p2 := 24) rfl (by omega) (by omega) (by omega) rfl rfl ?_
  refine q_const (p2 := 25) rfl rfl ?_
  refine q_idr10 (z := (v / 100) % 10) (p2 := 26) rfl (by omega) (by omega) (by omega) rfl rfl ?_
  refine q_iaddz (z := (v / 100) % 10 + 48) (p2 := 27) rfl (by omega) (by omega) rfl ?_
  refine q_callrE (xs := [(0, (v / 100) % 10 + 48, 0), (6, 0, 0)]) (p2 := 28) rfl rfl rfl rfl (fun _ _ => rfl) rfl (zc_put hH hB (by omega) (by omega)) (Nat.le_refl _) (Nat.le_refl _) rfl (fun φ1 hR1 => ?_)
  obtain ⟨tpq1, hH1, hB1, hc1, hq1, fr1⟩ := hR1
  refine q_iop (w := 1 &&& 1) (z := 1) (p2 := 29) rfl (xo_and 1 1) (by decide) rfl ?_
  refine q_store (loc2 := [(6, 0, 0), (0, v, 0), (0, 1, 0), (0, 100, 0), (0, 100, 0)]) (p2 := 30) rfl rfl rfl rfl rfl ?_
  refine q_load (v := (0, 100, 0)) (p2 := 31) rfl rfl rfl rfl ?_
  refine q_const (p2 := 32) rfl rfl ?_
  refine q_iop (w := 100 / 10) (z := 10) (p2 := 33) rfl (xo_div (by decide) (by decide) (by decide)) (by decide) rfl ?_
  refine q_store (loc2 := [(6, 0, 0), (0, v, 0), (0, 1, 0), (0, 100, 0), (0, 10, 0)]) (p2 := 34) rfl rfl rfl rfl rfl ?_
  refine q_goto rfl ?_
  refine q_load (v := (0, 10, 0)) (p2 := 17) rfl rfl rfl rfl ?_
  refine q_if0_s (p2 := 18) rfl (by decide) (by omega) rfl (fun hb => absurd hb (show ¬ (¬ (0 < 10)) by omega)) (fun _ => ?_)
  refine q_load (v := (0, 1, 0)) (p2 := 19) rfl rfl rfl rfl ?_
  refine q_load (v := (6, 0, 0)) (p2 := 20) rfl rfl rfl rfl ?_
  refine q_const (p2 := 21) rfl rfl ?_
  refine q_load (v := (0, v, 0)) (p2 := 22) rfl rfl rfl rfl ?_
  refine q_load (v := (0, 10, 0)) (p2 := 23) rfl rfl rfl rfl ?_
  refine q_idr9 (z := v / 10) (p2 := 24) rfl (by omega) (by omega) (by omega) rfl rfl ?_
  refine q_const (p2 := 25) rfl rfl ?_
  refine q_idr10 (z := (v / 10) % 10) (p2 := 26) rfl (by omega) (by omega) (by omega) rfl rfl ?_
  refine q_iaddz (z := (v / 10) % 10 + 48) (p2 := 27) rfl (by omega) (by omega) rfl ?_
  refine q_callrE (xs := [(0, (v / 10) % 10 + 48, 0), (6, 0, 0)]) (p2 := 28) rfl rfl rfl rfl (fun _ _ => rfl) rfl (zc_put hH1 hB1 (by omega) (by omega)) (Nat.le_refl _) (Nat.le_refl _) rfl (fun φ2 hR2 => ?_)
  obtain ⟨tpq2, hH2, hB2, hc2, hq2, fr2⟩ := hR2
  refine q_iop (w := 1 &&& 1) (z := 1) (p2 := 29) rfl (xo_and 1 1) (by decide) rfl ?_
  refine q_store (loc2 := [(6, 0, 0), (0, v, 0), (0, 1, 0), (0, 100, 0), (0, 10, 0)]) (p2 := 30) rfl rfl rfl rfl rfl ?_
  refine q_load (v := (0, 10, 0)) (p2 := 31) rfl rfl rfl rfl ?_
  refine q_const (p2 := 32) rfl rfl ?_
  refine q_iop (w := 10 / 10) (z := 1) (p2 := 33) rfl (xo_div (by decide) (by decide) (by decide)) (by decide) rfl ?_
  refine q_store (loc2 := [(6, 0, 0), (0, v, 0), (0, 1, 0), (0, 100, 0), (0, 1, 0)]) (p2 := 34) rfl rfl rfl rfl rfl ?_
  refine q_goto rfl ?_
  refine q_load (v := (0, 1, 0)) (p2 := 17) rfl rfl rfl rfl ?_
  refine q_if0_s (p2 := 18) rfl (by decide) (by omega) rfl (fun hb => absurd hb (show ¬ (¬ (0 < 1)) by omega)) (fun _ => ?_)
  refine q_load (v := (0, 1, 0)) (p2 := 19) rfl rfl rfl rfl ?_
  refine q_load (v := (6, 0, 0)) (p2 := 20) rfl rfl rfl rfl ?_
  refine q_const (p2 := 21) rfl rfl ?_
  refine q_load (v := (0, v, 0)) (p2 := 22) rfl rfl rfl rfl ?_
  refine q_load (v := (0, 1, 0)) (p2 := 23) rfl rfl rfl rfl ?_
  refine q_idr9 (z := v / 1) (p2 := 24) rfl (by omega) (by omega) (by omega) rfl rfl ?_
  refine q_const (p2 := 25) rfl rfl ?_
  refine q_idr10 (z := (v / 1) % 10) (p2 := 26) rfl (by omega) (by omega) (by omega) rfl rfl ?_
  refine q_iaddz (z := (v / 1) % 10 + 48) (p2 := 27) rfl (by omega) (by omega) rfl ?_
  refine q_callrE (xs := [(0, (v / 1) % 10 + 48, 0), (6, 0, 0)]) (p2 := 28) rfl rfl rfl rfl (fun _ _ => rfl) rfl (zc_put hH2 hB2 (by omega) (by omega)) (Nat.le_refl _) (Nat.le_refl _) rfl (fun φ3 hR3 => ?_)
  obtain ⟨tpq3, hH3, hB3, hc3, hq3, fr3⟩ := hR3
  refine q_iop (w := 1 &&& 1) (z := 1) (p2 := 29) rfl (xo_and 1 1) (by decide) rfl ?_
  refine q_store (loc2 := [(6, 0, 0), (0, v, 0), (0, 1, 0), (0, 100, 0), (0, 1, 0)]) (p2 := 30) rfl rfl rfl rfl rfl ?_
  refine q_load (v := (0, 1, 0)) (p2 := 31) rfl rfl rfl rfl ?_
  refine q_const (p2 := 32) rfl rfl ?_
  refine q_iop (w := 1 / 10) (z := 0) (p2 := 33) rfl (xo_div (by decide) (by decide) (by decide)) (by decide) rfl ?_
  refine q_store (loc2 := [(6, 0, 0), (0, v, 0), (0, 1, 0), (0, 100, 0), (0, 0, 0)]) (p2 := 34) rfl rfl rfl rfl rfl ?_
  refine q_goto rfl ?_
  refine q_load (v := (0, 0, 0)) (p2 := 17) rfl rfl rfl rfl ?_
  refine q_if0_s (p2 := 18) rfl (by decide) (by omega) rfl (fun _ => ?_) (fun hb => absurd (show ¬ (0 < 0) by omega) hb)
  refine q_load (v := (0, 1, 0)) (p2 := 36) rfl rfl rfl rfl ?_
  exact q_retv (v := (0, 1, 0)) rfl rfl (⟨rfl, rfl, rfl, rfl, _, hH3, hB3, ((hq3 0 (by omega)).trans ((hq2 0 (by omega)).trans hc1)), ((hq3 1 (by omega)).trans hc2), hc3, fun j hj0 hj1 => ((fr3 j (by omega) (by omega)).trans ((fr2 j (by omega) (by omega)).trans (fr1 j (by omega) (by omega))))⟩)
theorem zc_pn_4_0 {d n sl : Nat} {φ : FH} {hand lf ie : Nat} {tp : Nat → Nat} {v : Nat}  (hH : zq_H φ 0 hand lf ie) (hB : zq_tp φ tp) (hv : 1000 ≤ v ∧ v ≤ 1023)  : x_f x_P (d + 4) 5 [(6, 0, 0), (0, v, 0), (11, 0, 0), (11, 0, 0), (11, 0, 0)] φ n sl (x_rR (0, 1, 0) n sl (fun φ2 => ∃ tp2, zq_H φ2 4 hand lf ie ∧ zq_tp φ2 tp2 ∧ tp2 0 = (v / 1000) % 10 + 48 ∧ tp2 1 = (v / 100) % 10 + 48 ∧ tp2 2 = (v / 10) % 10 + 48 ∧ tp2 3 = (v / 1) % 10 + 48 ∧ ∀ j, j ≠ 0 → j ≠ 1 → φ2 j = φ j)) := by
  refine x_f_of rfl ?_
  refine q_const (p2 := 1) rfl rfl ?_
  refine q_store (loc2 := [(6, 0, 0), (0, v, 0), (0, 1, 0), (11, 0, 0), (11, 0, 0)]) (p2 := 2) rfl rfl rfl rfl rfl ?_
  refine q_const (p2 := 3) rfl rfl ?_
  refine q_store (loc2 := [(6, 0, 0), (0, v, 0), (0, 1, 0), (0, 1, 0), (11, 0, 0)]) (p2 := 4) rfl rfl rfl rfl rfl ?_
  refine q_load (v := (0, v, 0)) (p2 := 5) rfl rfl rfl rfl ?_
  refine q_load (v := (0, 1, 0)) (p2 := 6) rfl rfl rfl rfl ?_
  refine q_idr9 (z := v / 1) (p2 := 7) rfl (by omega) (by omega) (by omega) rfl rfl ?_
  refine q_const (p2 := 8) rfl rfl ?_
  refine q_icmp_s (p2 := 9) rfl (by decide) (by omega) (by omega) rfl (fun hb => absurd hb (show ¬ (¬ (9 < (v / 1))) by omega)) (fun _ => ?_)
  refine q_load (v := (0, 1, 0)) (p2 := 10) rfl rfl rfl rfl ?_
  refine q_const (p2 := 11) rfl rfl ?_
  refine q_iop (w := 1 * 10) (z := 10) (p2 := 12) rfl (xo_mul 1 10) (by decide) rfl ?_
  refine q_store (loc2 := [(6, 0, 0), (0, v, 0), (0, 1, 0), (0, 10, 0), (11, 0, 0)]) (p2 := 13) rfl rfl rfl rfl rfl ?_
  refine q_goto rfl ?_
  refine q_load (v := (0, v, 0)) (p2 := 5) rfl rfl rfl rfl ?_
  refine q_load (v := (0, 10, 0)) (p2 := 6) rfl rfl rfl rfl ?_
  refine q_idr9 (z := v / 10) (p2 := 7) rfl (by omega) (by omega) (by omega) rfl rfl ?_
  refine q_const (p2 := 8) rfl rfl ?_
  refine q_icmp_s (p2 := 9) rfl (by decide) (by omega) (by omega) rfl (fun hb => absurd hb (show ¬ (¬ (9 < (v / 10))) by omega)) (fun _ => ?_)
  refine q_load (v := (0, 10, 0)) (p2 := 10) rfl rfl rfl rfl ?_
  refine q_const (p2 := 11) rfl rfl ?_
  refine q_iop (w := 10 * 10) (z := 100) (p2 := 12) rfl (xo_mul 10 10) (by decide) rfl ?_
  refine q_store (loc2 := [(6, 0, 0), (0, v, 0), (0, 1, 0), (0, 100, 0), (11, 0, 0)]) (p2 := 13) rfl rfl rfl rfl rfl ?_
  refine q_goto rfl ?_
  refine q_load (v := (0, v, 0)) (p2 := 5) rfl rfl rfl rfl ?_
  refine q_load (v := (0, 100, 0)) (p2 := 6) rfl rfl rfl rfl ?_
  refine q_idr9 (z := v / 100) (p2 := 7) rfl (by omega) (by omega) (by omega) rfl rfl ?_
  refine q_const (p2 := 8) rfl rfl ?_
  refine q_icmp_s (p2 := 9) rfl (by decide) (by omega) (by omega) rfl (fun hb => absurd hb (show ¬ (¬ (9 < (v / 100))) by omega)) (fun _ => ?_)
  refine q_load (v := (0, 100, 0)) (p2 := 10) rfl rfl rfl rfl ?_
  refine q_const (p2 := 11) rfl rfl ?_
  refine q_iop (w := 100 * 10) (z := 1000) (p2 := 12) rfl (xo_mul 100 10) (by decide) rfl ?_
  refine q_store (loc2 := [(6, 0, 0), (0, v, 0), (0, 1, 0), (0, 1000, 0), (11, 0, 0)]) (p2 := 13) rfl rfl rfl rfl rfl ?_
  refine q_goto rfl ?_
  refine q_load (v := (0, v, 0)) (p2 := 5) rfl rfl rfl rfl ?_
  refine q_load (v := (0, 1000, 0)) (p2 := 6) rfl rfl rfl rfl ?_
  refine q_idr9 (z := v / 1000) (p2 := 7) rfl (by omega) (by omega) (by omega) rfl rfl ?_
  refine q_const (p2 := 8) rfl rfl ?_
  refine q_icmp_s (p2 := 9) rfl (by decide) (by omega) (by omega) rfl (fun _ => ?_) (fun hb => absurd (show ¬ (9 < (v / 1000)) by omega) hb)
  refine q_load (v := (0, 1000, 0)) (p2 := 15) rfl rfl rfl rfl ?_
  refine q_store (loc2 := [(6, 0, 0), (0, v, 0), (0, 1, 0), (0, 1000, 0), (0, 1000, 0)]) (p2 := 16) rfl rfl rfl rfl rfl ?_
  refine q_load (v := (0, 1000, 0)) (p2 := 17) rfl rfl rfl rfl ?_
  refine q_if0_s (p2 := 18) rfl (by decide) (by omega) rfl (fun hb => absurd hb (show ¬ (¬ (0 < 1000)) by omega)) (fun _ => ?_)
  refine q_load (v := (0, 1, 0)) (p2 := 19) rfl rfl rfl rfl ?_
  refine q_load (v := (6, 0, 0)) (p2 := 20) rfl rfl rfl rfl ?_
  refine q_const (p2 := 21) rfl rfl ?_
  refine q_load (v := (0, v, 0)) (p2 := 22) rfl rfl rfl rfl ?_
  refine q_load (v := (0, 1000, 0)) (p2 := 23) rfl rfl rfl rfl ?_
  refine q_idr9 (z := v / 1000) (p2 := 24) rfl (by omega) (by omega) (by omega) rfl rfl ?_
  refine q_const (p2 := 25) rfl rfl ?_
  refine q_idr10 (z := (v / 1000) % 10) (p2 := 26) rfl (by omega) (by omega) (by omega) rfl rfl ?_
  refine q_iaddz (z := (v / 1000) % 10 + 48) (p2 := 27) rfl (by omega) (by omega) rfl ?_
  refine q_callrE (xs := [(0, (v / 1000) % 10 + 48, 0), (6, 0, 0)]) (p2 := 28) rfl rfl rfl rfl (fun _ _ => rfl) rfl (zc_put hH hB (by omega) (by omega)) (Nat.le_refl _) (Nat.le_refl _) rfl (fun φ1 hR1 => ?_)
  obtain ⟨tpq1, hH1, hB1, hc1, hq1, fr1⟩ := hR1
  refine q_iop (w := 1 &&& 1) (z := 1) (p2 := 29) rfl (xo_and 1 1) (by decide) rfl ?_
  refine q_store (loc2 := [(6, 0, 0), (0, v, 0), (0, 1, 0), (0, 1000, 0), (0, 1000, 0)]) (p2 := 30) rfl rfl rfl rfl rfl ?_
  refine q_load (v := (0, 1000, 0)) (p2 := 31) rfl rfl rfl rfl ?_
  refine q_const (p2 := 32) rfl rfl ?_
  refine q_iop (w := 1000 / 10) (z := 100) (p2 := 33) rfl (xo_div (by decide) (by decide) (by decide)) (by decide) rfl ?_
  refine q_store (loc2 := [(6, 0, 0), (0, v, 0), (0, 1, 0), (0, 1000, 0), (0, 100, 0)]) (p2 := 34) rfl rfl rfl rfl rfl ?_
  refine q_goto rfl ?_
  refine q_load (v := (0, 100, 0)) (p2 := 17) rfl rfl rfl rfl ?_
  refine q_if0_s (p2 := 18) rfl (by decide) (by omega) rfl (fun hb => absurd hb (show ¬ (¬ (0 < 100)) by omega)) (fun _ => ?_)
  refine q_load (v := (0, 1, 0)) (p2 := 19) rfl rfl rfl rfl ?_
  refine q_load (v := (6, 0, 0)) (p2 := 20) rfl rfl rfl rfl ?_
  refine q_const (p2 := 21) rfl rfl ?_
  refine q_load (v := (0, v, 0)) (p2 := 22) rfl rfl rfl rfl ?_
  refine q_load (v := (0, 100, 0)) (p2 := 23) rfl rfl rfl rfl ?_
  refine q_idr9 (z := v / 100) (p2 := 24) rfl (by omega) (by omega) (by omega) rfl rfl ?_
  refine q_const (p2 := 25) rfl rfl ?_
  refine q_idr10 (z := (v / 100) % 10) (p2 := 26) rfl (by omega) (by omega) (by omega) rfl rfl ?_
  refine q_iaddz (z := (v / 100) % 10 + 48) (p2 := 27) rfl (by omega) (by omega) rfl ?_
  refine q_callrE (xs := [(0, (v / 100) % 10 + 48, 0), (6, 0, 0)]) (p2 := 28) rfl rfl rfl rfl (fun _ _ => rfl) rfl (zc_put hH1 hB1 (by omega) (by omega)) (Nat.le_refl _) (Nat.le_refl _) rfl (fun φ2 hR2 => ?_)
  obtain ⟨tpq2, hH2, hB2, hc2, hq2, fr2⟩ := hR2
  refine q_iop (w := 1 &&& 1) (z := 1) (p2 := 29) rfl (xo_and 1 1) (by decide) rfl ?_
  refine q_store (loc2 := [(6, 0, 0), (0, v, 0), (0, 1, 0), (0, 1000, 0), (0, 100, 0)]) (p2 := 30) rfl rfl rfl rfl rfl ?_
  refine q_load (v := (0, 100, 0)) (p2 := 31) rfl rfl rfl rfl ?_
  refine q_const (p2 := 32) rfl rfl ?_
  refine q_iop (w := 100 / 10) (z := 10) (p2 := 33) rfl (xo_div (by decide) (by decide) (by decide)) (by decide) rfl ?_
  refine q_store (loc2 := [(6, 0, 0), (0, v, 0), (0, 1, 0), (0, 1000, 0), (0, 10, 0)]) (p2 := 34) rfl rfl rfl rfl rfl ?_
  refine q_goto rfl ?_
  refine q_load (v := (0, 10, 0)) (p2 := 17) rfl rfl rfl rfl ?_
  refine q_if0_s (p2 := 18) rfl (by decide) (by omega) rfl (fun hb => absurd hb (show ¬ (¬ (0 < 10)) by omega)) (fun _ => ?_)
  refine q_load (v := (0, 1, 0)) (p2 := 19) rfl rfl rfl rfl ?_
  refine q_load (v := (6, 0, 0)) (p2 := 20) rfl rfl rfl rfl ?_
  refine q_const (p2 := 21) rfl rfl ?_
  refine q_load (v := (0, v, 0)) (p2 := 22) rfl rfl rfl rfl ?_
  refine q_load (v := (0, 10, 0)) (p2 := 23) rfl rfl rfl rfl ?_
  refine q_idr9 (z := v / 10) (p2 := 24) rfl (by omega) (by omega) (by omega) rfl rfl ?_
  refine q_const (p2 := 25) rfl rfl ?_
  refine q_idr10 (z := (v / 10) % 10) (p2 := 26) rfl (by omega) (by omega) (by omega) rfl rfl ?_
  refine q_iaddz (z := (v / 10) % 10 + 48) (p2 := 27) rfl (by omega) (by omega) rfl ?_
  refine q_callrE (xs := [(0, (v / 10) % 10 + 48, 0), (6, 0, 0)]) (p2 := 28) rfl rfl rfl rfl (fun _ _ => rfl) rfl (zc_put hH2 hB2 (by omega) (by omega)) (Nat.le_refl _) (Nat.le_refl _) rfl (fun φ3 hR3 => ?_)
  obtain ⟨tpq3, hH3, hB3, hc3, hq3, fr3⟩ := hR3
  refine q_iop (w := 1 &&& 1) (z := 1) (p2 := 29) rfl (xo_and 1 1) (by decide) rfl ?_
  refine q_store (loc2 := [(6, 0, 0), (0, v, 0), (0, 1, 0), (0, 1000, 0), (0, 10, 0)]) (p2 := 30) rfl rfl rfl rfl rfl ?_
  refine q_load (v := (0, 10, 0)) (p2 := 31) rfl rfl rfl rfl ?_
  refine q_const (p2 := 32) rfl rfl ?_
  refine q_iop (w := 10 / 10) (z := 1) (p2 := 33) rfl (xo_div (by decide) (by decide) (by decide)) (by decide) rfl ?_
  refine q_store (loc2 := [(6, 0, 0), (0, v, 0), (0, 1, 0), (0, 1000, 0), (0, 1, 0)]) (p2 := 34) rfl rfl rfl rfl rfl ?_
  refine q_goto rfl ?_
  refine q_load (v := (0, 1, 0)) (p2 := 17) rfl rfl rfl rfl ?_
  refine q_if0_s (p2 := 18) rfl (by decide) (by omega) rfl (fun hb => absurd hb (show ¬ (¬ (0 < 1)) by omega)) (fun _ => ?_)
  refine q_load (v := (0, 1, 0)) (p2 := 19) rfl rfl rfl rfl ?_
  refine q_load (v := (6, 0, 0)) (p2 := 20) rfl rfl rfl rfl ?_
  refine q_const (p2 := 21) rfl rfl ?_
  refine q_load (v := (0, v, 0)) (p2 := 22) rfl rfl rfl rfl ?_
  refine q_load (v := (0, 1, 0)) (p2 := 23) rfl rfl rfl rfl ?_
  refine q_idr9 (z := v / 1) (p2 := 24) rfl (by omega) (by omega) (by omega) rfl rfl ?_
  refine q_const (p2 := 25) rfl rfl ?_
  refine q_idr10 (z := (v / 1) % 10) (p2 := 26) rfl (by omega) (by omega) (by omega) rfl rfl ?_
  refine q_iaddz (z := (v / 1) % 10 + 48) (p2 := 27) rfl (by omega) (by omega) rfl ?_
  refine q_callrE (xs := [(0, (v / 1) % 10 + 48, 0), (6, 0, 0)]) (p2 := 28) rfl rfl rfl rfl (fun _ _ => rfl) rfl (zc_put hH3 hB3 (by omega) (by omega)) (Nat.le_refl _) (Nat.le_refl _) rfl (fun φ4 hR4 => ?_)
  obtain ⟨tpq4, hH4, hB4, hc4, hq4, fr4⟩ := hR4
  refine q_iop (w := 1 &&& 1) (z := 1) (p2 := 29) rfl (xo_and 1 1) (by decide) rfl ?_
  refine q_store (loc2 := [(6, 0, 0), (0, v, 0), (0, 1, 0), (0, 1000, 0), (0, 1, 0)]) (p2 := 30) rfl rfl rfl rfl rfl ?_
  refine q_load (v := (0, 1, 0)) (p2 := 31) rfl rfl rfl rfl ?_
  refine q_const (p2 := 32) rfl rfl ?_
  refine q_iop (w := 1 / 10) (z := 0) (p2 := 33) rfl (xo_div (by decide) (by decide) (by decide)) (by decide) rfl ?_
  refine q_store (loc2 := [(6, 0, 0), (0, v, 0), (0, 1, 0), (0, 1000, 0), (0, 0, 0)]) (p2 := 34) rfl rfl rfl rfl rfl ?_
  refine q_goto rfl ?_
  refine q_load (v := (0, 0, 0)) (p2 := 17) rfl rfl rfl rfl ?_
  refine q_if0_s (p2 := 18) rfl (by decide) (by omega) rfl (fun _ => ?_) (fun hb => absurd (show ¬ (0 < 0) by omega) hb)
  refine q_load (v := (0, 1, 0)) (p2 := 36) rfl rfl rfl rfl ?_
  exact q_retv (v := (0, 1, 0)) rfl rfl (⟨rfl, rfl, rfl, rfl, _, hH4, hB4, ((hq4 0 (by omega)).trans ((hq3 0 (by omega)).trans ((hq2 0 (by omega)).trans hc1))), ((hq4 1 (by omega)).trans ((hq3 1 (by omega)).trans hc2)), ((hq4 2 (by omega)).trans hc3), hc4, fun j hj0 hj1 => ((fr4 j (by omega) (by omega)).trans ((fr3 j (by omega) (by omega)).trans ((fr2 j (by omega) (by omega)).trans (fr1 j (by omega) (by omega)))))⟩)
theorem zc_pn_1_1 {d n sl : Nat} {φ : FH} {hand lf ie : Nat} {tp : Nat → Nat} {v : Nat} {u0 : Nat} (hH : zq_H φ 1 hand lf ie) (hB : zq_tp φ tp) (hv : 0 ≤ v ∧ v ≤ 9) (hu0 : tp 0 = u0) : x_f x_P (d + 4) 5 [(6, 0, 0), (0, v, 0), (11, 0, 0), (11, 0, 0), (11, 0, 0)] φ n sl (x_rR (0, 1, 0) n sl (fun φ2 => ∃ tp2, zq_H φ2 2 hand lf ie ∧ zq_tp φ2 tp2 ∧ tp2 0 = u0 ∧ tp2 1 = (v / 1) % 10 + 48 ∧ ∀ j, j ≠ 0 → j ≠ 1 → φ2 j = φ j)) := by
  refine x_f_of rfl ?_
  refine q_const (p2 := 1) rfl rfl ?_
  refine q_store (loc2 := [(6, 0, 0), (0, v, 0), (0, 1, 0), (11, 0, 0), (11, 0, 0)]) (p2 := 2) rfl rfl rfl rfl rfl ?_
  refine q_const (p2 := 3) rfl rfl ?_
  refine q_store (loc2 := [(6, 0, 0), (0, v, 0), (0, 1, 0), (0, 1, 0), (11, 0, 0)]) (p2 := 4) rfl rfl rfl rfl rfl ?_
  refine q_load (v := (0, v, 0)) (p2 := 5) rfl rfl rfl rfl ?_
  refine q_load (v := (0, 1, 0)) (p2 := 6) rfl rfl rfl rfl ?_
  refine q_idr9 (z := v / 1) (p2 := 7) rfl (by omega) (by omega) (by omega) rfl rfl ?_
  refine q_const (p2 := 8) rfl rfl ?_
  refine q_icmp_s (p2 := 9) rfl (by decide) (by omega) (by omega) rfl (fun _ => ?_) (fun hb => absurd (show ¬ (9 < (v / 1)) by omega) hb)
  refine q_load (v := (0, 1, 0)) (p2 := 15) rfl rfl rfl rfl ?_
  refine q_store (loc2 := [(6, 0, 0), (0, v, 0), (0, 1, 0), (0, 1, 0), (0, 1, 0)]) (p2 := 16) rfl rfl rfl rfl rfl ?_
  refine q_load (v := (0, 1, 0)) (p2 := 17) rfl rfl rfl rfl ?_
  refine q_if0_s (p2 := 18) rfl (by decide) (by omega) rfl (fun hb => absurd hb (show ¬ (¬ (0 < 1)) by omega)) (fun _ => ?_)
  refine q_load (v := (0, 1, 0)) (p2 := 19) rfl rfl rfl rfl ?_
  refine q_load (v := (6, 0, 0)) (p2 := 20) rfl rfl rfl rfl ?_
  refine q_const (p2 := 21) rfl rfl ?_
  refine q_load (v := (0, v, 0)) (p2 := 22) rfl rfl rfl rfl ?_
  refine q_load (v := (0, 1, 0)) (p2 := 23) rfl rfl rfl rfl ?_
  refine q_idr9 (z := v / 1) (p2 := 24) rfl (by omega) (by omega) (by omega) rfl rfl ?_
  refine q_const (p2 := 25) rfl rfl ?_
  refine q_idr10 (z := (v / 1) % 10) (p2 := 26) rfl (by omega) (by omega) (by omega) rfl rfl ?_
  refine q_iaddz (z := (v / 1) % 10 + 48) (p2 := 27) rfl (by omega) (by omega) rfl ?_
  refine q_callrE (xs := [(0, (v / 1) % 10 + 48, 0), (6, 0, 0)]) (p2 := 28) rfl rfl rfl rfl (fun _ _ => rfl) rfl (zc_put hH hB (by omega) (by omega)) (Nat.le_refl _) (Nat.le_refl _) rfl (fun φ1 hR1 => ?_)
  obtain ⟨tpq1, hH1, hB1, hc1, hq1, fr1⟩ := hR1
  refine q_iop (w := 1 &&& 1) (z := 1) (p2 := 29) rfl (xo_and 1 1) (by decide) rfl ?_
  refine q_store (loc2 := [(6, 0, 0), (0, v, 0), (0, 1, 0), (0, 1, 0), (0, 1, 0)]) (p2 := 30) rfl rfl rfl rfl rfl ?_
  refine q_load (v := (0, 1, 0)) (p2 := 31) rfl rfl rfl rfl ?_
  refine q_const (p2 := 32) rfl rfl ?_
  refine q_iop (w := 1 / 10) (z := 0) (p2 := 33) rfl (xo_div (by decide) (by decide) (by decide)) (by decide) rfl ?_
  refine q_store (loc2 := [(6, 0, 0), (0, v, 0), (0, 1, 0), (0, 1, 0), (0, 0, 0)]) (p2 := 34) rfl rfl rfl rfl rfl ?_
  refine q_goto rfl ?_
  refine q_load (v := (0, 0, 0)) (p2 := 17) rfl rfl rfl rfl ?_
  refine q_if0_s (p2 := 18) rfl (by decide) (by omega) rfl (fun _ => ?_) (fun hb => absurd (show ¬ (0 < 0) by omega) hb)
  refine q_load (v := (0, 1, 0)) (p2 := 36) rfl rfl rfl rfl ?_
  exact q_retv (v := (0, 1, 0)) rfl rfl (⟨rfl, rfl, rfl, rfl, _, hH1, hB1, ((hq1 0 (by omega)).trans hu0), hc1, fun j hj0 hj1 => (fr1 j (by omega) (by omega))⟩)
theorem zc_pn_1_2 {d n sl : Nat} {φ : FH} {hand lf ie : Nat} {tp : Nat → Nat} {v : Nat} {u0 : Nat} {u1 : Nat} (hH : zq_H φ 2 hand lf ie) (hB : zq_tp φ tp) (hv : 0 ≤ v ∧ v ≤ 9) (hu0 : tp 0 = u0) (hu1 : tp 1 = u1) : x_f x_P (d + 4) 5 [(6, 0, 0), (0, v, 0), (11, 0, 0), (11, 0, 0), (11, 0, 0)] φ n sl (x_rR (0, 1, 0) n sl (fun φ2 => ∃ tp2, zq_H φ2 3 hand lf ie ∧ zq_tp φ2 tp2 ∧ tp2 0 = u0 ∧ tp2 1 = u1 ∧ tp2 2 = (v / 1) % 10 + 48 ∧ ∀ j, j ≠ 0 → j ≠ 1 → φ2 j = φ j)) := by
  refine x_f_of rfl ?_
  refine q_const (p2 := 1) rfl rfl ?_
  refine q_store (loc2 := [(6, 0, 0), (0, v, 0), (0, 1, 0), (11, 0, 0), (11, 0, 0)]) (p2 := 2) rfl rfl rfl rfl rfl ?_
  refine q_const (p2 := 3) rfl rfl ?_
  refine q_store (loc2 := [(6, 0, 0), (0, v, 0), (0, 1, 0), (0, 1, 0), (11, 0, 0)]) (p2 := 4) rfl rfl rfl rfl rfl ?_
  refine q_load (v := (0, v, 0)) (p2 := 5) rfl rfl rfl rfl ?_
  refine q_load (v := (0, 1, 0)) (p2 := 6) rfl rfl rfl rfl ?_
  refine q_idr9 (z := v / 1) (p2 := 7) rfl (by omega) (by omega) (by omega) rfl rfl ?_
  refine q_const (p2 := 8) rfl rfl ?_
  refine q_icmp_s (p2 := 9) rfl (by decide) (by omega) (by omega) rfl (fun _ => ?_) (fun hb => absurd (show ¬ (9 < (v / 1)) by omega) hb)
  refine q_load (v := (0, 1, 0)) (p2 := 15) rfl rfl rfl rfl ?_
  refine q_store (loc2 := [(6, 0, 0), (0, v, 0), (0, 1, 0), (0, 1, 0), (0, 1, 0)]) (p2 := 16) rfl rfl rfl rfl rfl ?_
  refine q_load (v := (0, 1, 0)) (p2 := 17) rfl rfl rfl rfl ?_
  refine q_if0_s (p2 := 18) rfl (by decide) (by omega) rfl (fun hb => absurd hb (show ¬ (¬ (0 < 1)) by omega)) (fun _ => ?_)
  refine q_load (v := (0, 1, 0)) (p2 := 19) rfl rfl rfl rfl ?_
  refine q_load (v := (6, 0, 0)) (p2 := 20) rfl rfl rfl rfl ?_
  refine q_const (p2 := 21) rfl rfl ?_
  refine q_load (v := (0, v, 0)) (p2 := 22) rfl rfl rfl rfl ?_
  refine q_load (v := (0, 1, 0)) (p2 := 23) rfl rfl rfl rfl ?_
  refine q_idr9 (z := v / 1) (p2 := 24) rfl (by omega) (by omega) (by omega) rfl rfl ?_
  refine q_const (p2 := 25) rfl rfl ?_
  refine q_idr10 (z := (v / 1) % 10) (p2 := 26) rfl (by omega) (by omega) (by omega) rfl rfl ?_
  refine q_iaddz (z := (v / 1) % 10 + 48) (p2 := 27) rfl (by omega) (by omega) rfl ?_
  refine q_callrE (xs := [(0, (v / 1) % 10 + 48, 0), (6, 0, 0)]) (p2 := 28) rfl rfl rfl rfl (fun _ _ => rfl) rfl (zc_put hH hB (by omega) (by omega)) (Nat.le_refl _) (Nat.le_refl _) rfl (fun φ1 hR1 => ?_)
  obtain ⟨tpq1, hH1, hB1, hc1, hq1, fr1⟩ := hR1
  refine q_iop (w := 1 &&& 1) (z := 1) (p2 := 29) rfl (xo_and 1 1) (by decide) rfl ?_
  refine q_store (loc2 := [(6, 0, 0), (0, v, 0), (0, 1, 0), (0, 1, 0), (0, 1, 0)]) (p2 := 30) rfl rfl rfl rfl rfl ?_
  refine q_load (v := (0, 1, 0)) (p2 := 31) rfl rfl rfl rfl ?_
  refine q_const (p2 := 32) rfl rfl ?_
  refine q_iop (w := 1 / 10) (z := 0) (p2 := 33) rfl (xo_div (by decide) (by decide) (by decide)) (by decide) rfl ?_
  refine q_store (loc2 := [(6, 0, 0), (0, v, 0), (0, 1, 0), (0, 1, 0), (0, 0, 0)]) (p2 := 34) rfl rfl rfl rfl rfl ?_
  refine q_goto rfl ?_
  refine q_load (v := (0, 0, 0)) (p2 := 17) rfl rfl rfl rfl ?_
  refine q_if0_s (p2 := 18) rfl (by decide) (by omega) rfl (fun _ => ?_) (fun hb => absurd (show ¬ (0 < 0) by omega) hb)
  refine q_load (v := (0, 1, 0)) (p2 := 36) rfl rfl rfl rfl ?_
  exact q_retv (v := (0, 1, 0)) rfl rfl (⟨rfl, rfl, rfl, rfl, _, hH1, hB1, ((hq1 0 (by omega)).trans hu0), ((hq1 1 (by omega)).trans hu1), hc1, fun j hj0 hj1 => (fr1 j (by omega) (by omega))⟩)
theorem zc_pn_1_5 {d n sl : Nat} {φ : FH} {hand lf ie : Nat} {tp : Nat → Nat} {v : Nat} {u0 : Nat} {u1 : Nat} {u2 : Nat} {u3 : Nat} {u4 : Nat} (hH : zq_H φ 5 hand lf ie) (hB : zq_tp φ tp) (hv : 0 ≤ v ∧ v ≤ 9) (hu0 : tp 0 = u0) (hu1 : tp 1 = u1) (hu2 : tp 2 = u2) (hu3 : tp 3 = u3) (hu4 : tp 4 = u4) : x_f x_P (d + 4) 5 [(6, 0, 0), (0, v, 0), (11, 0, 0), (11, 0, 0), (11, 0, 0)] φ n sl (x_rR (0, 1, 0) n sl (fun φ2 => ∃ tp2, zq_H φ2 6 hand lf ie ∧ zq_tp φ2 tp2 ∧ tp2 0 = u0 ∧ tp2 1 = u1 ∧ tp2 2 = u2 ∧ tp2 3 = u3 ∧ tp2 4 = u4 ∧ tp2 5 = (v / 1) % 10 + 48 ∧ ∀ j, j ≠ 0 → j ≠ 1 → φ2 j = φ j)) := by
  refine x_f_of rfl ?_
  refine q_const (p2 := 1) rfl rfl ?_
  refine q_store (loc2 := [(6, 0, 0), (0, v, 0), (0, 1, 0), (11, 0, 0), (11, 0, 0)]) (p2 := 2) rfl rfl rfl rfl rfl ?_
  refine q_const (p2 := 3) rfl rfl ?_
  refine q_store (loc2 := [(6, 0, 0), (0, v, 0), (0, 1, 0), (0, 1, 0), (11, 0, 0)]) (p2 := 4) rfl rfl rfl rfl rfl ?_
  refine q_load (v := (0, v, 0)) (p2 := 5) rfl rfl rfl rfl ?_
  refine q_load (v := (0, 1, 0)) (p2 := 6) rfl rfl rfl rfl ?_
  refine q_idr9 (z := v / 1) (p2 := 7) rfl (by omega) (by omega) (by omega) rfl rfl ?_
  refine q_const (p2 := 8) rfl rfl ?_
  refine q_icmp_s (p2 := 9) rfl (by decide) (by omega) (by omega) rfl (fun _ => ?_) (fun hb => absurd (show ¬ (9 < (v / 1)) by omega) hb)
  refine q_load (v := (0, 1, 0)) (p2 := 15) rfl rfl rfl rfl ?_
  refine q_store (loc2 := [(6, 0, 0), (0, v, 0), (0, 1, 0), (0, 1, 0), (0, 1, 0)]) (p2 := 16) rfl rfl rfl rfl rfl ?_
  refine q_load (v := (0, 1, 0)) (p2 := 17) rfl rfl rfl rfl ?_
  refine q_if0_s (p2 := 18) rfl (by decide) (by omega) rfl (fun hb => absurd hb (show ¬ (¬ (0 < 1)) by omega)) (fun _ => ?_)
  refine q_load (v := (0, 1, 0)) (p2 := 19) rfl rfl rfl rfl ?_
  refine q_load (v := (6, 0, 0)) (p2 := 20) rfl rfl rfl rfl ?_
  refine q_const (p2 := 21) rfl rfl ?_
  refine q_load (v := (0, v, 0)) (p2 := 22) rfl rfl rfl rfl ?_
  refine q_load (v := (0, 1, 0)) (p2 := 23) rfl rfl rfl rfl ?_
  refine q_idr9 (z := v / 1) (p2 := 24) rfl (by omega) (by omega) (by omega) rfl rfl ?_
  refine q_const (p2 := 25) rfl rfl ?_
  refine q_idr10 (z := (v / 1) % 10) (p2 := 26) rfl (by omega) (by omega) (by omega) rfl rfl ?_
  refine q_iaddz (z := (v / 1) % 10 + 48) (p2 := 27) rfl (by omega) (by omega) rfl ?_
  refine q_callrE (xs := [(0, (v / 1) % 10 + 48, 0), (6, 0, 0)]) (p2 := 28) rfl rfl rfl rfl (fun _ _ => rfl) rfl (zc_put hH hB (by omega) (by omega)) (Nat.le_refl _) (Nat.le_refl _) rfl (fun φ1 hR1 => ?_)
  obtain ⟨tpq1, hH1, hB1, hc1, hq1, fr1⟩ := hR1
  refine q_iop (w := 1 &&& 1) (z := 1) (p2 := 29) rfl (xo_and 1 1) (by decide) rfl ?_
  refine q_store (loc2 := [(6, 0, 0), (0, v, 0), (0, 1, 0), (0, 1, 0), (0, 1, 0)]) (p2 := 30) rfl rfl rfl rfl rfl ?_
  refine q_load (v := (0, 1, 0)) (p2 := 31) rfl rfl rfl rfl ?_
  refine q_const (p2 := 32) rfl rfl ?_
  refine q_iop (w := 1 / 10) (z := 0) (p2 := 33) rfl (xo_div (by decide) (by decide) (by decide)) (by decide) rfl ?_
  refine q_store (loc2 := [(6, 0, 0), (0, v, 0), (0, 1, 0), (0, 1, 0), (0, 0, 0)]) (p2 := 34) rfl rfl rfl rfl rfl ?_
  refine q_goto rfl ?_
  refine q_load (v := (0, 0, 0)) (p2 := 17) rfl rfl rfl rfl ?_
  refine q_if0_s (p2 := 18) rfl (by decide) (by omega) rfl (fun _ => ?_) (fun hb => absurd (show ¬ (0 < 0) by omega) hb)
  refine q_load (v := (0, 1, 0)) (p2 := 36) rfl rfl rfl rfl ?_
  exact q_retv (v := (0, 1, 0)) rfl rfl (⟨rfl, rfl, rfl, rfl, _, hH1, hB1, ((hq1 0 (by omega)).trans hu0), ((hq1 1 (by omega)).trans hu1), ((hq1 2 (by omega)).trans hu2), ((hq1 3 (by omega)).trans hu3), ((hq1 4 (by omega)).trans hu4), hc1, fun j hj0 hj1 => (fr1 j (by omega) (by omega))⟩)
theorem zc_pn_1_3 {d n sl : Nat} {φ : FH} {hand lf ie : Nat} {tp : Nat → Nat} {v : Nat} {u0 : Nat} {u1 : Nat} {u2 : Nat} (hH : zq_H φ 3 hand lf ie) (hB : zq_tp φ tp) (hv : 0 ≤ v ∧ v ≤ 9) (hu0 : tp 0 = u0) (hu1 : tp 1 = u1) (hu2 : tp 2 = u2) : x_f x_P (d + 4) 5 [(6, 0, 0), (0, v, 0), (11, 0, 0), (11, 0, 0), (11, 0, 0)] φ n sl (x_rR (0, 1, 0) n sl (fun φ2 => ∃ tp2, zq_H φ2 4 hand lf ie ∧ zq_tp φ2 tp2 ∧ tp2 0 = u0 ∧ tp2 1 = u1 ∧ tp2 2 = u2 ∧ tp2 3 = (v / 1) % 10 + 48 ∧ ∀ j, j ≠ 0 → j ≠ 1 → φ2 j = φ j)) := by
  refine x_f_of rfl ?_
  refine q_const (p2 := 1) rfl rfl ?_
  refine q_store (loc2 := [(6, 0, 0), (0, v, 0), (0, 1, 0), (11, 0, 0), (11, 0, 0)]) (p2 := 2) rfl rfl rfl rfl rfl ?_
  refine q_const (p2 := 3) rfl rfl ?_
  refine q_store (loc2 := [(6, 0, 0), (0, v, 0), (0, 1, 0), (0, 1, 0), (11, 0, 0)]) (p2 := 4) rfl rfl rfl rfl rfl ?_
  refine q_load (v := (0, v, 0)) (p2 := 5) rfl rfl rfl rfl ?_
  refine q_load (v := (0, 1, 0)) (p2 := 6) rfl rfl rfl rfl ?_
  refine q_idr9 (z := v / 1) (p2 := 7) rfl (by omega) (by omega) (by omega) rfl rfl ?_
  refine q_const (p2 := 8) rfl rfl ?_
  refine q_icmp_s (p2 := 9) rfl (by decide) (by omega) (by omega) rfl (fun _ => ?_) (fun hb => absurd (show ¬ (9 < (v / 1)) by omega) hb)
  refine q_load (v := (0, 1, 0)) (p2 := 15) rfl rfl rfl rfl ?_
  refine q_store (loc2 := [(6, 0, 0), (0, v, 0), (0, 1, 0), (0, 1, 0), (0, 1, 0)]) (p2 := 16) rfl rfl rfl rfl rfl ?_
  refine q_load (v := (0, 1, 0)) (p2 := 17) rfl rfl rfl rfl ?_
  refine q_if0_s (p2 := 18) rfl (by decide) (by omega) rfl (fun hb => absurd hb (show ¬ (¬ (0 < 1)) by omega)) (fun _ => ?_)
  refine q_load (v := (0, 1, 0)) (p2 := 19) rfl rfl rfl rfl ?_
  refine q_load (v := (6, 0, 0)) (p2 := 20) rfl rfl rfl rfl ?_
  refine q_const (p2 := 21) rfl rfl ?_
  refine q_load (v := (0, v, 0)) (p2 := 22) rfl rfl rfl rfl ?_
  refine q_load (v := (0, 1, 0)) (p2 := 23) rfl rfl rfl rfl ?_
  refine q_idr9 (z := v / 1) (p2 := 24) rfl (by omega) (by omega) (by omega) rfl rfl ?_
  refine q_const (p2 := 25) rfl rfl ?_
  refine q_idr10 (z := (v / 1) % 10) (p2 := 26) rfl (by omega) (by omega) (by omega) rfl rfl ?_
  refine q_iaddz (z := (v / 1) % 10 + 48) (p2 := 27) rfl (by omega) (by omega) rfl ?_
  refine q_callrE (xs := [(0, (v / 1) % 10 + 48, 0), (6, 0, 0)]) (p2 := 28) rfl rfl rfl rfl (fun _ _ => rfl) rfl (zc_put hH hB (by omega) (by omega)) (Nat.le_refl _) (Nat.le_refl _) rfl (fun φ1 hR1 => ?_)
  obtain ⟨tpq1, hH1, hB1, hc1, hq1, fr1⟩ := hR1
  refine q_iop (w := 1 &&& 1) (z := 1) (p2 := 29) rfl (xo_and 1 1) (by decide) rfl ?_
  refine q_store (loc2 := [(6, 0, 0), (0, v, 0), (0, 1, 0), (0, 1, 0), (0, 1, 0)]) (p2 := 30) rfl rfl rfl rfl rfl ?_
  refine q_load (v := (0, 1, 0)) (p2 := 31) rfl rfl rfl rfl ?_
  refine q_const (p2 := 32) rfl rfl ?_
  refine q_iop (w := 1 / 10) (z := 0) (p2 := 33) rfl (xo_div (by decide) (by decide) (by decide)) (by decide) rfl ?_
  refine q_store (loc2 := [(6, 0, 0), (0, v, 0), (0, 1, 0), (0, 1, 0), (0, 0, 0)]) (p2 := 34) rfl rfl rfl rfl rfl ?_
  refine q_goto rfl ?_
  refine q_load (v := (0, 0, 0)) (p2 := 17) rfl rfl rfl rfl ?_
  refine q_if0_s (p2 := 18) rfl (by decide) (by omega) rfl (fun _ => ?_) (fun hb => absurd (show ¬ (0 < 0) by omega) hb)
  refine q_load (v := (0, 1, 0)) (p2 := 36) rfl rfl rfl rfl ?_
  exact q_retv (v := (0, 1, 0)) rfl rfl (⟨rfl, rfl, rfl, rfl, _, hH1, hB1, ((hq1 0 (by omega)).trans hu0), ((hq1 1 (by omega)).trans hu1), ((hq1 2 (by omega)).trans hu2), hc1, fun j hj0 hj1 => (fr1 j (by omega) (by omega))⟩)
theorem zc_pn_1_4 {d n sl : Nat} {φ : FH} {hand lf ie : Nat} {tp : Nat → Nat} {v : Nat} {u0 : Nat} {u1 : Nat} {u2 : Nat} {u3 : Nat} (hH : zq_H φ 4 hand lf ie) (hB : zq_tp φ tp) (hv : 0 ≤ v ∧ v ≤ 9) (hu0 : tp 0 = u0) (hu1 : tp 1 = u1) (hu2 : tp 2 = u2) (hu3 : tp 3 = u3) : x_f x_P (d + 4) 5 [(6, 0, 0), (0, v, 0), (11, 0, 0), (11, 0, 0), (11, 0, 0)] φ n sl (x_rR (0, 1, 0) n sl (fun φ2 => ∃ tp2, zq_H φ2 5 hand lf ie ∧ zq_tp φ2 tp2 ∧ tp2 0 = u0 ∧ tp2 1 = u1 ∧ tp2 2 = u2 ∧ tp2 3 = u3 ∧ tp2 4 = (v / 1) % 10 + 48 ∧ ∀ j, j ≠ 0 → j ≠ 1 → φ2 j = φ j)) := by
  refine x_f_of rfl ?_
  refine q_const (p2 := 1) rfl rfl ?_
  refine q_store (loc2 := [(6, 0, 0), (0, v, 0), (0, 1, 0), (11, 0, 0), (11, 0, 0)]) (p2 := 2) rfl rfl rfl rfl rfl ?_
  refine q_const (p2 := 3) rfl rfl ?_
  refine q_store (loc2 := [(6, 0, 0), (0, v, 0), (0, 1, 0), (0, 1, 0), (11, 0, 0)]) (p2 := 4) rfl rfl rfl rfl rfl ?_
  refine q_load (v := (0, v, 0)) (p2 := 5) rfl rfl rfl rfl ?_
  refine q_load (v := (0, 1, 0)) (p2 := 6) rfl rfl rfl rfl ?_
  refine q_idr9 (z := v / 1) (p2 := 7) rfl (by omega) (by omega) (by omega) rfl rfl ?_
  refine q_const (p2 := 8) rfl rfl ?_
  refine q_icmp_s (p2 := 9) rfl (by decide) (by omega) (by omega) rfl (fun _ => ?_) (fun hb => absurd (show ¬ (9 < (v / 1)) by omega) hb)
  refine q_load (v := (0, 1, 0)) (p2 := 15) rfl rfl rfl rfl ?_
  refine q_store (loc2 := [(6, 0, 0), (0, v, 0), (0, 1, 0), (0, 1, 0), (0, 1, 0)]) (p2 := 16) rfl rfl rfl rfl rfl ?_
  refine q_load (v := (0, 1, 0)) (p2 := 17) rfl rfl rfl rfl ?_
  refine q_if0_s (p2 := 18) rfl (by decide) (by omega) rfl (fun hb => absurd hb (show ¬ (¬ (0 < 1)) by omega)) (fun _ => ?_)
  refine q_load (v := (0, 1, 0)) (p2 := 19) rfl rfl rfl rfl ?_
  refine q_load (v := (6, 0, 0)) (p2 := 20) rfl rfl rfl rfl ?_
  refine q_const (p2 := 21) rfl rfl ?_
  refine q_load (v := (0, v, 0)) (p2 := 22) rfl rfl rfl rfl ?_
  refine q_load (v := (0, 1, 0)) (p2 := 23) rfl rfl rfl rfl ?_
  refine q_idr9 (z := v / 1) (p2 := 24) rfl (by omega) (by omega) (by omega) rfl rfl ?_
  refine q_const (p2 := 25) rfl rfl ?_
  refine q_idr10 (z := (v / 1) % 10) (p2 := 26) rfl (by omega) (by omega) (by omega) rfl rfl ?_
  refine q_iaddz (z := (v / 1) % 10 + 48) (p2 := 27) rfl (by omega) (by omega) rfl ?_
  refine q_callrE (xs := [(0, (v / 1) % 10 + 48, 0), (6, 0, 0)]) (p2 := 28) rfl rfl rfl rfl (fun _ _ => rfl) rfl (zc_put hH hB (by omega) (by omega)) (Nat.le_refl _) (Nat.le_refl _) rfl (fun φ1 hR1 => ?_)
  obtain ⟨tpq1, hH1, hB1, hc1, hq1, fr1⟩ := hR1
  refine q_iop (w := 1 &&& 1) (z := 1) (p2 := 29) rfl (xo_and 1 1) (by decide) rfl ?_
  refine q_store (loc2 := [(6, 0, 0), (0, v, 0), (0, 1, 0), (0, 1, 0), (0, 1, 0)]) (p2 := 30) rfl rfl rfl rfl rfl ?_
  refine q_load (v := (0, 1, 0)) (p2 := 31) rfl rfl rfl rfl ?_
  refine q_const (p2 := 32) rfl rfl ?_
  refine q_iop (w := 1 / 10) (z := 0) (p2 := 33) rfl (xo_div (by decide) (by decide) (by decide)) (by decide) rfl ?_
  refine q_store (loc2 := [(6, 0, 0), (0, v, 0), (0, 1, 0), (0, 1, 0), (0, 0, 0)]) (p2 := 34) rfl rfl rfl rfl rfl ?_
  refine q_goto rfl ?_
  refine q_load (v := (0, 0, 0)) (p2 := 17) rfl rfl rfl rfl ?_
  refine q_if0_s (p2 := 18) rfl (by decide) (by omega) rfl (fun _ => ?_) (fun hb => absurd (show ¬ (0 < 0) by omega) hb)
  refine q_load (v := (0, 1, 0)) (p2 := 36) rfl rfl rfl rfl ?_
  exact q_retv (v := (0, 1, 0)) rfl rfl (⟨rfl, rfl, rfl, rfl, _, hH1, hB1, ((hq1 0 (by omega)).trans hu0), ((hq1 1 (by omega)).trans hu1), ((hq1 2 (by omega)).trans hu2), ((hq1 3 (by omega)).trans hu3), hc1, fun j hj0 hj1 => (fr1 j (by omega) (by omega))⟩)
theorem zc_pn_1_8 {d n sl : Nat} {φ : FH} {hand lf ie : Nat} {tp : Nat → Nat} {v : Nat} {u0 : Nat} {u1 : Nat} {u2 : Nat} {u3 : Nat} {u4 : Nat} {u5 : Nat} {u6 : Nat} {u7 : Nat} (hH : zq_H φ 8 hand lf ie) (hB : zq_tp φ tp) (hv : 0 ≤ v ∧ v ≤ 9) (hu0 : tp 0 = u0) (hu1 : tp 1 = u1) (hu2 : tp 2 = u2) (hu3 : tp 3 = u3) (hu4 : tp 4 = u4) (hu5 : tp 5 = u5) (hu6 : tp 6 = u6) (hu7 : tp 7 = u7) : x_f x_P (d + 4) 5 [(6, 0, 0), (0, v, 0), (11, 0, 0), (11, 0, 0), (11, 0, 0)] φ n sl (x_rR (0, 1, 0) n sl (fun φ2 => ∃ tp2, zq_H φ2 9 hand lf ie ∧ zq_tp φ2 tp2 ∧ tp2 0 = u0 ∧ tp2 1 = u1 ∧ tp2 2 = u2 ∧ tp2 3 = u3 ∧ tp2 4 = u4 ∧ tp2 5 = u5 ∧ tp2 6 = u6 ∧ tp2 7 = u7 ∧ tp2 8 = (v / 1) % 10 + 48 ∧ ∀ j, j ≠ 0 → j ≠ 1 → φ2 j = φ j)) := by
  refine x_f_of rfl ?_
  refine q_const (p2 := 1) rfl rfl ?_
  refine q_store (loc2 := [(6, 0, 0), (0, v, 0), (0, 1, 0), (11, 0, 0), (11, 0, 0)]) (p2 := 2) rfl rfl rfl rfl rfl ?_
  refine q_const (p2 := 3) rfl rfl ?_
  refine q_store (loc2 := [(6, 0, 0), (0, v, 0), (0, 1, 0), (0, 1, 0), (11, 0, 0)]) (p2 := 4) rfl rfl rfl rfl rfl ?_
  refine q_load (v := (0, v, 0)) (p2 := 5) rfl rfl rfl rfl ?_
  refine q_load (v := (0, 1, 0)) (p2 := 6) rfl rfl rfl rfl ?_
  refine q_idr9 (z := v / 1) (p2 := 7) rfl (by omega) (by omega) (by omega) rfl rfl ?_
  refine q_const (p2 := 8) rfl rfl ?_
  refine q_icmp_s (p2 := 9) rfl (by decide) (by omega) (by omega) rfl (fun _ => ?_) (fun hb => absurd (show ¬ (9 < (v / 1)) by omega) hb)
  refine q_load (v := (0, 1, 0)) (p2 := 15) rfl rfl rfl rfl ?_
  refine q_store (loc2 := [(6, 0, 0), (0, v, 0), (0, 1, 0), (0, 1, 0), (0, 1, 0)]) (p2 := 16) rfl rfl rfl rfl rfl ?_
  refine q_load (v := (0, 1, 0)) (p2 := 17) rfl rfl rfl rfl ?_
  refine q_if0_s (p2 := 18) rfl (by decide) (by omega) rfl (fun hb => absurd hb (show ¬ (¬ (0 < 1)) by omega)) (fun _ => ?_)
  refine q_load (v := (0, 1, 0)) (p2 := 19) rfl rfl rfl rfl ?_
  refine q_load (v := (6, 0, 0)) (p2 := 20) rfl rfl rfl rfl ?_
  refine q_const (p2 := 21) rfl rfl ?_
  refine q_load (v := (0, v, 0)) (p2 := 22) rfl rfl rfl rfl ?_
  refine q_load (v := (0, 1, 0)) (p2 := 23) rfl rfl rfl rfl ?_
  refine q_idr9 (z := v / 1) (p2 := 24) rfl (by omega) (by omega) (by omega) rfl rfl ?_
  refine q_const (p2 := 25) rfl rfl ?_
  refine q_idr10 (z := (v / 1) % 10) (p2 := 26) rfl (by omega) (by omega) (by omega) rfl rfl ?_
  refine q_iaddz (z := (v / 1) % 10 + 48) (p2 := 27) rfl (by omega) (by omega) rfl ?_
  refine q_callrE (xs := [(0, (v / 1) % 10 + 48, 0), (6, 0, 0)]) (p2 := 28) rfl rfl rfl rfl (fun _ _ => rfl) rfl (zc_put hH hB (by omega) (by omega)) (Nat.le_refl _) (Nat.le_refl _) rfl (fun φ1 hR1 => ?_)
  obtain ⟨tpq1, hH1, hB1, hc1, hq1, fr1⟩ := hR1
  refine q_iop (w := 1 &&& 1) (z := 1) (p2 := 29) rfl (xo_and 1 1) (by decide) rfl ?_
  refine q_store (loc2 := [(6, 0, 0), (0, v, 0), (0, 1, 0), (0, 1, 0), (0, 1, 0)]) (p2 := 30) rfl rfl rfl rfl rfl ?_
  refine q_load (v := (0, 1, 0)) (p2 := 31) rfl rfl rfl rfl ?_
  refine q_const (p2 := 32) rfl rfl ?_
  refine q_iop (w := 1 / 10) (z := 0) (p2 := 33) rfl (xo_div (by decide) (by decide) (by decide)) (by decide) rfl ?_
  refine q_store (loc2 := [(6, 0, 0), (0, v, 0), (0, 1, 0), (0, 1, 0), (0, 0, 0)]) (p2 := 34) rfl rfl rfl rfl rfl ?_
  refine q_goto rfl ?_
  refine q_load (v := (0, 0, 0)) (p2 := 17) rfl rfl rfl rfl ?_
  refine q_if0_s (p2 := 18) rfl (by decide) (by omega) rfl (fun _ => ?_) (fun hb => absurd (show ¬ (0 < 0) by omega) hb)
  refine q_load (v := (0, 1, 0)) (p2 := 36) rfl rfl rfl rfl ?_
  exact q_retv (v := (0, 1, 0)) rfl rfl (⟨rfl, rfl, rfl, rfl, _, hH1, hB1, ((hq1 0 (by omega)).trans hu0), ((hq1 1 (by omega)).trans hu1), ((hq1 2 (by omega)).trans hu2), ((hq1 3 (by omega)).trans hu3), ((hq1 4 (by omega)).trans hu4), ((hq1 5 (by omega)).trans hu5), ((hq1 6 (by omega)).trans hu6), ((hq1 7 (by omega)).trans hu7), hc1, fun j hj0 hj1 => (fr1 j (by omega) (by omega))⟩)
theorem zc_h_count9 {d n sl : Nat} {φ : FH} {tpd : Nat} {hand : Nat} {lf : Nat} {ie : Nat} {A : Nat} {B : Nat} {made : Nat} {sv : Nat} {svm : Nat} {s9 : Nat} {comb : Nat → Nat} {hm : Nat → MV} (hH : zq_H φ tpd hand lf ie) (hPS : x_PS φ A B made sv svm s9 comb hm)  : x_f x_P (d + 1) 30 [(6, 0, 0), (0, 9, 0), (11, 0, 0)] φ n sl (x_r φ n sl (0, tpd, 0)) := by
  refine x_f_of rfl ?_
  refine x_n_lt (fun hlt0 => ?_)
  refine q_load (v := (6, 0, 0)) (p2 := 1) rfl rfl rfl rfl ?_
  refine q_getv (v := (6, 7, 0)) (p2 := 2) rfl hH (by decide) rfl rfl ?_
  refine q_getv (v := (6, 237, 0)) (p2 := 3) rfl hPS.1.choose_spec.1 (by decide) hPS.1.choose_spec.2.1 rfl ?_
  refine q_store (loc2 := [(6, 0, 0), (0, 9, 0), (6, 237, 0)]) (p2 := 4) rfl rfl rfl rfl rfl ?_
  refine q_load (v := (0, 9, 0)) (p2 := 5) rfl rfl rfl rfl ?_
  refine q_switch (tgt := 45) rfl (by decide) rfl ?_
  refine q_load (v := (6, 0, 0)) (p2 := 46) rfl rfl rfl rfl ?_
  refine q_getv (v := (0, tpd, 0)) (p2 := 47) rfl hH (by decide) rfl rfl ?_
  exact q_retv (v := (0, tpd, 0)) rfl rfl (⟨rfl, rfl, rfl, rfl, rfl⟩)
theorem zc_h_cut_all {d n sl : Nat} {φ : FH} {tpd : Nat} {hand : Nat} {lf : Nat} {ie : Nat} (hH : zq_H φ tpd hand lf ie) (hc0 : tpd < 2147483648) : x_f x_P (d + 1) 21 [(6, 0, 0), (0, tpd, 0)] φ n sl (x_rR (0, 0, 0) n sl (fun φ2 => zq_H φ2 0 hand lf ie ∧ ∀ j, j ≠ 0 → φ2 j = φ j)) := by
  refine x_f_of rfl ?_
  refine q_load (v := (0, tpd, 0)) (p2 := 1) rfl rfl rfl rfl ?_
  refine q_if0_s (p2 := 2) rfl (by decide) (by omega) rfl (fun hb => absurd hb (show ¬ (tpd < 0) by omega)) (fun _ => ?_)
  refine q_load (v := (0, tpd, 0)) (p2 := 3) rfl rfl rfl rfl ?_
  refine q_load (v := (6, 0, 0)) (p2 := 4) rfl rfl rfl rfl ?_
  refine q_getv (v := (0, tpd, 0)) (p2 := 5) rfl hH (by decide) rfl rfl ?_
  refine q_icmp_s (p2 := 6) rfl (by decide) (by omega) (by omega) rfl (fun _ => ?_) (fun hb => absurd (show ¬ (tpd < tpd) by omega) hb)
  refine q_load (v := (6, 0, 0)) (p2 := 9) rfl rfl rfl rfl ?_
  refine q_dup (p2 := 10) rfl rfl rfl ?_
  refine q_getv (v := (0, tpd, 0)) (p2 := 11) rfl hH (by decide) rfl rfl ?_
  refine q_load (v := (0, tpd, 0)) (p2 := 12) rfl rfl rfl rfl ?_
  refine q_isubz (z := 0) (p2 := 13) rfl (by omega) (by omega) rfl ?_
  refine q_putfE (v := (0, 0, 0)) (p2 := 14) rfl hH (by decide) rfl rfl (fun φ1 f1 hh1 hg1 ho1 fr1 => ?_)
  have hs1 := zq_H_put_0_1 hH hh1 hg1 ho1 fr1
  refine q_load (v := (6, 0, 0)) (p2 := 15) rfl rfl rfl rfl ?_
  refine q_getv (v := (0, 0, 0)) (p2 := 16) rfl hs1 (by decide) rfl rfl ?_
  exact q_retv (v := (0, 0, 0)) rfl rfl (⟨rfl, rfl, rfl, rfl, hs1, fun j hj0 => (fr1 j (by omega))⟩)
theorem zc_done {d n sl : Nat} {φ : FH} {tpd : Nat} {hand : Nat} {lf : Nat} {ie : Nat} {A : Nat} {B : Nat} {made : Nat} {sv : Nat} {svm : Nat} {s9 : Nat} {comb : Nat → Nat} {hm : Nat → MV} {aa : Nat} (hH : zq_H φ tpd hand lf ie) (hPS : x_PS φ A B made sv svm s9 comb hm) (hc0 : tpd < 3000) : x_f x_P (d + 2) 7 [(6, 0, 0), (0, aa, 0), (11, 0, 0)] φ n sl (x_rR (0, aa, 0) n sl (fun φ2 => zq_H φ2 0 hand lf ie ∧ ∀ j, j ≠ 0 → φ2 j = φ j)) := by
  refine x_f_of rfl ?_
  refine x_n_lt (fun hlt0 => ?_)
  refine q_load (v := (6, 0, 0)) (p2 := 1) rfl rfl rfl rfl ?_
  refine q_load (v := (6, 0, 0)) (p2 := 2) rfl rfl rfl rfl ?_
  refine q_const (p2 := 3) rfl rfl ?_
  refine q_callr (xs := [(0, 9, 0), (6, 0, 0)]) (p2 := 4) rfl rfl rfl rfl (x_rcv_s 0 hH) rfl (zc_h_count9 hH hPS) (Nat.le_refl _) (Nat.le_refl _) rfl ?_
  refine q_callrE (xs := [(0, tpd, 0), (6, 0, 0)]) (p2 := 5) rfl rfl rfl rfl (x_rcv_s 0 hH) rfl (zc_h_cut_all hH (by omega)) (Nat.le_refl _) (Nat.le_refl _) rfl (fun φ1 hR1 => ?_)
  obtain ⟨hs1_0, fr1⟩ := hR1
  refine q_store (loc2 := [(6, 0, 0), (0, aa, 0), (0, 0, 0)]) (p2 := 6) rfl rfl rfl rfl rfl ?_
  refine q_load (v := (0, 0, 0)) (p2 := 7) rfl rfl rfl rfl ?_
  refine q_if0_s (p2 := 8) rfl (by decide) (by omega) rfl (fun hb => absurd hb (show ¬ (¬ (0 = 0)) by omega)) (fun _ => ?_)
  refine q_load (v := (0, aa, 0)) (p2 := 9) rfl rfl rfl rfl ?_
  refine q_goto rfl ?_
  exact q_retv (v := (0, aa, 0)) rfl rfl (⟨rfl, rfl, rfl, rfl, hs1_0, fun j hj0 => (fr1 j (by omega))⟩)
theorem zc_h_rx_whole1 {d n sl : Nat} {φ : FH} {hand : Nat} {lf : Nat} {ie : Nat} {tp : Nat → Nat} {tot : Nat} {at_ : Nat} {cur : Nat} {pl : Nat} {va : Nat} {fa : Nat} {fp : Nat} {sf : Nat} {sp : Nat} {no : Nat} {op : Nat} {K : Nat → Nat} {P : Nat → Nat} {V : Nat → Nat} {bi : Nat} {top : Nat} {hid : Nat} {lc : Nat} {slo : Nat} {own : Nat} {sk : Nat} {fr : Nat} {pc_ : Nat} {mm : Nat} {mi : Nat} {st : Nat → Nat} {lo : Nat → Nat} {re : Nat → Nat} {rs : Nat → Nat} {fl : Nat → Nat} {se : Nat → Nat} {co : Nat → Nat} {A : Nat} {B : Nat} {made : Nat} {sv : Nat} {svm : Nat} {s9 : Nat} {comb : Nat → Nat} {hm : Nat → MV} {d1 : Nat} {ktop : Nat} (hH : zq_H φ 1 hand lf ie) (hB : zq_tp φ tp) (hT : zq_T φ tot at_ cur pl va fa fp sf sp no op K P V) (hE : zq_E φ bi top hid lc slo own sk) (hKS : x_KS φ ktop fr pc_ mm mi st lo re rs fl se co) (hPS : x_PS φ A B made sv svm s9 comb hm) (hN : zq_nm φ) (hc0 : tp 0 = d1) (hc1 : 48 ≤ d1 ∧ d1 ≤ 57) : x_f x_P (d + 10) 54 [(6, 0, 0), (11, 0, 0), (11, 0, 0)] φ n sl (x_rR (0, 60, 0) n sl (fun φ2 => zq_H φ2 0 hand 0 ie ∧ zq_T φ2 2 1 0 1 0 0 fp 0 sp 1 0 (x_s (x_s K 0 2) 1 0) (x_s (x_s P 0 0) 1 1) (x_s (x_s V 0 (0 + d1 - 48)) 1 0) ∧ zq_E φ2 1 65 0 0 0 4294967293 0 ∧ x_KS φ2 ktop fr pc_ mm mi st lo re rs fl se (x_s (x_s (x_s (x_s (x_s (x_s co 60 1) 61 0) 61 1) 62 3) 63 (0 + d1 - 48)) 64 31) ∧ ∀ j, j ≠ 0 → j ≠ 2 → j ≠ 4 → j ≠ 5 → j ≠ 6 → j ≠ 232 → j ≠ 450 → φ2 j = φ j)) := by
  refine x_f_of rfl ?_
  refine x_n_lt (fun hlt0 => ?_)
  refine q_load (v := (6, 0, 0)) (p2 := 1) rfl rfl rfl rfl ?_
  refine q_getv (v := (6, 2, 0)) (p2 := 2) rfl hH (by decide) rfl rfl ?_
  refine q_load (v := (6, 0, 0)) (p2 := 3) rfl rfl rfl rfl ?_
  refine q_getv (v := (6, 1, 0)) (p2 := 4) rfl hH (by decide) rfl rfl ?_
  refine q_load (v := (6, 0, 0)) (p2 := 5) rfl rfl rfl rfl ?_
  refine q_getv (v := (0, 1, 0)) (p2 := 6) rfl hH (by decide) rfl rfl ?_
  refine q_callvE (xs := [(0, 1, 0), (6, 1, 0), (6, 2, 0)]) (p2 := 7) rfl rfl rfl rfl (x_rcv_s 2 hT.1) rfl (zc_t_load_whole1 hT hB hc0 (by omega)) (Nat.le_refl _) (Nat.le_refl _) rfl (fun φ1 hR1 => ?_)
  obtain ⟨hs1_0, fr1⟩ := hR1
  refine q_load (v := (6, 0, 0)) (p2 := 8) rfl rfl rfl rfl ?_
  refine q_const (p2 := 9) rfl rfl ?_
  have hm2 := (zq_H_at hH (fr1 0 (by decide) (by decide) (by decide) (by decide)))
  refine q_putfE (v := (0, 0, 0)) (p2 := 10) rfl hm2 (by decide) rfl rfl (fun φ3 f3 hh3 hg3 ho3 fr3 => ?_)
  have hs3 := zq_H_put_0_1 hm2 hh3 hg3 ho3 fr3
  refine q_load (v := (6, 0, 0)) (p2 := 11) rfl rfl rfl rfl ?_
  refine q_getv (v := (6, 232, 0)) (p2 := 12) rfl hs3 (by decide) rfl rfl ?_
  refine q_load (v := (6, 0, 0)) (p2 := 13) rfl rfl rfl rfl ?_
  refine q_getv (v := (6, 7, 0)) (p2 := 14) rfl hs3 (by decide) rfl rfl ?_
  refine x_n_lt (fun hlt5 => ?_)
  have hm4 := (x_PS_at hPS (fun j hj hne => by have hj2 := x_some_lt hlt0 hne; exact ((fr3 j (by omega)).trans (fr1 j (by omega) (by omega) (by omega) (by omega)))))
  refine q_getv (v := (6, 237, 0)) (p2 := 15) rfl hm4.1.choose_spec.1 (by decide) hm4.1.choose_spec.2.1 rfl ?_
  have hm6 := (zq_T_at hs1_0 (fr3 2 (by decide)) (fr3 3 (by decide)) (fr3 4 (by decide)) (fr3 5 (by decide)) (fr3 6 (by decide)))
  have hm7 := (zq_E_at hE ((fr3 232 (by decide)).trans (fr1 232 (by decide) (by decide) (by decide) (by decide))))
  have hm8 := (x_KS_at2 hKS (fun j h1 h2 h3 h4 => ((fr3 j (by omega)).trans (fr1 j (by omega) (by omega) (by omega) (by omega)))))
  have hm9 := (zq_nm_at hN ((fr3 239 (by decide)).trans (fr1 239 (by decide) (by decide) (by decide) (by decide))) ((fr3 242 (by decide)).trans (fr1 242 (by decide) (by decide) (by decide) (by decide))) ((fr3 244 (by decide)).trans (fr1 244 (by decide) (by decide) (by decide) (by decide))))
  refine q_callrE (xs := [(6, 237, 0), (6, 232, 0)]) (p2 := 16) rfl rfl rfl rfl (x_rcv_s 232 hm7) rfl (zc_x_alone_whole hm6 hm7 hm8.2.2.2.2.2.2.2.1 hm8.2.2.2.2.2.2.2.2.2 hm9 (x_s_eq) (by omega)) (Nat.le_refl _) (Nat.le_refl _) rfl (fun φ10 hR10 => ?_)
  obtain ⟨hs10_0, hs10_1, hs10_2, fr10⟩ := hR10
  have hKc10 := x_KS_co hm8 hs10_2 (fun j h1 h2 h3 => (fr10 j (by omega) (by omega) (by omega)))
  refine q_store (loc2 := [(6, 0, 0), (0, 60, 0), (11, 0, 0)]) (p2 := 17) rfl rfl rfl rfl rfl ?_
  refine q_load (v := (6, 0, 0)) (p2 := 18) rfl rfl rfl rfl ?_
  have hm11 := (zq_H_at hs3 (fr10 0 (by decide) (by decide) (by decide)))
  refine q_getv (v := (6, 2, 0)) (p2 := 19) rfl hm11 (by decide) rfl rfl ?_
  refine q_callr (xs := [(6, 2, 0)]) (p2 := 20) rfl rfl rfl rfl (x_rcv_s 2 hs10_0.1) rfl (zc_t_out0 hs10_0) (Nat.le_refl _) (Nat.le_refl _) rfl ?_
  refine q_store (loc2 := [(6, 0, 0), (0, 60, 0), (0, 0, 0)]) (p2 := 21) rfl rfl rfl rfl rfl ?_
  refine q_load (v := (6, 0, 0)) (p2 := 22) rfl rfl rfl rfl ?_
  refine q_load (v := (6, 0, 0)) (p2 := 23) rfl rfl rfl rfl ?_
  refine q_getv (v := (6, 2, 0)) (p2 := 24) rfl hm11 (by decide) rfl rfl ?_
  refine q_getv (v := (0, 0, 0)) (p2 := 25) rfl hs10_0.1 (by decide) rfl rfl ?_
  refine q_putfE (v := (0, 0, 0)) (p2 := 26) rfl hm11 (by decide) rfl rfl (fun φ12 f12 hh12 hg12 ho12 fr12 => ?_)
  have hs12 := zq_H_put_0_13 hm11 hh12 hg12 ho12 fr12
  refine q_load (v := (0, 0, 0)) (p2 := 27) rfl rfl rfl rfl ?_
  refine q_if0_s (p2 := 28) rfl (by decide) (by omega) rfl (fun _ => ?_) (fun hb => absurd (show ¬ (0 < 0) by omega) hb)
  refine q_load (v := (0, 60, 0)) (p2 := 31) rfl rfl rfl rfl ?_
  have hm13 := (zq_T_at hs10_0 (fr12 2 (by decide)) (fr12 3 (by decide)) (fr12 4 (by decide)) (fr12 5 (by decide)) (fr12 6 (by decide)))
  have hm14 := (zq_E_at hs10_1 (fr12 232 (by decide)))
  have hm15 := (x_KS_at2 hKc10 (fun j h1 h2 h3 h4 => (fr12 j (by omega))))
  exact q_retv (v := (0, 60, 0)) rfl rfl (⟨rfl, rfl, rfl, rfl, hs12, hm13, hm14, hm15, fun j hj0 hj1 hj2 hj3 hj4 hj5 hj6 => ((fr12 j (by omega)).trans ((fr10 j (by omega) (by omega) (by omega)).trans ((fr3 j (by omega)).trans (fr1 j (by omega) (by omega) (by omega) (by omega)))))⟩)
theorem zc_h_rx_whole2 {d n sl : Nat} {φ : FH} {hand : Nat} {lf : Nat} {ie : Nat} {tp : Nat → Nat} {tot : Nat} {at_ : Nat} {cur : Nat} {pl : Nat} {va : Nat} {fa : Nat} {fp : Nat} {sf : Nat} {sp : Nat} {no : Nat} {op : Nat} {K : Nat → Nat} {P : Nat → Nat} {V : Nat → Nat} {bi : Nat} {top : Nat} {hid : Nat} {lc : Nat} {slo : Nat} {own : Nat} {sk : Nat} {fr : Nat} {pc_ : Nat} {mm : Nat} {mi : Nat} {st : Nat → Nat} {lo : Nat → Nat} {re : Nat → Nat} {rs : Nat → Nat} {fl : Nat → Nat} {se : Nat → Nat} {co : Nat → Nat} {A : Nat} {B : Nat} {made : Nat} {sv : Nat} {svm : Nat} {s9 : Nat} {comb : Nat → Nat} {hm : Nat → MV} {d1 : Nat} {d2 : Nat} {ktop : Nat} (hH : zq_H φ 2 hand lf ie) (hB : zq_tp φ tp) (hT : zq_T φ tot at_ cur pl va fa fp sf sp no op K P V) (hE : zq_E φ bi top hid lc slo own sk) (hKS : x_KS φ ktop fr pc_ mm mi st lo re rs fl se co) (hPS : x_PS φ A B made sv svm s9 comb hm) (hN : zq_nm φ) (hc0 : tp 0 = d1) (hc1 : tp 1 = d2) (hc2 : 48 ≤ d1 ∧ d1 ≤ 57 ∧ 48 ≤ d2 ∧ d2 ≤ 57) : x_f x_P (d + 10) 54 [(6, 0, 0), (11, 0, 0), (11, 0, 0)] φ n sl (x_rR (0, 60, 0) n sl (fun φ2 => zq_H φ2 0 hand 0 ie ∧ zq_T φ2 2 1 0 2 0 0 fp 0 sp 1 0 (x_s (x_s K 0 2) 1 0) (x_s (x_s P 0 0) 1 2) (x_s (x_s V 0 ((((0 + d1) - 48) * 10) + d2 - 48)) 1 0) ∧ zq_E φ2 1 65 0 0 0 4294967293 0 ∧ x_KS φ2 ktop fr pc_ mm mi st lo re rs fl se (x_s (x_s (x_s (x_s (x_s (x_s co 60 1) 61 0) 61 1) 62 3) 63 ((((0 + d1) - 48) * 10) + d2 - 48)) 64 31) ∧ ∀ j, j ≠ 0 → j ≠ 2 → j ≠ 4 → j ≠ 5 → j ≠ 6 → j ≠ 232 → j ≠ 450 → φ2 j = φ j)) := by
  refine x_f_of rfl ?_
  refine x_n_lt (fun hlt0 => ?_)
  refine q_load (v := (6, 0, 0)) (p2 := 1) rfl rfl rfl rfl ?_
  refine q_getv (v := (6, 2, 0)) (p2 := 2) rfl hH (by decide) rfl rfl ?_
  refine q_load (v := (6, 0, 0)) (p2 := 3) rfl rfl rfl rfl ?_
  refine q_getv (v := (6, 1, 0)) (p2 := 4) rfl hH (by decide) rfl rfl ?_
  refine q_load (v := (6, 0, 0)) (p2 := 5) rfl rfl rfl rfl ?_
  refine q_getv (v := (0, 2, 0)) (p2 := 6) rfl hH (by decide) rfl rfl ?_
  refine q_callvE (xs := [(0, 2, 0), (6, 1, 0), (6, 2, 0)]) (p2 := 7) rfl rfl rfl rfl (x_rcv_s 2 hT.1) rfl (zc_t_load_whole2 hT hB hc0 hc1 (by omega)) (Nat.le_refl _) (Nat.le_refl _) rfl (fun φ1 hR1 => ?_)
  obtain ⟨hs1_0, fr1⟩ := hR1
  refine q_load (v := (6, 0, 0)) (p2 := 8) rfl rfl rfl rfl ?_
  refine q_const (p2 := 9) rfl rfl ?_
  have hm2 := (zq_H_at hH (fr1 0 (by decide) (by decide) (by decide) (by decide)))
  refine q_putfE (v := (0, 0, 0)) (p2 := 10) rfl hm2 (by decide) rfl rfl (fun φ3 f3 hh3 hg3 ho3 fr3 => ?_)
  have hs3 := zq_H_put_0_1 hm2 hh3 hg3 ho3 fr3
  refine q_load (v := (6, 0, 0)) (p2 := 11) rfl rfl rfl rfl ?_
  refine q_getv (v := (6, 232, 0)) (p2 := 12) rfl hs3 (by decide) rfl rfl ?_
  refine q_load (v := (6, 0, 0)) (p2 := 13) rfl rfl rfl rfl ?_
  refine q_getv (v := (6, 7, 0)) (p2 := 14) rfl hs3 (by decide) rfl rfl ?_
  refine x_n_lt (fun hlt5 => ?_)
  have hm4 := (x_PS_at hPS (fun j hj hne => by have hj2 := x_some_lt hlt0 hne; exact ((fr3 j (by omega)).trans (fr1 j (by omega) (by omega) (by omega) (by omega)))))
  refine q_getv (v := (6, 237, 0)) (p2 := 15) rfl hm4.1.choose_spec.1 (by decide) hm4.1.choose_spec.2.1 rfl ?_
  have hm6 := (zq_T_at hs1_0 (fr3 2 (by decide)) (fr3 3 (by decide)) (fr3 4 (by decide)) (fr3 5 (by decide)) (fr3 6 (by decide)))
  have hm7 := (zq_E_at hE ((fr3 232 (by decide)).trans (fr1 232 (by decide) (by decide) (by decide) (by decide))))
  have hm8 := (x_KS_at2 hKS (fun j h1 h2 h3 h4 => ((fr3 j (by omega)).trans (fr1 j (by omega) (by omega) (by omega) (by omega)))))
  have hm9 := (zq_nm_at hN ((fr3 239 (by decide)).trans (fr1 239 (by decide) (by decide) (by decide) (by decide))) ((fr3 242 (by decide)).trans (fr1 242 (by decide) (by decide) (by decide) (by decide))) ((fr3 244 (by decide)).trans (fr1 244 (by decide) (by decide) (by decide) (by decide))))
  refine q_callrE (xs := [(6, 237, 0), (6, 232, 0)]) (p2 := 16) rfl rfl rfl rfl (x_rcv_s 232 hm7) rfl (zc_x_alone_whole hm6 hm7 hm8.2.2.2.2.2.2.2.1 hm8.2.2.2.2.2.2.2.2.2 hm9 (x_s_eq) (by omega)) (Nat.le_refl _) (Nat.le_refl _) rfl (fun φ10 hR10 => ?_)
  obtain ⟨hs10_0, hs10_1, hs10_2, fr10⟩ := hR10
  have hKc10 := x_KS_co hm8 hs10_2 (fun j h1 h2 h3 => (fr10 j (by omega) (by omega) (by omega)))
  refine q_store (loc2 := [(6, 0, 0), (0, 60, 0), (11, 0, 0)]) (p2 := 17) rfl rfl rfl rfl rfl ?_
  refine q_load (v := (6, 0, 0)) (p2 := 18) rfl rfl rfl rfl ?_
  have hm11 := (zq_H_at hs3 (fr10 0 (by decide) (by decide) (by decide)))
  refine q_getv (v := (6, 2, 0)) (p2 := 19) rfl hm11 (by decide) rfl rfl ?_
  refine q_callr (xs := [(6, 2, 0)]) (p2 := 20) rfl rfl rfl rfl (x_rcv_s 2 hs10_0.1) rfl (zc_t_out0 hs10_0) (Nat.le_refl _) (Nat.le_refl _) rfl ?_
  refine q_store (loc2 := [(6, 0, 0), (0, 60, 0), (0, 0, 0)]) (p2 := 21) rfl rfl rfl rfl rfl ?_
  refine q_load (v := (6, 0, 0)) (p2 := 22) rfl rfl rfl rfl ?_
  refine q_load (v := (6, 0, 0)) (p2 := 23) rfl rfl rfl rfl ?_
  refine q_getv (v := (6, 2, 0)) (p2 := 24) rfl hm11 (by decide) rfl rfl ?_
  refine q_getv (v := (0, 0, 0)) (p2 := 25) rfl hs10_0.1 (by decide) rfl rfl ?_
  refine q_putfE (v := (0, 0, 0)) (p2 := 26) rfl hm11 (by decide) rfl rfl (fun φ12 f12 hh12 hg12 ho12 fr12 => ?_)
  have hs12 := zq_H_put_0_13 hm11 hh12 hg12 ho12 fr12
  refine q_load (v := (0, 0, 0)) (p2 := 27) rfl rfl rfl rfl ?_
  refine q_if0_s (p2 := 28) rfl (by decide) (by omega) rfl (fun _ => ?_) (fun hb => absurd (show ¬ (0 < 0) by omega) hb)
  refine q_load (v := (0, 60, 0)) (p2 := 31) rfl rfl rfl rfl ?_
  have hm13 := (zq_T_at hs10_0 (fr12 2 (by decide)) (fr12 3 (by decide)) (fr12 4 (by decide)) (fr12 5 (by decide)) (fr12 6 (by decide)))
  have hm14 := (zq_E_at hs10_1 (fr12 232 (by decide)))
  have hm15 := (x_KS_at2 hKc10 (fun j h1 h2 h3 h4 => (fr12 j (by omega))))
  exact q_retv (v := (0, 60, 0)) rfl rfl (⟨rfl, rfl, rfl, rfl, hs12, hm13, hm14, hm15, fun j hj0 hj1 hj2 hj3 hj4 hj5 hj6 => ((fr12 j (by omega)).trans ((fr10 j (by omega) (by omega) (by omega)).trans ((fr3 j (by omega)).trans (fr1 j (by omega) (by omega) (by omega) (by omega)))))⟩)
theorem zc_h_rx_whole3 {d n sl : Nat} {φ : FH} {hand : Nat} {lf : Nat} {ie : Nat} {tp : Nat → Nat} {tot : Nat} {at_ : Nat} {cur : Nat} {pl : Nat} {va : Nat} {fa : Nat} {fp : Nat} {sf : Nat} {sp : Nat} {no : Nat} {op : Nat} {K : Nat → Nat} {P : Nat → Nat} {V : Nat → Nat} {bi : Nat} {top : Nat} {hid : Nat} {lc : Nat} {slo : Nat} {own : Nat} {sk : Nat} {fr : Nat} {pc_ : Nat} {mm : Nat} {mi : Nat} {st : Nat → Nat} {lo : Nat → Nat} {re : Nat → Nat} {rs : Nat → Nat} {fl : Nat → Nat} {se : Nat → Nat} {co : Nat → Nat} {A : Nat} {B : Nat} {made : Nat} {sv : Nat} {svm : Nat} {s9 : Nat} {comb : Nat → Nat} {hm : Nat → MV} {d1 : Nat} {d2 : Nat} {d3 : Nat} {ktop : Nat} (hH : zq_H φ 3 hand lf ie) (hB : zq_tp φ tp) (hT : zq_T φ tot at_ cur pl va fa fp sf sp no op K P V) (hE : zq_E φ bi top hid lc slo own sk) (hKS : x_KS φ ktop fr pc_ mm mi st lo re rs fl se co) (hPS : x_PS φ A B made sv svm s9 comb hm) (hN : zq_nm φ) (hc0 : tp 0 = d1) (hc1 : tp 1 = d2) (hc2 : tp 2 = d3) (hc3 : 48 ≤ d1 ∧ d1 ≤ 57 ∧ 48 ≤ d2 ∧ d2 ≤ 57 ∧ 48 ≤ d3 ∧ d3 ≤ 57) : x_f x_P (d + 10) 54 [(6, 0, 0), (11, 0, 0), (11, 0, 0)] φ n sl (x_rR (0, 60, 0) n sl (fun φ2 => zq_H φ2 0 hand 0 ie ∧ zq_T φ2 2 1 0 3 0 0 fp 0 sp 1 0 (x_s (x_s K 0 2) 1 0) (x_s (x_s P 0 0) 1 3) (x_s (x_s V 0 (((((((0 + d1) - 48) * 10) + d2) - 48) * 10) + d3 - 48)) 1 0) ∧ zq_E φ2 1 65 0 0 0 4294967293 0 ∧ x_KS φ2 ktop fr pc_ mm mi st lo re rs fl se (x_s (x_s (x_s (x_s (x_s (x_s co 60 1) 61 0) 61 1) 62 3) 63 (((((((0 + d1) - 48) * 10) + d2) - 48) * 10) + d3 - 48)) 64 31) ∧ ∀ j, j ≠ 0 → j ≠ 2 → j ≠ 4 → j ≠ 5 → j ≠ 6 → j ≠ 232 → j ≠ 450 → φ2 j = φ j)) := by
  refine x_f_of rfl ?_
  refine x_n_lt (fun hlt0 => ?_)
  refine q_load (v := (6, 0, 0)) (p2 := 1) rfl rfl rfl rfl ?_
  refine q_getv (v := (6, 2, 0)) (p2 := 2) rfl hH (by decide) rfl rfl ?_
  refine q_load (v := (6, 0, 0)) (p2 := 3) rfl rfl rfl rfl ?_
  refine q_getv (v := (6, 1, 0)) (p2 := 4) rfl hH (by decide) rfl rfl ?_
  refine q_load (v := (6, 0, 0)) (p2 := 5) rfl rfl rfl rfl ?_
  refine q_getv (v := (0, 3, 0)) (p2 := 6) rfl hH (by decide) rfl rfl ?_
  refine q_callvE (xs := [(0, 3, 0), (6, 1, 0), (6, 2, 0)]) (p2 := 7) rfl rfl rfl rfl (x_rcv_s 2 hT.1) rfl (zc_t_load_whole3 hT hB hc0 hc1 hc2 (by omega)) (Nat.le_refl _) (Nat.le_refl _) rfl (fun φ1 hR1 => ?_)
  obtain ⟨hs1_0, fr1⟩ := hR1
  refine q_load (v := (6, 0, 0)) (p2 := 8) rfl rfl rfl rfl ?_
  refine q_const (p2 := 9) rfl rfl ?_
  have hm2 := (zq_H_at hH (fr1 0 (by decide) (by decide) (by decide) (by decide)))
  refine q_putfE (v := (0, 0, 0)) (p2 := 10) rfl hm2 (by decide) rfl rfl (fun φ3 f3 hh3 hg3 ho3 fr3 => ?_)
  have hs3 := zq_H_put_0_1 hm2 hh3 hg3 ho3 fr3
  refine q_load (v := (6, 0, 0)) (p2 := 11) rfl rfl rfl rfl ?_
  refine q_getv (v := (6, 232, 0)) (p2 := 12) rfl hs3 (by decide) rfl rfl ?_
  refine q_load (v := (6, 0, 0)) (p2 := 13) rfl rfl rfl rfl ?_
  refine q_getv (v := (6, 7, 0)) (p2 := 14) rfl hs3 (by decide) rfl rfl ?_
  refine x_n_lt (fun hlt5 => ?_)
  have hm4 := (x_PS_at hPS (fun j hj hne => by have hj2 := x_some_lt hlt0 hne; exact ((fr3 j (by omega)).trans (fr1 j (by omega) (by omega) (by omega) (by omega)))))
  refine q_getv (v := (6, 237, 0)) (p2 := 15) rfl hm4.1.choose_spec.1 (by decide) hm4.1.choose_spec.2.1 rfl ?_
  have hm6 := (zq_T_at hs1_0 (fr3 2 (by decide)) (fr3 3 (by decide)) (fr3 4 (by decide)) (fr3 5 (by decide)) (fr3 6 (by decide)))
  have hm7 := (zq_E_at hE ((fr3 232 (by decide)).trans (fr1 232 (by decide) (by decide) (by decide) (by decide))))
  have hm8 := (x_KS_at2 hKS (fun j h1 h2 h3 h4 => ((fr3 j (by omega)).trans (fr1 j (by omega) (by omega) (by omega) (by omega)))))
  have hm9 := (zq_nm_at hN ((fr3 239 (by decide)).trans (fr1 239 (by decide) (by decide) (by decide) (by decide))) ((fr3 242 (by decide)).trans (fr1 242 (by decide) (by decide) (by decide) (by decide))) ((fr3 244 (by decide)).trans (fr1 244 (by decide) (by decide) (by decide) (by decide))))
  refine q_callrE (xs := [(6, 237, 0), (6, 232, 0)]) (p2 := 16) rfl rfl rfl rfl (x_rcv_s 232 hm7) rfl (zc_x_alone_whole hm6 hm7 hm8.2.2.2.2.2.2.2.1 hm8.2.2.2.2.2.2.2.2.2 hm9 (x_s_eq) (by omega)) (Nat.le_refl _) (Nat.le_refl _) rfl (fun φ10 hR10 => ?_)
  obtain ⟨hs10_0, hs10_1, hs10_2, fr10⟩ := hR10
  have hKc10 := x_KS_co hm8 hs10_2 (fun j h1 h2 h3 => (fr10 j (by omega) (by omega) (by omega)))
  refine q_store (loc2 := [(6, 0, 0), (0, 60, 0), (11, 0, 0)]) (p2 := 17) rfl rfl rfl rfl rfl ?_
  refine q_load (v := (6, 0, 0)) (p2 := 18) rfl rfl rfl rfl ?_
  have hm11 := (zq_H_at hs3 (fr10 0 (by decide) (by decide) (by decide)))
  refine q_getv (v := (6, 2, 0)) (p2 := 19) rfl hm11 (by decide) rfl rfl ?_
  refine q_callr (xs := [(6, 2, 0)]) (p2 := 20) rfl rfl rfl rfl (x_rcv_s 2 hs10_0.1) rfl (zc_t_out0 hs10_0) (Nat.le_refl _) (Nat.le_refl _) rfl ?_
  refine q_store (loc2 := [(6, 0, 0), (0, 60, 0), (0, 0, 0)]) (p2 := 21) rfl rfl rfl rfl rfl ?_
  refine q_load (v := (6, 0, 0)) (p2 := 22) rfl rfl rfl rfl ?_
  refine q_load (v := (6, 0, 0)) (p2 := 23) rfl rfl rfl rfl ?_
  refine q_getv (v := (6, 2, 0)) (p2 := 24) rfl hm11 (by decide) rfl rfl ?_
  refine q_getv (v := (0, 0, 0)) (p2 := 25) rfl hs10_0.1 (by decide) rfl rfl ?_
  refine q_putfE (v := (0, 0, 0)) (p2 := 26) rfl hm11 (by decide) rfl rfl (fun φ12 f12 hh12 hg12 ho12 fr12 => ?_)
  have hs12 := zq_H_put_0_13 hm11 hh12 hg12 ho12 fr12
  refine q_load (v := (0, 0, 0)) (p2 := 27) rfl rfl rfl rfl ?_
  refine q_if0_s (p2 := 28) rfl (by decide) (by omega) rfl (fun _ => ?_) (fun hb => absurd (show ¬ (0 < 0) by omega) hb)
  refine q_load (v := (0, 60, 0)) (p2 := 31) rfl rfl rfl rfl ?_
  have hm13 := (zq_T_at hs10_0 (fr12 2 (by decide)) (fr12 3 (by decide)) (fr12 4 (by decide)) (fr12 5 (by decide)) (fr12 6 (by decide)))
  have hm14 := (zq_E_at hs10_1 (fr12 232 (by decide)))
  have hm15 := (x_KS_at2 hKc10 (fun j h1 h2 h3 h4 => (fr12 j (by omega))))
  exact q_retv (v := (0, 60, 0)) rfl rfl (⟨rfl, rfl, rfl, rfl, hs12, hm13, hm14, hm15, fun j hj0 hj1 hj2 hj3 hj4 hj5 hj6 => ((fr12 j (by omega)).trans ((fr10 j (by omega) (by omega) (by omega)).trans ((fr3 j (by omega)).trans (fr1 j (by omega) (by omega) (by omega) (by omega)))))⟩)
theorem zc_h_rx_whole4 {d n sl : Nat} {φ : FH} {hand : Nat} {lf : Nat} {ie : Nat} {tp : Nat → Nat} {tot : Nat} {at_ : Nat} {cur : Nat} {pl : Nat} {va : Nat} {fa : Nat} {fp : Nat} {sf : Nat} {sp : Nat} {no : Nat} {op : Nat} {K : Nat → Nat} {P : Nat → Nat} {V : Nat → Nat} {bi : Nat} {top : Nat} {hid : Nat} {lc : Nat} {slo : Nat} {own : Nat} {sk : Nat} {fr : Nat} {pc_ : Nat} {mm : Nat} {mi : Nat} {st : Nat → Nat} {lo : Nat → Nat} {re : Nat → Nat} {rs : Nat → Nat} {fl : Nat → Nat} {se : Nat → Nat} {co : Nat → Nat} {A : Nat} {B : Nat} {made : Nat} {sv : Nat} {svm : Nat} {s9 : Nat} {comb : Nat → Nat} {hm : Nat → MV} {d1 : Nat} {d2 : Nat} {d3 : Nat} {d4 : Nat} {ktop : Nat} (hH : zq_H φ 4 hand lf ie) (hB : zq_tp φ tp) (hT : zq_T φ tot at_ cur pl va fa fp sf sp no op K P V) (hE : zq_E φ bi top hid lc slo own sk) (hKS : x_KS φ ktop fr pc_ mm mi st lo re rs fl se co) (hPS : x_PS φ A B made sv svm s9 comb hm) (hN : zq_nm φ) (hc0 : tp 0 = d1) (hc1 : tp 1 = d2) (hc2 : tp 2 = d3) (hc3 : tp 3 = d4) (hc4 : 48 ≤ d1 ∧ d1 ≤ 57 ∧ 48 ≤ d2 ∧ d2 ≤ 57 ∧ 48 ≤ d3 ∧ d3 ≤ 57 ∧ 48 ≤ d4 ∧ d4 ≤ 57) : x_f x_P (d + 10) 54 [(6, 0, 0), (11, 0, 0), (11, 0, 0)] φ n sl (x_rR (0, 60, 0) n sl (fun φ2 => zq_H φ2 0 hand 0 ie ∧ zq_T φ2 2 1 0 4 0 0 fp 0 sp 1 0 (x_s (x_s K 0 2) 1 0) (x_s (x_s P 0 0) 1 4) (x_s (x_s V 0 ((((((((((0 + d1) - 48) * 10) + d2) - 48) * 10) + d3) - 48) * 10) + d4 - 48)) 1 0) ∧ zq_E φ2 1 65 0 0 0 4294967293 0 ∧ x_KS φ2 ktop fr pc_ mm mi st lo re rs fl se (x_s (x_s (x_s (x_s (x_s (x_s co 60 1) 61 0) 61 1) 62 3) 63 ((((((((((0 + d1) - 48) * 10) + d2) - 48) * 10) + d3) - 48) * 10) + d4 - 48)) 64 31) ∧ ∀ j, j ≠ 0 → j ≠ 2 → j ≠ 4 → j ≠ 5 → j ≠ 6 → j ≠ 232 → j ≠ 450 → φ2 j = φ j)) := by
  refine x_f_of rfl ?_
  refine x_n_lt (fun hlt0 => ?_)
  refine q_load (v := (6, 0, 0)) (p2 := 1) rfl rfl rfl rfl ?_
  refine q_getv (v := (6, 2, 0)) (p2 := 2) rfl hH (by decide) rfl rfl ?_
  refine q_load (v := (6, 0, 0)) (p2 := 3) rfl rfl rfl rfl ?_
  refine q_getv (v := (6, 1, 0)) (p2 := 4) rfl hH (by decide) rfl rfl ?_
  refine q_load (v := (6, 0, 0)) (p2 := 5) rfl rfl rfl rfl ?_
  refine q_getv (v := (0, 4, 0)) (p2 := 6) rfl hH (by decide) rfl rfl ?_
  refine q_callvE (xs := [(0, 4, 0), (6, 1, 0), (6, 2, 0)]) (p2 := 7) rfl rfl rfl rfl (x_rcv_s 2 hT.1) rfl (zc_t_load_whole4 hT hB hc0 hc1 hc2 hc3 (by omega)) (Nat.le_refl _) (Nat.le_refl _) rfl (fun φ1 hR1 => ?_)
  obtain ⟨hs1_0, fr1⟩ := hR1
  refine q_load (v := (6, 0, 0)) (p2 := 8) rfl rfl rfl rfl ?_
  refine q_const (p2 := 9) rfl rfl ?_
  have hm2 := (zq_H_at hH (fr1 0 (by decide) (by decide) (by decide) (by decide)))
  refine q_putfE (v := (0, 0, 0)) (p2 := 10) rfl hm2 (by decide) rfl rfl (fun φ3 f3 hh3 hg3 ho3 fr3 => ?_)
  have hs3 := zq_H_put_0_1 hm2 hh3 hg3 ho3 fr3
  refine q_load (v := (6, 0, 0)) (p2 := 11) rfl rfl rfl rfl ?_
  refine q_getv (v := (6, 232, 0)) (p2 := 12) rfl hs3 (by decide) rfl rfl ?_
  refine q_load (v := (6, 0, 0)) (p2 := 13) rfl rfl rfl rfl ?_
  refine q_getv (v := (6, 7, 0)) (p2 := 14) rfl hs3 (by decide) rfl rfl ?_
  refine x_n_lt (fun hlt5 => ?_)
  have hm4 := (x_PS_at hPS (fun j hj hne => by have hj2 := x_some_lt hlt0 hne; exact ((fr3 j (by omega)).trans (fr1 j (by omega) (by omega) (by omega) (by omega)))))
  refine q_getv (v := (6, 237, 0)) (p2 := 15) rfl hm4.1.choose_spec.1 (by decide) hm4.1.choose_spec.2.1 rfl ?_
  have hm6 := (zq_T_at hs1_0 (fr3 2 (by decide)) (fr3 3 (by decide)) (fr3 4 (by decide)) (fr3 5 (by decide)) (fr3 6 (by decide)))
  have hm7 := (zq_E_at hE ((fr3 232 (by decide)).trans (fr1 232 (by decide) (by decide) (by decide) (by decide))))
  have hm8 := (x_KS_at2 hKS (fun j h1 h2 h3 h4 => ((fr3 j (by omega)).trans (fr1 j (by omega) (by omega) (by omega) (by omega)))))
  have hm9 := (zq_nm_at hN ((fr3 239 (by decide)).trans (fr1 239 (by decide) (by decide) (by decide) (by decide))) ((fr3 242 (by decide)).trans (fr1 242 (by decide) (by decide) (by decide) (by decide))) ((fr3 244 (by decide)).trans (fr1 244 (by decide) (by decide) (by decide) (by decide))))
  refine q_callrE (xs := [(6, 237, 0), (6, 232, 0)]) (p2 := 16) rfl rfl rfl rfl (x_rcv_s 232 hm7) rfl (zc_x_alone_whole hm6 hm7 hm8.2.2.2.2.2.2.2.1 hm8.2.2.2.2.2.2.2.2.2 hm9 (x_s_eq) (by omega)) (Nat.le_refl _) (Nat.le_refl _) rfl (fun φ10 hR10 => ?_)
  obtain ⟨hs10_0, hs10_1, hs10_2, fr10⟩ := hR10
  have hKc10 := x_KS_co hm8 hs10_2 (fun j h1 h2 h3 => (fr10 j (by omega) (by omega) (by omega)))
  refine q_store (loc2 := [(6, 0, 0), (0, 60, 0), (11, 0, 0)]) (p2 := 17) rfl rfl rfl rfl rfl ?_
  refine q_load (v := (6, 0, 0)) (p2 := 18) rfl rfl rfl rfl ?_
  have hm11 := (zq_H_at hs3 (fr10 0 (by decide) (by decide) (by decide)))
  refine q_getv (v := (6, 2, 0)) (p2 := 19) rfl hm11 (by decide) rfl rfl ?_
  refine q_callr (xs := [(6, 2, 0)]) (p2 := 20) rfl rfl rfl rfl (x_rcv_s 2 hs10_0.1) rfl (zc_t_out0 hs10_0) (Nat.le_refl _) (Nat.le_refl _) rfl ?_
  refine q_store (loc2 := [(6, 0, 0), (0, 60, 0), (0, 0, 0)]) (p2 := 21) rfl rfl rfl rfl rfl ?_
  refine q_load (v := (6, 0, 0)) (p2 := 22) rfl rfl rfl rfl ?_
  refine q_load (v := (6, 0, 0)) (p2 := 23) rfl rfl rfl rfl ?_
  refine q_getv (v := (6, 2, 0)) (p2 := 24) rfl hm11 (by decide) rfl rfl ?_
  refine q_getv (v := (0, 0, 0)) (p2 := 25) rfl hs10_0.1 (by decide) rfl rfl ?_
  refine q_putfE (v := (0, 0, 0)) (p2 := 26) rfl hm11 (by decide) rfl rfl (fun φ12 f12 hh12 hg12 ho12 fr12 => ?_)
  have hs12 := zq_H_put_0_13 hm11 hh12 hg12 ho12 fr12
  refine q_load (v := (0, 0, 0)) (p2 := 27) rfl rfl rfl rfl ?_
  refine q_if0_s (p2 := 28) rfl (by decide) (by omega) rfl (fun _ => ?_) (fun hb => absurd (show ¬ (0 < 0) by omega) hb)
  refine q_load (v := (0, 60, 0)) (p2 := 31) rfl rfl rfl rfl ?_
  have hm13 := (zq_T_at hs10_0 (fr12 2 (by decide)) (fr12 3 (by decide)) (fr12 4 (by decide)) (fr12 5 (by decide)) (fr12 6 (by decide)))
  have hm14 := (zq_E_at hs10_1 (fr12 232 (by decide)))
  have hm15 := (x_KS_at2 hKc10 (fun j h1 h2 h3 h4 => (fr12 j (by omega))))
  exact q_retv (v := (0, 60, 0)) rfl rfl (⟨rfl, rfl, rfl, rfl, hs12, hm13, hm14, hm15, fun j hj0 hj1 hj2 hj3 hj4 hj5 hj6 => ((fr12 j (by omega)).trans ((fr10 j (by omega) (by omega) (by omega)).trans ((fr3 j (by omega)).trans (fr1 j (by omega) (by omega) (by omega) (by omega)))))⟩)
theorem zc_h_rx_hash {d n sl : Nat} {φ : FH} {hand : Nat} {lf : Nat} {ie : Nat} {tp : Nat → Nat} {tot : Nat} {at_ : Nat} {cur : Nat} {pl : Nat} {va : Nat} {fa : Nat} {fp : Nat} {sf : Nat} {sp : Nat} {no : Nat} {op : Nat} {K : Nat → Nat} {P : Nat → Nat} {V : Nat → Nat} {bi : Nat} {top : Nat} {hid : Nat} {lc : Nat} {slo : Nat} {own : Nat} {sk : Nat} {fr : Nat} {pc_ : Nat} {mm : Nat} {mi : Nat} {st : Nat → Nat} {lo : Nat → Nat} {re : Nat → Nat} {rs : Nat → Nat} {fl : Nat → Nat} {se : Nat → Nat} {co : Nat → Nat} {A : Nat} {B : Nat} {made : Nat} {sv : Nat} {svm : Nat} {s9 : Nat} {comb : Nat → Nat} {hm : Nat → MV} {d1 : Nat} {ktop : Nat} (hH : zq_H φ 2 hand lf ie) (hB : zq_tp φ tp) (hT : zq_T φ tot at_ cur pl va fa fp sf sp no op K P V) (hE : zq_E φ bi top hid lc slo own sk) (hKS : x_KS φ ktop fr pc_ mm mi st lo re rs fl se co) (hPS : x_PS φ A B made sv svm s9 comb hm) (hN : zq_nm φ) (hc0 : tp 0 = 35) (hc1 : tp 1 = d1) (hc2 : 48 ≤ d1 ∧ d1 ≤ 57) : x_f x_P (d + 10) 54 [(6, 0, 0), (11, 0, 0), (11, 0, 0)] φ n sl (x_rR (0, 60, 0) n sl (fun φ2 => zq_H φ2 0 hand 0 ie ∧ zq_T φ2 3 2 0 2 0 0 fp 0 sp 1 0 (x_s (x_s (x_s K 0 82) 1 2) 2 0) (x_s (x_s (x_s P 0 0) 1 1) 2 2) (x_s (x_s (x_s V 0 0) 1 (0 + d1 - 48)) 2 0) ∧ zq_E φ2 1 65 0 0 0 4294967293 0 ∧ x_KS φ2 ktop fr pc_ mm mi st lo re rs fl se (x_s (x_s (x_s (x_s (x_s (x_s co 60 1) 61 0) 61 1) 62 7) 63 (0 + d1 - 48)) 64 31) ∧ ∀ j, j ≠ 0 → j ≠ 2 → j ≠ 4 → j ≠ 5 → j ≠ 6 → j ≠ 232 → j ≠ 450 → φ2 j = φ j)) := by
  refine x_f_of rfl ?_
  refine x_n_lt (fun hlt0 => ?_)
  refine q_load (v := (6, 0, 0)) (p2 := 1) rfl rfl rfl rfl ?_
  refine q_getv (v := (6, 2, 0)) (p2 := 2) rfl hH (by decide) rfl rfl ?_
  refine q_load (v := (6, 0, 0)) (p2 := 3) rfl rfl rfl rfl ?_
  refine q_getv (v := (6, 1, 0)) (p2 := 4) rfl hH (by decide) rfl rfl ?_
  refine q_load (v := (6, 0, 0)) (p2 := 5) rfl rfl rfl rfl ?_
  refine q_getv (v := (0, 2, 0)) (p2 := 6) rfl hH (by decide) rfl rfl ?_
  refine q_callvE (xs := [(0, 2, 0), (6, 1, 0), (6, 2, 0)]) (p2 := 7) rfl rfl rfl rfl (x_rcv_s 2 hT.1) rfl (zc_t_load_hash hT hB hc0 hc1 (by omega)) (Nat.le_refl _) (Nat.le_refl _) rfl (fun φ1 hR1 => ?_)
  obtain ⟨hs1_0, fr1⟩ := hR1
  refine q_load (v := (6, 0, 0)) (p2 := 8) rfl rfl rfl rfl ?_
  refine q_const (p2 := 9) rfl rfl ?_
  have hm2 := (zq_H_at hH (fr1 0 (by decide) (by decide) (by decide) (by decide)))
  refine q_putfE (v := (0, 0, 0)) (p2 := 10) rfl hm2 (by decide) rfl rfl (fun φ3 f3 hh3 hg3 ho3 fr3 => ?_)
  have hs3 := zq_H_put_0_1 hm2 hh3 hg3 ho3 fr3
  refine q_load (v := (6, 0, 0)) (p2 := 11) rfl rfl rfl rfl ?_
  refine q_getv (v := (6, 232, 0)) (p2 := 12) rfl hs3 (by decide) rfl rfl ?_
  refine q_load (v := (6, 0, 0)) (p2 := 13) rfl rfl rfl rfl ?_
  refine q_getv (v := (6, 7, 0)) (p2 := 14) rfl hs3 (by decide) rfl rfl ?_
  refine x_n_lt (fun hlt5 => ?_)
  have hm4 := (x_PS_at hPS (fun j hj hne => by have hj2 := x_some_lt hlt0 hne; exact ((fr3 j (by omega)).trans (fr1 j (by omega) (by omega) (by omega) (by omega)))))
  refine q_getv (v := (6, 237, 0)) (p2 := 15) rfl hm4.1.choose_spec.1 (by decide) hm4.1.choose_spec.2.1 rfl ?_
  have hm6 := (zq_T_at hs1_0 (fr3 2 (by decide)) (fr3 3 (by decide)) (fr3 4 (by decide)) (fr3 5 (by decide)) (fr3 6 (by decide)))
  have hm7 := (zq_E_at hE ((fr3 232 (by decide)).trans (fr1 232 (by decide) (by decide) (by decide) (by decide))))
  have hm8 := (x_KS_at2 hKS (fun j h1 h2 h3 h4 => ((fr3 j (by omega)).trans (fr1 j (by omega) (by omega) (by omega) (by omega)))))
  have hm9 := (zq_nm_at hN ((fr3 239 (by decide)).trans (fr1 239 (by decide) (by decide) (by decide) (by decide))) ((fr3 242 (by decide)).trans (fr1 242 (by decide) (by decide) (by decide) (by decide))) ((fr3 244 (by decide)).trans (fr1 244 (by decide) (by decide) (by decide) (by decide))))
  refine q_callrE (xs := [(6, 237, 0), (6, 232, 0)]) (p2 := 16) rfl rfl rfl rfl (x_rcv_s 232 hm7) rfl (zc_x_alone_hash hm6 hm7 hm8.2.2.2.2.2.2.2.1 hm8.2.2.2.2.2.2.2.2.2 hm9 ((x_s_ne (by decide)).trans (x_s_eq)) ((x_s_ne (by decide)).trans (x_s_eq)) (x_s_eq) (by omega)) (Nat.le_refl _) (Nat.le_refl _) rfl (fun φ10 hR10 => ?_)
  obtain ⟨hs10_0, hs10_1, hs10_2, fr10⟩ := hR10
  have hKc10 := x_KS_co hm8 hs10_2 (fun j h1 h2 h3 => (fr10 j (by omega) (by omega) (by omega)))
  refine q_store (loc2 := [(6, 0, 0), (0, 60, 0), (11, 0, 0)]) (p2 := 17) rfl rfl rfl rfl rfl ?_
  refine q_load (v := (6, 0, 0)) (p2 := 18) rfl rfl rfl rfl ?_
  have hm11 := (zq_H_at hs3 (fr10 0 (by decide) (by decide) (by decide)))
  refine q_getv (v := (6, 2, 0)) (p2 := 19) rfl hm11 (by decide) rfl rfl ?_
  refine q_callr (xs := [(6, 2, 0)]) (p2 := 20) rfl rfl rfl rfl (x_rcv_s 2 hs10_0.1) rfl (zc_t_out0 hs10_0) (Nat.le_refl _) (Nat.le_refl _) rfl ?_
  refine q_store (loc2 := [(6, 0, 0), (0, 60, 0), (0, 0, 0)]) (p2 := 21) rfl rfl rfl rfl rfl ?_
  refine q_load (v := (6, 0, 0)) (p2 := 22) rfl rfl rfl rfl ?_
  refine q_load (v := (6, 0, 0)) (p2 := 23) rfl rfl rfl rfl ?_
  refine q_getv (v := (6, 2, 0)) (p2 := 24) rfl hm11 (by decide) rfl rfl ?_
  refine q_getv (v := (0, 0, 0)) (p2 := 25) rfl hs10_0.1 (by decide) rfl rfl ?_
  refine q_putfE (v := (0, 0, 0)) (p2 := 26) rfl hm11 (by decide) rfl rfl (fun φ12 f12 hh12 hg12 ho12 fr12 => ?_)
  have hs12 := zq_H_put_0_13 hm11 hh12 hg12 ho12 fr12
  refine q_load (v := (0, 0, 0)) (p2 := 27) rfl rfl rfl rfl ?_
  refine q_if0_s (p2 := 28) rfl (by decide) (by omega) rfl (fun _ => ?_) (fun hb => absurd (show ¬ (0 < 0) by omega) hb)
  refine q_load (v := (0, 60, 0)) (p2 := 31) rfl rfl rfl rfl ?_
  have hm13 := (zq_T_at hs10_0 (fr12 2 (by decide)) (fr12 3 (by decide)) (fr12 4 (by decide)) (fr12 5 (by decide)) (fr12 6 (by decide)))
  have hm14 := (zq_E_at hs10_1 (fr12 232 (by decide)))
  have hm15 := (x_KS_at2 hKc10 (fun j h1 h2 h3 h4 => (fr12 j (by omega))))
  exact q_retv (v := (0, 60, 0)) rfl rfl (⟨rfl, rfl, rfl, rfl, hs12, hm13, hm14, hm15, fun j hj0 hj1 hj2 hj3 hj4 hj5 hj6 => ((fr12 j (by omega)).trans ((fr10 j (by omega) (by omega) (by omega)).trans ((fr3 j (by omega)).trans (fr1 j (by omega) (by omega) (by omega) (by omega)))))⟩)
theorem zc_h_rx_list {d n sl : Nat} {φ : FH} {hand : Nat} {lf : Nat} {ie : Nat} {tp : Nat → Nat} {tot : Nat} {at_ : Nat} {cur : Nat} {pl : Nat} {va : Nat} {fa : Nat} {fp : Nat} {sf : Nat} {sp : Nat} {no : Nat} {op : Nat} {K : Nat → Nat} {P : Nat → Nat} {V : Nat → Nat} {bi : Nat} {top : Nat} {hid : Nat} {lc : Nat} {slo : Nat} {own : Nat} {sk : Nat} {fr : Nat} {pc_ : Nat} {mm : Nat} {mi : Nat} {st : Nat → Nat} {lo : Nat → Nat} {re : Nat → Nat} {rs : Nat → Nat} {fl : Nat → Nat} {se : Nat → Nat} {co : Nat → Nat} {A : Nat} {B : Nat} {made : Nat} {sv : Nat} {svm : Nat} {s9 : Nat} {comb : Nat → Nat} {hm : Nat → MV} {d1 : Nat} {d2 : Nat} {ktop : Nat} (hH : zq_H φ 7 hand lf ie) (hB : zq_tp φ tp) (hT : zq_T φ tot at_ cur pl va fa fp sf sp no op K P V) (hE : zq_E φ bi top hid lc slo own sk) (hKS : x_KS φ ktop fr pc_ mm mi st lo re rs fl se co) (hPS : x_PS φ A B made sv svm s9 comb hm) (hN : zq_nm φ) (hc0 : tp 0 = 91) (hc1 : tp 1 = 35) (hc2 : tp 2 = d1) (hc3 : tp 3 = 44) (hc4 : tp 4 = 35) (hc5 : tp 5 = d2) (hc6 : tp 6 = 93) (hc7 : 48 ≤ d1 ∧ d1 ≤ 57 ∧ 48 ≤ d2 ∧ d2 ≤ 57) : x_f x_P (d + 18) 54 [(6, 0, 0), (11, 0, 0), (11, 0, 0)] φ n sl (x_rR (0, 60, 0) n sl (fun φ2 => zq_H φ2 0 hand 0 ie ∧ zq_T φ2 8 7 0 7 0 0 fp 0 sp 3 0 (x_s (x_s (x_s (x_s (x_s (x_s (x_s (x_s K 0 75) 1 82) 2 2) 3 77) 4 82) 5 2) 6 76) 7 0) (x_s (x_s (x_s (x_s (x_s (x_s (x_s (x_s P 0 0) 1 1) 2 2) 3 3) 4 4) 5 5) 6 6) 7 7) (x_s (x_s (x_s (x_s (x_s (x_s (x_s (x_s V 0 0) 1 0) 2 (0 + d1 - 48)) 3 0) 4 0) 5 (0 + d2 - 48)) 6 0) 7 0) ∧ zq_E φ2 1 77 0 0 0 4294967293 0 ∧ x_KS φ2 ktop fr pc_ mm mi st lo re rs fl se (x_s (x_s (x_s (x_s (x_s (x_s (x_s (x_s (x_s (x_s (x_s (x_s (x_s (x_s (x_s (x_s (x_s (x_s (x_s (x_s co 60 1) 61 0) 61 1) 62 1) 63 0) 63 1) 64 7) 65 (0 + d1 - 48)) 66 3) 67 1) 68 1) 69 0) 69 1) 70 7) 71 (0 + d2 - 48)) 72 3) 73 1) 74 18) 75 2) 76 31) ∧ ∀ j, j ≠ 0 → j ≠ 2 → j ≠ 4 → j ≠ 5 → j ≠ 6 → j ≠ 232 → j ≠ 450 → φ2 j = φ j)) := by
  refine x_f_of rfl ?_
  refine x_n_lt (fun hlt0 => ?_)
  refine q_load (v := (6, 0, 0)) (p2 := 1) rfl rfl rfl rfl ?_
  refine q_getv (v := (6, 2, 0)) (p2 := 2) rfl hH (by decide) rfl rfl ?_
  refine q_load (v := (6, 0, 0)) (p2 := 3) rfl rfl rfl rfl ?_
  refine q_getv (v := (6, 1, 0)) (p2 := 4) rfl hH (by decide) rfl rfl ?_
  refine q_load (v := (6, 0, 0)) (p2 := 5) rfl rfl rfl rfl ?_
  refine q_getv (v := (0, 7, 0)) (p2 := 6) rfl hH (by decide) rfl rfl ?_
  refine q_callvE (xs := [(0, 7, 0), (6, 1, 0), (6, 2, 0)]) (p2 := 7) rfl rfl rfl rfl (x_rcv_s 2 hT.1) rfl (zc_t_load_list hT hB hc0 hc1 hc2 hc3 hc4 hc5 hc6 (by omega)) (Nat.le_refl _) (Nat.le_refl _) rfl (fun φ1 hR1 => ?_)
  obtain ⟨hs1_0, fr1⟩ := hR1
  refine q_load (v := (6, 0, 0)) (p2 := 8) rfl rfl rfl rfl ?_
  refine q_const (p2 := 9) rfl rfl ?_
  have hm2 := (zq_H_at hH (fr1 0 (by decide) (by decide) (by decide) (by decide)))
  refine q_putfE (v := (0, 0, 0)) (p2 := 10) rfl hm2 (by decide) rfl rfl (fun φ3 f3 hh3 hg3 ho3 fr3 => ?_)
  have hs3 := zq_H_put_0_1 hm2 hh3 hg3 ho3 fr3
  refine q_load (v := (6, 0, 0)) (p2 := 11) rfl rfl rfl rfl ?_
  refine q_getv (v := (6, 232, 0)) (p2 := 12) rfl hs3 (by decide) rfl rfl ?_
  refine q_load (v := (6, 0, 0)) (p2 := 13) rfl rfl rfl rfl ?_
  refine q_getv (v := (6, 7, 0)) (p2 := 14) rfl hs3 (by decide) rfl rfl ?_
  refine x_n_lt (fun hlt5 => ?_)
  have hm4 := (x_PS_at hPS (fun j hj hne => by have hj2 := x_some_lt hlt0 hne; exact ((fr3 j (by omega)).trans (fr1 j (by omega) (by omega) (by omega) (by omega)))))
  refine q_getv (v := (6, 237, 0)) (p2 := 15) rfl hm4.1.choose_spec.1 (by decide) hm4.1.choose_spec.2.1 rfl ?_
  have hm6 := (zq_T_at hs1_0 (fr3 2 (by decide)) (fr3 3 (by decide)) (fr3 4 (by decide)) (fr3 5 (by decide)) (fr3 6 (by decide)))
  have hm7 := (zq_E_at hE ((fr3 232 (by decide)).trans (fr1 232 (by decide) (by decide) (by decide) (by decide))))
  have hm8 := (x_KS_at2 hKS (fun j h1 h2 h3 h4 => ((fr3 j (by omega)).trans (fr1 j (by omega) (by omega) (by omega) (by omega)))))
  have hm9 := (zq_nm_at hN ((fr3 239 (by decide)).trans (fr1 239 (by decide) (by decide) (by decide) (by decide))) ((fr3 242 (by decide)).trans (fr1 242 (by decide) (by decide) (by decide) (by decide))) ((fr3 244 (by decide)).trans (fr1 244 (by decide) (by decide) (by decide) (by decide))))
  refine q_callrE (xs := [(6, 237, 0), (6, 232, 0)]) (p2 := 16) rfl rfl rfl rfl (x_rcv_s 232 hm7) rfl (zc_x_alone_list hm6 hm7 hm8.2.2.2.2.2.2.2.1 hm8.2.2.2.2.2.2.2.2.2 hm9 ((x_s_ne (by decide)).trans ((x_s_ne (by decide)).trans ((x_s_ne (by decide)).trans ((x_s_ne (by decide)).trans ((x_s_ne (by decide)).trans ((x_s_ne (by decide)).trans (x_s_eq))))))) ((x_s_ne (by decide)).trans ((x_s_ne (by decide)).trans ((x_s_ne (by decide)).trans ((x_s_ne (by decide)).trans ((x_s_ne (by decide)).trans (x_s_eq)))))) ((x_s_ne (by decide)).trans ((x_s_ne (by decide)).trans ((x_s_ne (by decide)).trans ((x_s_ne (by decide)).trans ((x_s_ne (by decide)).trans (x_s_eq)))))) ((x_s_ne (by decide)).trans ((x_s_ne (by decide)).trans ((x_s_ne (by decide)).trans ((x_s_ne (by decide)).trans (x_s_eq))))) ((x_s_ne (by decide)).trans ((x_s_ne (by decide)).trans ((x_s_ne (by decide)).trans (x_s_eq)))) ((x_s_ne (by decide)).trans ((x_s_ne (by decide)).trans (x_s_eq))) ((x_s_ne (by decide)).trans ((x_s_ne (by decide)).trans (x_s_eq))) ((x_s_ne (by decide)).trans (x_s_eq)) (x_s_eq) (by omega)) (Nat.le_refl _) (Nat.le_refl _) rfl (fun φ10 hR10 => ?_)
  obtain ⟨hs10_0, hs10_1, hs10_2, fr10⟩ := hR10
  have hKc10 := x_KS_co hm8 hs10_2 (fun j h1 h2 h3 => (fr10 j (by omega) (by omega) (by omega)))
  refine q_store (loc2 := [(6, 0, 0), (0, 60, 0), (11, 0, 0)]) (p2 := 17) rfl rfl rfl rfl rfl ?_
  refine q_load (v := (6, 0, 0)) (p2 := 18) rfl rfl rfl rfl ?_
  have hm11 := (zq_H_at hs3 (fr10 0 (by decide) (by decide) (by decide)))
  refine q_getv (v := (6, 2, 0)) (p2 := 19) rfl hm11 (by decide) rfl rfl ?_
  refine q_callr (xs := [(6, 2, 0)]) (p2 := 20) rfl rfl rfl rfl (x_rcv_s 2 hs10_0.1) rfl (zc_t_out0 hs10_0) (Nat.le_refl _) (Nat.le_refl _) rfl ?_
  refine q_store (loc2 := [(6, 0, 0), (0, 60, 0), (0, 0, 0)]) (p2 := 21) rfl rfl rfl rfl rfl ?_
  refine q_load (v := (6, 0, 0)) (p2 := 22) rfl rfl rfl rfl ?_
  refine q_load (v := (6, 0, 0)) (p2 := 23) rfl rfl rfl rfl ?_
  refine q_getv (v := (6, 2, 0)) (p2 := 24) rfl hm11 (by decide) rfl rfl ?_
  refine q_getv (v := (0, 0, 0)) (p2 := 25) rfl hs10_0.1 (by decide) rfl rfl ?_
  refine q_putfE (v := (0, 0, 0)) (p2 := 26) rfl hm11 (by decide) rfl rfl (fun φ12 f12 hh12 hg12 ho12 fr12 => ?_)
  have hs12 := zq_H_put_0_13 hm11 hh12 hg12 ho12 fr12
  refine q_load (v := (0, 0, 0)) (p2 := 27) rfl rfl rfl rfl ?_
  refine q_if0_s (p2 := 28) rfl (by decide) (by omega) rfl (fun _ => ?_) (fun hb => absurd (show ¬ (0 < 0) by omega) hb)
  refine q_load (v := (0, 60, 0)) (p2 := 31) rfl rfl rfl rfl ?_
  have hm13 := (zq_T_at hs10_0 (fr12 2 (by decide)) (fr12 3 (by decide)) (fr12 4 (by decide)) (fr12 5 (by decide)) (fr12 6 (by decide)))
  have hm14 := (zq_E_at hs10_1 (fr12 232 (by decide)))
  have hm15 := (x_KS_at2 hKc10 (fun j h1 h2 h3 h4 => (fr12 j (by omega))))
  exact q_retv (v := (0, 60, 0)) rfl rfl (⟨rfl, rfl, rfl, rfl, hs12, hm13, hm14, hm15, fun j hj0 hj1 hj2 hj3 hj4 hj5 hj6 => ((fr12 j (by omega)).trans ((fr10 j (by omega) (by omega) (by omega)).trans ((fr3 j (by omega)).trans (fr1 j (by omega) (by omega) (by omega) (by omega)))))⟩)
theorem zc_h_rx_call {d n sl : Nat} {φ : FH} {hand : Nat} {lf : Nat} {ie : Nat} {tp : Nat → Nat} {tot : Nat} {at_ : Nat} {cur : Nat} {pl : Nat} {va : Nat} {fa : Nat} {fp : Nat} {sf : Nat} {sp : Nat} {no : Nat} {op : Nat} {K : Nat → Nat} {P : Nat → Nat} {V : Nat → Nat} {bi : Nat} {top : Nat} {hid : Nat} {lc : Nat} {slo : Nat} {own : Nat} {sk : Nat} {fr : Nat} {pc_ : Nat} {mm : Nat} {mi : Nat} {st : Nat → Nat} {lo : Nat → Nat} {re : Nat → Nat} {rs : Nat → Nat} {fl : Nat → Nat} {se : Nat → Nat} {co : Nat → Nat} {A : Nat} {B : Nat} {made : Nat} {sv : Nat} {svm : Nat} {s9 : Nat} {comb : Nat → Nat} {hm : Nat → MV} {d1 : Nat} {ktop : Nat} (hH : zq_H φ 5 hand lf ie) (hB : zq_tp φ tp) (hT : zq_T φ tot at_ cur pl va fa fp sf sp no op K P V) (hE : zq_E φ bi top hid lc slo own sk) (hKS : x_KS φ ktop fr pc_ mm mi st lo re rs fl se co) (hPS : x_PS φ A B made sv svm s9 comb hm) (hN : zq_nm φ) (hc0 : tp 0 = 102) (hc1 : tp 1 = 40) (hc2 : tp 2 = 35) (hc3 : tp 3 = d1) (hc4 : tp 4 = 41) (hc5 : 48 ≤ d1 ∧ d1 ≤ 57) : x_f x_P (d + 18) 54 [(6, 0, 0), (11, 0, 0), (11, 0, 0)] φ n sl (x_rR (0, 60, 0) n sl (fun φ2 => zq_H φ2 0 hand 0 ie ∧ zq_T φ2 6 5 0 5 0 0 fp 0 sp 2 0 (x_s (x_s (x_s (x_s (x_s (x_s K 0 1) 1 73) 2 82) 3 2) 4 74) 5 0) (x_s (x_s (x_s (x_s (x_s (x_s P 0 0) 1 1) 2 2) 3 3) 4 4) 5 5) (x_s (x_s (x_s (x_s (x_s (x_s V 0 6) 1 0) 2 0) 3 (0 + d1 - 48)) 4 0) 5 0) ∧ zq_E φ2 1 69 0 0 0 4294967293 0 ∧ x_KS φ2 ktop fr pc_ mm mi st lo re rs fl se (x_s (x_s (x_s (x_s (x_s (x_s (x_s (x_s (x_s (x_s (x_s co 60 1) 61 0) 61 1) 62 1) 63 0) 63 1) 64 7) 65 (0 + d1 - 48)) 66 20) 67 0) 68 31) ∧ ∀ j, j ≠ 0 → j ≠ 2 → j ≠ 4 → j ≠ 5 → j ≠ 6 → j ≠ 232 → j ≠ 450 → φ2 j = φ j)) := by
  refine x_f_of rfl ?_
  refine x_n_lt (fun hlt0 => ?_)
  refine q_load (v := (6, 0, 0)) (p2 := 1) rfl rfl rfl rfl ?_
  refine q_getv (v := (6, 2, 0)) (p2 := 2) rfl hH (by decide) rfl rfl ?_
  refine q_load (v := (6, 0, 0)) (p2 := 3) rfl rfl rfl rfl ?_
  refine q_getv (v := (6, 1, 0)) (p2 := 4) rfl hH (by decide) rfl rfl ?_
  refine q_load (v := (6, 0, 0)) (p2 := 5) rfl rfl rfl rfl ?_
  refine q_getv (v := (0, 5, 0)) (p2 := 6) rfl hH (by decide) rfl rfl ?_
  refine q_callvE (xs := [(0, 5, 0), (6, 1, 0), (6, 2, 0)]) (p2 := 7) rfl rfl rfl rfl (x_rcv_s 2 hT.1) rfl (zc_t_load_call hT hB hc0 hc1 hc2 hc3 hc4 (by omega)) (Nat.le_refl _) (Nat.le_refl _) rfl (fun φ1 hR1 => ?_)
  obtain ⟨hs1_0, fr1⟩ := hR1
  refine q_load (v := (6, 0, 0)) (p2 := 8) rfl rfl rfl rfl ?_
  refine q_const (p2 := 9) rfl rfl ?_
  have hm2 := (zq_H_at hH (fr1 0 (by decide) (by decide) (by decide) (by decide)))
  refine q_putfE (v := (0, 0, 0)) (p2 := 10) rfl hm2 (by decide) rfl rfl (fun φ3 f3 hh3 hg3 ho3 fr3 => ?_)
  have hs3 := zq_H_put_0_1 hm2 hh3 hg3 ho3 fr3
  refine q_load (v := (6, 0, 0)) (p2 := 11) rfl rfl rfl rfl ?_
  refine q_getv (v := (6, 232, 0)) (p2 := 12) rfl hs3 (by decide) rfl rfl ?_
  refine q_load (v := (6, 0, 0)) (p2 := 13) rfl rfl rfl rfl ?_
  refine q_getv (v := (6, 7, 0)) (p2 := 14) rfl hs3 (by decide) rfl rfl ?_
  refine x_n_lt (fun hlt5 => ?_)
  have hm4 := (x_PS_at hPS (fun j hj hne => by have hj2 := x_some_lt hlt0 hne; exact ((fr3 j (by omega)).trans (fr1 j (by omega) (by omega) (by omega) (by omega)))))
  refine q_getv (v := (6, 237, 0)) (p2 := 15) rfl hm4.1.choose_spec.1 (by decide) hm4.1.choose_spec.2.1 rfl ?_
  have hm6 := (zq_T_at hs1_0 (fr3 2 (by decide)) (fr3 3 (by decide)) (fr3 4 (by decide)) (fr3 5 (by decide)) (fr3 6 (by decide)))
  have hm7 := (zq_E_at hE ((fr3 232 (by decide)).trans (fr1 232 (by decide) (by decide) (by decide) (by decide))))
  have hm8 := (x_KS_at2 hKS (fun j h1 h2 h3 h4 => ((fr3 j (by omega)).trans (fr1 j (by omega) (by omega) (by omega) (by omega)))))
  have hm9 := (zq_nm_at hN ((fr3 239 (by decide)).trans (fr1 239 (by decide) (by decide) (by decide) (by decide))) ((fr3 242 (by decide)).trans (fr1 242 (by decide) (by decide) (by decide) (by decide))) ((fr3 244 (by decide)).trans (fr1 244 (by decide) (by decide) (by decide) (by decide))))
  refine q_callrE (xs := [(6, 237, 0), (6, 232, 0)]) (p2 := 16) rfl rfl rfl rfl (x_rcv_s 232 hm7) rfl (zc_x_alone_call hm6 hm7 hm8.2.2.2.2.2.2.2.1 hm8.2.2.2.2.2.2.2.2.2 hm9 ((x_s_ne (by decide)).trans ((x_s_ne (by decide)).trans ((x_s_ne (by decide)).trans ((x_s_ne (by decide)).trans (x_s_eq))))) ((x_s_ne (by decide)).trans ((x_s_ne (by decide)).trans ((x_s_ne (by decide)).trans (x_s_eq)))) ((x_s_ne (by decide)).trans ((x_s_ne (by decide)).trans (x_s_eq))) ((x_s_ne (by decide)).trans ((x_s_ne (by decide)).trans (x_s_eq))) ((x_s_ne (by decide)).trans (x_s_eq)) (x_s_eq) (by omega)) (Nat.le_refl _) (Nat.le_refl _) rfl (fun φ10 hR10 => ?_)
  obtain ⟨hs10_0, hs10_1, hs10_2, fr10⟩ := hR10
  have hKc10 := x_KS_co hm8 hs10_2 (fun j h1 h2 h3 => (fr10 j (by omega) (by omega) (by omega)))
  refine q_store (loc2 := [(6, 0, 0), (0, 60, 0), (11, 0, 0)]) (p2 := 17) rfl rfl rfl rfl rfl ?_
  refine q_load (v := (6, 0, 0)) (p2 := 18) rfl rfl rfl rfl ?_
  have hm11 := (zq_H_at hs3 (fr10 0 (by decide) (by decide) (by decide)))
  refine q_getv (v := (6, 2, 0)) (p2 := 19) rfl hm11 (by decide) rfl rfl ?_
  refine q_callr (xs := [(6, 2, 0)]) (p2 := 20) rfl rfl rfl rfl (x_rcv_s 2 hs10_0.1) rfl (zc_t_out0 hs10_0) (Nat.le_refl _) (Nat.le_refl _) rfl ?_
  refine q_store (loc2 := [(6, 0, 0), (0, 60, 0), (0, 0, 0)]) (p2 := 21) rfl rfl rfl rfl rfl ?_
  refine q_load (v := (6, 0, 0)) (p2 := 22) rfl rfl rfl rfl ?_
  refine q_load (v := (6, 0, 0)) (p2 := 23) rfl rfl rfl rfl ?_
  refine q_getv (v := (6, 2, 0)) (p2 := 24) rfl hm11 (by decide) rfl rfl ?_
  refine q_getv (v := (0, 0, 0)) (p2 := 25) rfl hs10_0.1 (by decide) rfl rfl ?_
  refine q_putfE (v := (0, 0, 0)) (p2 := 26) rfl hm11 (by decide) rfl rfl (fun φ12 f12 hh12 hg12 ho12 fr12 => ?_)
  have hs12 := zq_H_put_0_13 hm11 hh12 hg12 ho12 fr12
  refine q_load (v := (0, 0, 0)) (p2 := 27) rfl rfl rfl rfl ?_
  refine q_if0_s (p2 := 28) rfl (by decide) (by omega) rfl (fun _ => ?_) (fun hb => absurd (show ¬ (0 < 0) by omega) hb)
  refine q_load (v := (0, 60, 0)) (p2 := 31) rfl rfl rfl rfl ?_
  have hm13 := (zq_T_at hs10_0 (fr12 2 (by decide)) (fr12 3 (by decide)) (fr12 4 (by decide)) (fr12 5 (by decide)) (fr12 6 (by decide)))
  have hm14 := (zq_E_at hs10_1 (fr12 232 (by decide)))
  have hm15 := (x_KS_at2 hKc10 (fun j h1 h2 h3 h4 => (fr12 j (by omega))))
  exact q_retv (v := (0, 60, 0)) rfl rfl (⟨rfl, rfl, rfl, rfl, hs12, hm13, hm14, hm15, fun j hj0 hj1 hj2 hj3 hj4 hj5 hj6 => ((fr12 j (by omega)).trans ((fr10 j (by omega) (by omega) (by omega)).trans ((fr3 j (by omega)).trans (fr1 j (by omega) (by omega) (by omega) (by omega)))))⟩)
theorem zc_h_rx_used {d n sl : Nat} {φ : FH} {hand : Nat} {lf : Nat} {ie : Nat} {tp : Nat → Nat} {tot : Nat} {at_ : Nat} {cur : Nat} {pl : Nat} {va : Nat} {fa : Nat} {fp : Nat} {sf : Nat} {sp : Nat} {no : Nat} {op : Nat} {K : Nat → Nat} {P : Nat → Nat} {V : Nat → Nat} {bi : Nat} {top : Nat} {hid : Nat} {lc : Nat} {slo : Nat} {own : Nat} {sk : Nat} {fr : Nat} {pc_ : Nat} {mm : Nat} {mi : Nat} {st : Nat → Nat} {lo : Nat → Nat} {re : Nat → Nat} {rs : Nat → Nat} {fl : Nat → Nat} {se : Nat → Nat} {co : Nat → Nat} {A : Nat} {B : Nat} {made : Nat} {sv : Nat} {svm : Nat} {s9 : Nat} {comb : Nat → Nat} {hm : Nat → MV} {d1 : Nat} {ktop : Nat} (hH : zq_H φ 10 hand lf ie) (hB : zq_tp φ tp) (hT : zq_T φ tot at_ cur pl va fa fp sf sp no op K P V) (hE : zq_E φ bi top hid lc slo own sk) (hKS : x_KS φ ktop fr pc_ mm mi st lo re rs fl se co) (hPS : x_PS φ A B made sv svm s9 comb hm) (hN : zq_nm φ) (hc0 : tp 0 = 117) (hc1 : tp 1 = 115) (hc2 : tp 2 = 101) (hc3 : tp 3 = 100) (hc4 : tp 4 = 105) (hc5 : tp 5 = 110) (hc6 : tp 6 = 40) (hc7 : tp 7 = 35) (hc8 : tp 8 = d1) (hc9 : tp 9 = 41) (hc10 : 48 ≤ d1 ∧ d1 ≤ 57) : x_f x_P (d + 18) 54 [(6, 0, 0), (11, 0, 0), (11, 0, 0)] φ n sl (x_rR (0, 60, 0) n sl (fun φ2 => zq_H φ2 0 hand 0 ie ∧ zq_T φ2 6 5 0 10 0 0 fp 0 sp 2 0 (x_s (x_s (x_s (x_s (x_s (x_s K 0 1) 1 73) 2 82) 3 2) 4 74) 5 0) (x_s (x_s (x_s (x_s (x_s (x_s P 0 0) 1 6) 2 7) 3 8) 4 9) 5 10) (x_s (x_s (x_s (x_s (x_s (x_s V 0 1703836604) 1 0) 2 0) 3 (0 + d1 - 48)) 4 0) 5 0) ∧ zq_E φ2 1 69 0 0 0 4294967293 0 ∧ x_KS φ2 ktop fr pc_ mm mi st lo re rs fl se (x_s (x_s (x_s (x_s (x_s (x_s (x_s (x_s (x_s (x_s (x_s co 60 1) 61 0) 61 1) 62 1) 63 0) 63 1) 64 7) 65 (0 + d1 - 48)) 66 19) 67 9) 68 31) ∧ ∀ j, j ≠ 0 → j ≠ 2 → j ≠ 4 → j ≠ 5 → j ≠ 6 → j ≠ 232 → j ≠ 450 → φ2 j = φ j)) := by
  refine x_f_of rfl ?_
  refine x_n_lt (fun hlt0 => ?_)
  refine q_load (v := (6, 0, 0)) (p2 := 1) rfl rfl rfl rfl ?_
  refine q_getv (v := (6, 2, 0)) (p2 := 2) rfl hH (by decide) rfl rfl ?_
  refine q_load (v := (6, 0, 0)) (p2 := 3) rfl rfl rfl rfl ?_
  refine q_getv (v := (6, 1, 0)) (p2 := 4) rfl hH (by decide) rfl rfl ?_
  refine q_load (v := (6, 0, 0)) (p2 := 5) rfl rfl rfl rfl ?_
  refine q_getv (v := (0, 10, 0)) (p2 := 6) rfl hH (by decide) rfl rfl ?_
  refine q_callvE (xs := [(0, 10, 0), (6, 1, 0), (6, 2, 0)]) (p2 := 7) rfl rfl rfl rfl (x_rcv_s 2 hT.1) rfl (zc_t_load_used hT hB hc0 hc1 hc2 hc3 hc4 hc5 hc6 hc7 hc8 hc9 (by omega)) (Nat.le_refl _) (Nat.le_refl _) rfl (fun φ1 hR1 => ?_)
  obtain ⟨hs1_0, fr1⟩ := hR1
  refine q_load (v := (6, 0, 0)) (p2 := 8) rfl rfl rfl rfl ?_
  refine q_const (p2 := 9) rfl rfl ?_
  have hm2 := (zq_H_at hH (fr1 0 (by decide) (by decide) (by decide) (by decide)))
  refine q_putfE (v := (0, 0, 0)) (p2 := 10) rfl hm2 (by decide) rfl rfl (fun φ3 f3 hh3 hg3 ho3 fr3 => ?_)
  have hs3 := zq_H_put_0_1 hm2 hh3 hg3 ho3 fr3
  refine q_load (v := (6, 0, 0)) (p2 := 11) rfl rfl rfl rfl ?_
  refine q_getv (v := (6, 232, 0)) (p2 := 12) rfl hs3 (by decide) rfl rfl ?_
  refine q_load (v := (6, 0, 0)) (p2 := 13) rfl rfl rfl rfl ?_
  refine q_getv (v := (6, 7, 0)) (p2 := 14) rfl hs3 (by decide) rfl rfl ?_
  refine x_n_lt (fun hlt5 => ?_)
  have hm4 := (x_PS_at hPS (fun j hj hne => by have hj2 := x_some_lt hlt0 hne; exact ((fr3 j (by omega)).trans (fr1 j (by omega) (by omega) (by omega) (by omega)))))
  refine q_getv (v := (6, 237, 0)) (p2 := 15) rfl hm4.1.choose_spec.1 (by decide) hm4.1.choose_spec.2.1 rfl ?_
  have hm6 := (zq_T_at hs1_0 (fr3 2 (by decide)) (fr3 3 (by decide)) (fr3 4 (by decide)) (fr3 5 (by decide)) (fr3 6 (by decide)))
  have hm7 := (zq_E_at hE ((fr3 232 (by decide)).trans (fr1 232 (by decide) (by decide) (by decide) (by decide))))
  have hm8 := (x_KS_at2 hKS (fun j h1 h2 h3 h4 => ((fr3 j (by omega)).trans (fr1 j (by omega) (by omega) (by omega) (by omega)))))
  have hm9 := (zq_nm_at hN ((fr3 239 (by decide)).trans (fr1 239 (by decide) (by decide) (by decide) (by decide))) ((fr3 242 (by decide)).trans (fr1 242 (by decide) (by decide) (by decide) (by decide))) ((fr3 244 (by decide)).trans (fr1 244 (by decide) (by decide) (by decide) (by decide))))
  refine q_callrE (xs := [(6, 237, 0), (6, 232, 0)]) (p2 := 16) rfl rfl rfl rfl (x_rcv_s 232 hm7) rfl (zc_x_alone_used hm6 hm7 hm8.2.2.2.2.2.2.2.1 hm8.2.2.2.2.2.2.2.2.2 hm9 ((x_s_ne (by decide)).trans ((x_s_ne (by decide)).trans ((x_s_ne (by decide)).trans ((x_s_ne (by decide)).trans (x_s_eq))))) ((x_s_ne (by decide)).trans ((x_s_ne (by decide)).trans ((x_s_ne (by decide)).trans (x_s_eq)))) ((x_s_ne (by decide)).trans ((x_s_ne (by decide)).trans (x_s_eq))) ((x_s_ne (by decide)).trans ((x_s_ne (by decide)).trans (x_s_eq))) ((x_s_ne (by decide)).trans (x_s_eq)) (x_s_eq) (by omega)) (Nat.le_refl _) (Nat.le_refl _) rfl (fun φ10 hR10 => ?_)
  obtain ⟨hs10_0, hs10_1, hs10_2, fr10⟩ := hR10
  have hKc10 := x_KS_co hm8 hs10_2 (fun j h1 h2 h3 => (fr10 j (by omega) (by omega) (by omega)))
  refine q_store (loc2 := [(6, 0, 0), (0, 60, 0), (11, 0, 0)]) (p2 := 17) rfl rfl rfl rfl rfl ?_
  refine q_load (v := (6, 0, 0)) (p2 := 18) rfl rfl rfl rfl ?_
  have hm11 := (zq_H_at hs3 (fr10 0 (by decide) (by decide) (by decide)))
  refine q_getv (v := (6, 2, 0)) (p2 := 19) rfl hm11 (by decide) rfl rfl ?_
  refine q_callr (xs := [(6, 2, 0)]) (p2 := 20) rfl rfl rfl rfl (x_rcv_s 2 hs10_0.1) rfl (zc_t_out0 hs10_0) (Nat.le_refl _) (Nat.le_refl _) rfl ?_
  refine q_store (loc2 := [(6, 0, 0), (0, 60, 0), (0, 0, 0)]) (p2 := 21) rfl rfl rfl rfl rfl ?_
  refine q_load (v := (6, 0, 0)) (p2 := 22) rfl rfl rfl rfl ?_
  refine q_load (v := (6, 0, 0)) (p2 := 23) rfl rfl rfl rfl ?_
  refine q_getv (v := (6, 2, 0)) (p2 := 24) rfl hm11 (by decide) rfl rfl ?_
  refine q_getv (v := (0, 0, 0)) (p2 := 25) rfl hs10_0.1 (by decide) rfl rfl ?_
  refine q_putfE (v := (0, 0, 0)) (p2 := 26) rfl hm11 (by decide) rfl rfl (fun φ12 f12 hh12 hg12 ho12 fr12 => ?_)
  have hs12 := zq_H_put_0_13 hm11 hh12 hg12 ho12 fr12
  refine q_load (v := (0, 0, 0)) (p2 := 27) rfl rfl rfl rfl ?_
  refine q_if0_s (p2 := 28) rfl (by decide) (by omega) rfl (fun _ => ?_) (fun hb => absurd (show ¬ (0 < 0) by omega) hb)
  refine q_load (v := (0, 60, 0)) (p2 := 31) rfl rfl rfl rfl ?_
  have hm13 := (zq_T_at hs10_0 (fr12 2 (by decide)) (fr12 3 (by decide)) (fr12 4 (by decide)) (fr12 5 (by decide)) (fr12 6 (by decide)))
  have hm14 := (zq_E_at hs10_1 (fr12 232 (by decide)))
  have hm15 := (x_KS_at2 hKc10 (fun j h1 h2 h3 h4 => (fr12 j (by omega))))
  exact q_retv (v := (0, 60, 0)) rfl rfl (⟨rfl, rfl, rfl, rfl, hs12, hm13, hm14, hm15, fun j hj0 hj1 hj2 hj3 hj4 hj5 hj6 => ((fr12 j (by omega)).trans ((fr10 j (by omega) (by omega) (by omega)).trans ((fr3 j (by omega)).trans (fr1 j (by omega) (by omega) (by omega) (by omega)))))⟩)
theorem zc_h_rx_eq {d n sl : Nat} {φ : FH} {hand : Nat} {lf : Nat} {ie : Nat} {tp : Nat → Nat} {tot : Nat} {at_ : Nat} {cur : Nat} {pl : Nat} {va : Nat} {fa : Nat} {fp : Nat} {sf : Nat} {sp : Nat} {no : Nat} {op : Nat} {K : Nat → Nat} {P : Nat → Nat} {V : Nat → Nat} {bi : Nat} {top : Nat} {hid : Nat} {lc : Nat} {slo : Nat} {own : Nat} {sk : Nat} {fr : Nat} {pc_ : Nat} {mm : Nat} {mi : Nat} {st : Nat → Nat} {lo : Nat → Nat} {re : Nat → Nat} {rs : Nat → Nat} {fl : Nat → Nat} {se : Nat → Nat} {co : Nat → Nat} {A : Nat} {B : Nat} {made : Nat} {sv : Nat} {svm : Nat} {s9 : Nat} {comb : Nat → Nat} {hm : Nat → MV} {d1 : Nat} {d2 : Nat} {ktop : Nat} (hH : zq_H φ 5 hand lf ie) (hB : zq_tp φ tp) (hT : zq_T φ tot at_ cur pl va fa fp sf sp no op K P V) (hE : zq_E φ bi top hid lc slo own sk) (hKS : x_KS φ ktop fr pc_ mm mi st lo re rs fl se co) (hPS : x_PS φ A B made sv svm s9 comb hm) (hN : zq_nm φ) (hc0 : tp 0 = 35) (hc1 : tp 1 = d1) (hc2 : tp 2 = 61) (hc3 : tp 3 = 35) (hc4 : tp 4 = d2) (hc5 : 48 ≤ d1 ∧ d1 ≤ 57 ∧ 48 ≤ d2 ∧ d2 ≤ 57) : x_f x_P (d + 10) 54 [(6, 0, 0), (11, 0, 0), (11, 0, 0)] φ n sl (x_rR (0, 60, 0) n sl (fun φ2 => zq_H φ2 0 hand 0 ie ∧ zq_T φ2 6 5 0 5 0 0 fp 0 sp 3 0 (x_s (x_s (x_s (x_s (x_s (x_s K 0 82) 1 2) 2 64) 3 82) 4 2) 5 0) (x_s (x_s (x_s (x_s (x_s (x_s P 0 0) 1 1) 2 2) 3 3) 4 4) 5 5) (x_s (x_s (x_s (x_s (x_s (x_s V 0 0) 1 (0 + d1 - 48)) 2 0) 3 0) 4 (0 + d2 - 48)) 5 0) ∧ zq_E φ2 1 71 0 0 0 4294967293 0 ∧ x_KS φ2 ktop fr pc_ mm mi st lo re rs fl se (x_s (x_s (x_s (x_s (x_s (x_s (x_s (x_s (x_s (x_s (x_s (x_s (x_s (x_s co 60 1) 61 0) 61 1) 62 7) 63 (0 + d1 - 48)) 61 2) 64 1) 65 0) 65 1) 66 7) 67 (0 + d2 - 48)) 68 15) 69 64) 70 31) ∧ ∀ j, j ≠ 0 → j ≠ 2 → j ≠ 4 → j ≠ 5 → j ≠ 6 → j ≠ 232 → j ≠ 450 → φ2 j = φ j)) := by
  refine x_f_of rfl ?_
  refine x_n_lt (fun hlt0 => ?_)
  refine q_load (v := (6, 0, 0)) (p2 := 1) rfl rfl rfl rfl ?_
  refine q_getv (v := (6, 2, 0)) (p2 := 2) rfl hH (by decide) rfl rfl ?_
  refine q_load (v := (6, 0, 0)) (p2 := 3) rfl rfl rfl rfl ?_
  refine q_getv (v := (6, 1, 0)) (p2 := 4) rfl hH (by decide) rfl rfl ?_
  refine q_load (v := (6, 0, 0)) (p2 := 5) rfl rfl rfl rfl ?_
  refine q_getv (v := (0, 5, 0)) (p2 := 6) rfl hH (by decide) rfl rfl ?_
  refine q_callvE (xs := [(0, 5, 0), (6, 1, 0), (6, 2, 0)]) (p2 := 7) rfl rfl rfl rfl (x_rcv_s 2 hT.1) rfl (zc_t_load_eq hT hB hc0 hc1 hc2 hc3 hc4 (by omega)) (Nat.le_refl _) (Nat.le_refl _) rfl (fun φ1 hR1 => ?_)
  obtain ⟨hs1_0, fr1⟩ := hR1
  refine q_load (v := (6, 0, 0)) (p2 := 8) rfl rfl rfl rfl ?_
  refine q_const (p2 := 9) rfl rfl ?_
  have hm2 := (zq_H_at hH (fr1 0 (by decide) (by decide) (by decide) (by decide)))
  refine q_putfE (v := (0, 0, 0)) (p2 := 10) rfl hm2 (by decide) rfl rfl (fun φ3 f3 hh3 hg3 ho3 fr3 => ?_)
  have hs3 := zq_H_put_0_1 hm2 hh3 hg3 ho3 fr3
  refine q_load (v := (6, 0, 0)) (p2 := 11) rfl rfl rfl rfl ?_
  refine q_getv (v := (6, 232, 0)) (p2 := 12) rfl hs3 (by decide) rfl rfl ?_
  refine q_load (v := (6, 0, 0)) (p2 := 13) rfl rfl rfl rfl ?_
  refine q_getv (v := (6, 7, 0)) (p2 := 14) rfl hs3 (by decide) rfl rfl ?_
  refine x_n_lt (fun hlt5 => ?_)
  have hm4 := (x_PS_at hPS (fun j hj hne => by have hj2 := x_some_lt hlt0 hne; exact ((fr3 j (by omega)).trans (fr1 j (by omega) (by omega) (by omega) (by omega)))))
  refine q_getv (v := (6, 237, 0)) (p2 := 15) rfl hm4.1.choose_spec.1 (by decide) hm4.1.choose_spec.2.1 rfl ?_
  have hm6 := (zq_T_at hs1_0 (fr3 2 (by decide)) (fr3 3 (by decide)) (fr3 4 (by decide)) (fr3 5 (by decide)) (fr3 6 (by decide)))
  have hm7 := (zq_E_at hE ((fr3 232 (by decide)).trans (fr1 232 (by decide) (by decide) (by decide) (by decide))))
  have hm8 := (x_KS_at2 hKS (fun j h1 h2 h3 h4 => ((fr3 j (by omega)).trans (fr1 j (by omega) (by omega) (by omega) (by omega)))))
  have hm9 := (zq_nm_at hN ((fr3 239 (by decide)).trans (fr1 239 (by decide) (by decide) (by decide) (by decide))) ((fr3 242 (by decide)).trans (fr1 242 (by decide) (by decide) (by decide) (by decide))) ((fr3 244 (by decide)).trans (fr1 244 (by decide) (by decide) (by decide) (by decide))))
  refine q_callrE (xs := [(6, 237, 0), (6, 232, 0)]) (p2 := 16) rfl rfl rfl rfl (x_rcv_s 232 hm7) rfl (zc_x_alone_eq hm6 hm7 hm8.2.2.2.2.2.2.2.1 hm8.2.2.2.2.2.2.2.2.2 hm9 ((x_s_ne (by decide)).trans ((x_s_ne (by decide)).trans ((x_s_ne (by decide)).trans ((x_s_ne (by decide)).trans (x_s_eq))))) ((x_s_ne (by decide)).trans ((x_s_ne (by decide)).trans ((x_s_ne (by decide)).trans ((x_s_ne (by decide)).trans (x_s_eq))))) ((x_s_ne (by decide)).trans ((x_s_ne (by decide)).trans ((x_s_ne (by decide)).trans (x_s_eq)))) ((x_s_ne (by decide)).trans ((x_s_ne (by decide)).trans (x_s_eq))) ((x_s_ne (by decide)).trans (x_s_eq)) ((x_s_ne (by decide)).trans (x_s_eq)) (x_s_eq) (by omega)) (Nat.le_refl _) (Nat.le_refl _) rfl (fun φ10 hR10 => ?_)
  obtain ⟨hs10_0, hs10_1, hs10_2, fr10⟩ := hR10
  have hKc10 := x_KS_co hm8 hs10_2 (fun j h1 h2 h3 => (fr10 j (by omega) (by omega) (by omega)))
  refine q_store (loc2 := [(6, 0, 0), (0, 60, 0), (11, 0, 0)]) (p2 := 17) rfl rfl rfl rfl rfl ?_
  refine q_load (v := (6, 0, 0)) (p2 := 18) rfl rfl rfl rfl ?_
  have hm11 := (zq_H_at hs3 (fr10 0 (by decide) (by decide) (by decide)))
  refine q_getv (v := (6, 2, 0)) (p2 := 19) rfl hm11 (by decide) rfl rfl ?_
  refine q_callr (xs := [(6, 2, 0)]) (p2 := 20) rfl rfl rfl rfl (x_rcv_s 2 hs10_0.1) rfl (zc_t_out0 hs10_0) (Nat.le_refl _) (Nat.le_refl _) rfl ?_
  refine q_store (loc2 := [(6, 0, 0), (0, 60, 0), (0, 0, 0)]) (p2 := 21) rfl rfl rfl rfl rfl ?_
  refine q_load (v := (6, 0, 0)) (p2 := 22) rfl rfl rfl rfl ?_
  refine q_load (v := (6, 0, 0)) (p2 := 23) rfl rfl rfl rfl ?_
  refine q_getv (v := (6, 2, 0)) (p2 := 24) rfl hm11 (by decide) rfl rfl ?_
  refine q_getv (v := (0, 0, 0)) (p2 := 25) rfl hs10_0.1 (by decide) rfl rfl ?_
  refine q_putfE (v := (0, 0, 0)) (p2 := 26) rfl hm11 (by decide) rfl rfl (fun φ12 f12 hh12 hg12 ho12 fr12 => ?_)
  have hs12 := zq_H_put_0_13 hm11 hh12 hg12 ho12 fr12
  refine q_load (v := (0, 0, 0)) (p2 := 27) rfl rfl rfl rfl ?_
  refine q_if0_s (p2 := 28) rfl (by decide) (by omega) rfl (fun _ => ?_) (fun hb => absurd (show ¬ (0 < 0) by omega) hb)
  refine q_load (v := (0, 60, 0)) (p2 := 31) rfl rfl rfl rfl ?_
  have hm13 := (zq_T_at hs10_0 (fr12 2 (by decide)) (fr12 3 (by decide)) (fr12 4 (by decide)) (fr12 5 (by decide)) (fr12 6 (by decide)))
  have hm14 := (zq_E_at hs10_1 (fr12 232 (by decide)))
  have hm15 := (x_KS_at2 hKc10 (fun j h1 h2 h3 h4 => (fr12 j (by omega))))
  exact q_retv (v := (0, 60, 0)) rfl rfl (⟨rfl, rfl, rfl, rfl, hs12, hm13, hm14, hm15, fun j hj0 hj1 hj2 hj3 hj4 hj5 hj6 => ((fr12 j (by omega)).trans ((fr10 j (by omega) (by omega) (by omega)).trans ((fr3 j (by omega)).trans (fr1 j (by omega) (by omega) (by omega) (by omega)))))⟩)
theorem zc_h_rx_err {d n sl : Nat} {φ : FH} {hand : Nat} {lf : Nat} {ie : Nat} {tp : Nat → Nat} {tot : Nat} {at_ : Nat} {cur : Nat} {pl : Nat} {va : Nat} {fa : Nat} {fp : Nat} {sf : Nat} {sp : Nat} {no : Nat} {op : Nat} {K : Nat → Nat} {P : Nat → Nat} {V : Nat → Nat} {bi : Nat} {top : Nat} {hid : Nat} {lc : Nat} {slo : Nat} {own : Nat} {sk : Nat} {fr : Nat} {pc_ : Nat} {mm : Nat} {mi : Nat} {st : Nat → Nat} {lo : Nat → Nat} {re : Nat → Nat} {rs : Nat → Nat} {fl : Nat → Nat} {se : Nat → Nat} {co : Nat → Nat} {A : Nat} {B : Nat} {made : Nat} {sv : Nat} {svm : Nat} {s9 : Nat} {comb : Nat → Nat} {hm : Nat → MV} {d1 : Nat} {ktop : Nat} (hH : zq_H φ 3 hand lf ie) (hB : zq_tp φ tp) (hT : zq_T φ tot at_ cur pl va fa fp sf sp no op K P V) (hE : zq_E φ bi top hid lc slo own sk) (hKS : x_KS φ ktop fr pc_ mm mi st lo re rs fl se co) (hPS : x_PS φ A B made sv svm s9 comb hm) (hN : zq_nm φ) (hc0 : tp 0 = 35) (hc1 : tp 1 = d1) (hc2 : tp 2 = 43) (hc3 : 48 ≤ d1 ∧ d1 ≤ 57) : x_f x_P (d + 10) 54 [(6, 0, 0), (11, 0, 0), (11, 0, 0)] φ n sl (x_rR (0, 4294967283, 0) n sl (fun φ2 => zq_H φ2 0 hand 2 ie ∧ zq_T φ2 4 3 5 3 0 2 3 0 sp 2 0 (x_s (x_s (x_s (x_s K 0 82) 1 2) 2 69) 3 0) (x_s (x_s (x_s (x_s P 0 0) 1 1) 2 2) 3 3) (x_s (x_s (x_s (x_s V 0 0) 1 (0 + d1 - 48)) 2 0) 3 0) ∧ zq_E φ2 1 69 0 0 0 4294967293 0 ∧ x_KS φ2 ktop fr pc_ mm mi st lo re rs fl se (x_s (x_s (x_s (x_s (x_s (x_s (x_s (x_s (x_s (x_s (x_s co 60 1) 61 0) 61 1) 62 7) 63 (0 + d1 - 48)) 61 2) 64 1) 65 0) 66 13) 67 69) 68 31) ∧ ∀ j, j ≠ 0 → j ≠ 2 → j ≠ 4 → j ≠ 5 → j ≠ 6 → j ≠ 232 → j ≠ 450 → φ2 j = φ j)) := by
  refine x_f_of rfl ?_
  refine x_n_lt (fun hlt0 => ?_)
  refine q_load (v := (6, 0, 0)) (p2 := 1) rfl rfl rfl rfl ?_
  refine q_getv (v := (6, 2, 0)) (p2 := 2) rfl hH (by decide) rfl rfl ?_
  refine q_load (v := (6, 0, 0)) (p2 := 3) rfl rfl rfl rfl ?_
  refine q_getv (v := (6, 1, 0)) (p2 := 4) rfl hH (by decide) rfl rfl ?_
  refine q_load (v := (6, 0, 0)) (p2 := 5) rfl rfl rfl rfl ?_
  refine q_getv (v := (0, 3, 0)) (p2 := 6) rfl hH (by decide) rfl rfl ?_
  refine q_callvE (xs := [(0, 3, 0), (6, 1, 0), (6, 2, 0)]) (p2 := 7) rfl rfl rfl rfl (x_rcv_s 2 hT.1) rfl (zc_t_load_err hT hB hc0 hc1 hc2 (by omega)) (Nat.le_refl _) (Nat.le_refl _) rfl (fun φ1 hR1 => ?_)
  obtain ⟨hs1_0, fr1⟩ := hR1
  refine q_load (v := (6, 0, 0)) (p2 := 8) rfl rfl rfl rfl ?_
  refine q_const (p2 := 9) rfl rfl ?_
  have hm2 := (zq_H_at hH (fr1 0 (by decide) (by decide) (by decide) (by decide)))
  refine q_putfE (v := (0, 0, 0)) (p2 := 10) rfl hm2 (by decide) rfl rfl (fun φ3 f3 hh3 hg3 ho3 fr3 => ?_)
  have hs3 := zq_H_put_0_1 hm2 hh3 hg3 ho3 fr3
  refine q_load (v := (6, 0, 0)) (p2 := 11) rfl rfl rfl rfl ?_
  refine q_getv (v := (6, 232, 0)) (p2 := 12) rfl hs3 (by decide) rfl rfl ?_
  refine q_load (v := (6, 0, 0)) (p2 := 13) rfl rfl rfl rfl ?_
  refine q_getv (v := (6, 7, 0)) (p2 := 14) rfl hs3 (by decide) rfl rfl ?_
  refine x_n_lt (fun hlt5 => ?_)
  have hm4 := (x_PS_at hPS (fun j hj hne => by have hj2 := x_some_lt hlt0 hne; exact ((fr3 j (by omega)).trans (fr1 j (by omega) (by omega) (by omega) (by omega)))))
  refine q_getv (v := (6, 237, 0)) (p2 := 15) rfl hm4.1.choose_spec.1 (by decide) hm4.1.choose_spec.2.1 rfl ?_
  have hm6 := (zq_T_at hs1_0 (fr3 2 (by decide)) (fr3 3 (by decide)) (fr3 4 (by decide)) (fr3 5 (by decide)) (fr3 6 (by decide)))
  have hm7 := (zq_E_at hE ((fr3 232 (by decide)).trans (fr1 232 (by decide) (by decide) (by decide) (by decide))))
  have hm8 := (x_KS_at2 hKS (fun j h1 h2 h3 h4 => ((fr3 j (by omega)).trans (fr1 j (by omega) (by omega) (by omega) (by omega)))))
  have hm9 := (zq_nm_at hN ((fr3 239 (by decide)).trans (fr1 239 (by decide) (by decide) (by decide) (by decide))) ((fr3 242 (by decide)).trans (fr1 242 (by decide) (by decide) (by decide) (by decide))) ((fr3 244 (by decide)).trans (fr1 244 (by decide) (by decide) (by decide) (by decide))))
  refine q_callrE (xs := [(6, 237, 0), (6, 232, 0)]) (p2 := 16) rfl rfl rfl rfl (x_rcv_s 232 hm7) rfl (zc_x_alone_err hm6 hm7 hm8.2.2.2.2.2.2.2.1 hm8.2.2.2.2.2.2.2.2.2 hm9 ((x_s_ne (by decide)).trans ((x_s_ne (by decide)).trans (x_s_eq))) ((x_s_ne (by decide)).trans ((x_s_ne (by decide)).trans (x_s_eq))) ((x_s_ne (by decide)).trans (x_s_eq)) (x_s_eq) (by omega)) (Nat.le_refl _) (Nat.le_refl _) rfl (fun φ10 hR10 => ?_)
  obtain ⟨hs10_0, hs10_1, hs10_2, fr10⟩ := hR10
  have hKc10 := x_KS_co hm8 hs10_2 (fun j h1 h2 h3 => (fr10 j (by omega) (by omega) (by omega)))
  refine q_store (loc2 := [(6, 0, 0), (0, 60, 0), (11, 0, 0)]) (p2 := 17) rfl rfl rfl rfl rfl ?_
  refine q_load (v := (6, 0, 0)) (p2 := 18) rfl rfl rfl rfl ?_
  have hm11 := (zq_H_at hs3 (fr10 0 (by decide) (by decide) (by decide)))
  refine q_getv (v := (6, 2, 0)) (p2 := 19) rfl hm11 (by decide) rfl rfl ?_
  refine q_callr (xs := [(6, 2, 0)]) (p2 := 20) rfl rfl rfl rfl (x_rcv_s 2 hs10_0.1) rfl (zc_t_out2 (fp := 3) hs10_0 (by omega)) (Nat.le_refl _) (Nat.le_refl _) rfl ?_
  refine q_store (loc2 := [(6, 0, 0), (0, 60, 0), (0, 4294967283, 0)]) (p2 := 21) rfl rfl rfl rfl rfl ?_
  refine q_load (v := (6, 0, 0)) (p2 := 22) rfl rfl rfl rfl ?_
  refine q_load (v := (6, 0, 0)) (p2 := 23) rfl rfl rfl rfl ?_
  refine q_getv (v := (6, 2, 0)) (p2 := 24) rfl hm11 (by decide) rfl rfl ?_
  refine q_getv (v := (0, 2, 0)) (p2 := 25) rfl hs10_0.1 (by decide) rfl rfl ?_
  refine q_putfE (v := (0, 2, 0)) (p2 := 26) rfl hm11 (by decide) rfl rfl (fun φ12 f12 hh12 hg12 ho12 fr12 => ?_)
  have hs12 := zq_H_put_0_13 hm11 hh12 hg12 ho12 fr12
  refine q_load (v := (0, 4294967283, 0)) (p2 := 27) rfl rfl rfl rfl ?_
  refine q_if0 (p2 := 28) rfl (by decide) rfl (fun hb => absurd hb (show ¬ (¬ (2147483635 < 2147483648)) by decide)) (fun _ => ?_)
  refine q_load (v := (0, 4294967283, 0)) (p2 := 29) rfl rfl rfl rfl ?_
  refine q_goto rfl ?_
  have hm13 := (zq_T_at hs10_0 (fr12 2 (by decide)) (fr12 3 (by decide)) (fr12 4 (by decide)) (fr12 5 (by decide)) (fr12 6 (by decide)))
  have hm14 := (zq_E_at hs10_1 (fr12 232 (by decide)))
  have hm15 := (x_KS_at2 hKc10 (fun j h1 h2 h3 h4 => (fr12 j (by omega))))
  exact q_retv (v := (0, 4294967283, 0)) rfl rfl (⟨rfl, rfl, rfl, rfl, hs12, hm13, hm14, hm15, fun j hj0 hj1 hj2 hj3 hj4 hj5 hj6 => ((fr12 j (by omega)).trans ((fr10 j (by omega) (by omega) (by omega)).trans ((fr3 j (by omega)).trans (fr1 j (by omega) (by omega) (by omega) (by omega)))))⟩)
end FPOP61
