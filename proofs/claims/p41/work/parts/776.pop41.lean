section FPOP41
theorem zc_x_const82 {d n sl : Nat} {φ : FH} {tot : Nat} {at_ : Nat} {pl : Nat} {va : Nat} {fa : Nat} {fp : Nat} {sf : Nat} {sp : Nat} {no : Nat} {op : Nat} {K : Nat → Nat} {P : Nat → Nat} {V : Nat → Nat} {top : Nat} {hid : Nat} {lc : Nat} {slo : Nat} {own : Nat} {sk : Nat} {co : Nat → Nat} {k1 : Nat} {p1 : Nat} {v1 : Nat} {w : Nat} {pp : Nat} (hT : zq_T φ tot at_ 2 pl va fa fp sf sp no op K P V) (hE : zq_E φ 1 top hid lc slo own sk) (hC : zq_co φ co) (hS : x_sch φ) (hc0 : va < 2147483648) (hc1 : top < 11000) (hc2 : at_ + 1 < tot ∧ tot ≤ 3002) (hc3 : K (at_ + 1) = k1) (hc4 : P (at_ + 1) = p1) (hc5 : V (at_ + 1) = v1) : x_f x_P (d + 2) 329 [(6, 232, 0), (0, 82, 0), (2, w, 0), (11, 0, 0), (0, pp, 0)] φ n sl (x_vR n sl (fun φ2 => zq_T φ2 tot (at_ + 1) k1 p1 v1 fa fp sf sp no op K P V ∧ zq_E φ2 1 (top + 2) hid lc slo own sk ∧ zq_co φ2 (x_s (x_s co top 7) (top + 1) va) ∧ ∀ j, j ≠ 2 → j ≠ 232 → j ≠ 450 → φ2 j = φ j)) := by
  refine x_f_of rfl ?_
  refine q_load (v := (0, 82, 0)) (p2 := 1) rfl rfl rfl rfl ?_
  refine q_switch (tgt := 39) rfl (by decide) rfl ?_
  refine q_load (v := (6, 232, 0)) (p2 := 40) rfl rfl rfl rfl ?_
  refine q_const (p2 := 41) rfl rfl ?_
  refine q_load (v := (6, 232, 0)) (p2 := 42) rfl rfl rfl rfl ?_
  refine q_getv (v := (6, 2, 0)) (p2 := 43) rfl hE (by decide) rfl rfl ?_
  refine q_getv (v := (2, va, 0)) (p2 := 44) rfl hT.1 (by decide) rfl rfl ?_
  refine q_l2i (z := va) (p2 := 45) rfl (Nat.mod_eq_of_lt (by omega)) rfl ?_
  refine q_callvE (xs := [(0, va, 0), (0, 7, 0), (6, 232, 0)]) (p2 := 46) rfl rfl rfl rfl (x_rcv_s 232 hE) rfl (zc_x_em2 hE hC hS (by omega)) (Nat.le_refl _) (Nat.le_refl _) rfl (fun φ1 hR1 => ?_)
  obtain ⟨hs1_0, hs1_1, fr1⟩ := hR1
  refine q_load (v := (6, 232, 0)) (p2 := 47) rfl rfl rfl rfl ?_
  refine q_getv (v := (6, 2, 0)) (p2 := 48) rfl hs1_0 (by decide) rfl rfl ?_
  refine q_const (p2 := 49) rfl rfl ?_
  have hm2 := (zq_T_at hT (fr1 2 (by decide) (by decide)) (fr1 3 (by decide) (by decide)) (fr1 4 (by decide) (by decide)) (fr1 5 (by decide) (by decide)) (fr1 6 (by decide) (by decide)))
  refine q_callvE (xs := [(0, 2, 0), (6, 2, 0)]) (p2 := 50) rfl rfl rfl rfl (x_rcv_s 2 hm2.1) rfl (zc_t_exp hm2 (by omega) (by omega) hc3 hc4 hc5) (Nat.le_refl _) (Nat.le_refl _) rfl (fun φ3 hR3 => ?_)
  obtain ⟨hs3_0, fr3⟩ := hR3
  refine q_goto rfl ?_
  have hm4 := (zq_E_at hs1_0 (fr3 232 (by decide)))
  have hm5 := (zq_co_at hs1_1 (fr3 450 (by decide)))
  exact q_ret rfl (⟨rfl, rfl, rfl, hs3_0, hm4, hm5, fun j hj0 hj1 hj2 => ((fr3 j (by omega)).trans (fr1 j (by omega) (by omega)))⟩)
theorem zc_x_const2 {d n sl : Nat} {φ : FH} {top : Nat} {hid : Nat} {lc : Nat} {slo : Nat} {own : Nat} {sk : Nat} {co : Nat → Nat} {w : Nat} {pp : Nat} (hE : zq_E φ 1 top hid lc slo own sk) (hC : zq_co φ co) (hS : x_sch φ) (hc0 : w < 2147483648) (hc1 : top < 11000) : x_f x_P (d + 2) 329 [(6, 232, 0), (0, 2, 0), (2, w, 0), (11, 0, 0), (0, pp, 0)] φ n sl (x_vR n sl (fun φ2 => zq_E φ2 1 (top + 2) hid lc slo own sk ∧ zq_co φ2 (x_s (x_s co top 3) (top + 1) w) ∧ ∀ j, j ≠ 232 → j ≠ 450 → φ2 j = φ j)) := by
  refine x_f_of rfl ?_
  refine q_load (v := (0, 2, 0)) (p2 := 1) rfl rfl rfl rfl ?_
  refine q_switch (tgt := 2) rfl (by decide) rfl ?_
  refine q_load (v := (6, 232, 0)) (p2 := 3) rfl rfl rfl rfl ?_
  refine q_const (p2 := 4) rfl rfl ?_
  refine q_load (v := (2, w, 0)) (p2 := 5) rfl rfl rfl rfl ?_
  refine q_l2i (z := w) (p2 := 6) rfl (Nat.mod_eq_of_lt (by omega)) rfl ?_
  refine q_callvE (xs := [(0, w, 0), (0, 3, 0), (6, 232, 0)]) (p2 := 7) rfl rfl rfl rfl (x_rcv_s 232 hE) rfl (zc_x_em2 hE hC hS (by omega)) (Nat.le_refl _) (Nat.le_refl _) rfl (fun φ1 hR1 => ?_)
  obtain ⟨hs1_0, hs1_1, fr1⟩ := hR1
  refine q_goto rfl ?_
  exact q_ret rfl (⟨rfl, rfl, rfl, hs1_0, hs1_1, fun j hj0 hj1 => (fr1 j (by omega) (by omega))⟩)
theorem zc_a_228_82 {d n sl : Nat} {φ : FH}    : x_f x_P (d + 1) 228 [(0, 82, 0)] φ n sl (x_r φ n sl (0, 1, 0)) := by
  refine x_f_of rfl ?_
  refine q_load (v := (0, 82, 0)) (p2 := 1) rfl rfl rfl rfl ?_
  refine q_switch (tgt := 2) rfl (by decide) rfl ?_
  refine q_const (p2 := 3) rfl rfl ?_
  exact q_retv (v := (0, 1, 0)) rfl rfl (⟨rfl, rfl, rfl, rfl, rfl⟩)
theorem zc_x_base82 {d n sl : Nat} {φ : FH} {tot : Nat} {at_ : Nat} {pl : Nat} {va : Nat} {fa : Nat} {fp : Nat} {sf : Nat} {sp : Nat} {no : Nat} {op : Nat} {K : Nat → Nat} {P : Nat → Nat} {V : Nat → Nat} {top : Nat} {hid : Nat} {lc : Nat} {slo : Nat} {own : Nat} {sk : Nat} {co : Nat → Nat} {st : Nat} {cv : Nat} {w1 : Nat} {k2 : Nat} (hT : zq_T φ tot at_ 82 pl va fa fp sf sp no op K P V) (hE : zq_E φ 1 top hid lc slo own sk) (hC : zq_co φ co) (hS : x_sch φ) (hc0 : no < 500) (hc1 : st < 12000) (hc2 : co (st + 1) = cv) (hc3 : cv < 900) (hc4 : top < 11000) (hc5 : at_ + 2 < tot ∧ tot ≤ 3002) (hc6 : K (at_ + 1) = 2) (hc7 : V (at_ + 1) = w1) (hc8 : w1 < 2147483648) (hc9 : K (at_ + 2) = k2) : x_f x_P (d + 3) 324 [(6, 232, 0), (0, st, 0), (11, 0, 0), (11, 0, 0), (11, 0, 0), (11, 0, 0)] φ n sl (x_vR n sl (fun φ2 => zq_T φ2 tot (at_ + 2) k2 (P (at_ + 2)) (V (at_ + 2)) fa fp sf sp (no + 1) op K P V ∧ zq_E φ2 1 (top + 2) hid lc slo own sk ∧ zq_co φ2 (x_s (x_s (x_s co (st + 1) (cv + 1)) top 7) (top + 1) w1) ∧ ∀ j, j ≠ 2 → j ≠ 232 → j ≠ 450 → φ2 j = φ j)) := by
  refine x_f_of rfl ?_
  refine q_load (v := (6, 232, 0)) (p2 := 1) rfl rfl rfl rfl ?_
  refine q_getv (v := (6, 2, 0)) (p2 := 2) rfl hE (by decide) rfl rfl ?_
  refine q_getv (v := (0, 82, 0)) (p2 := 3) rfl hT.1 (by decide) rfl rfl ?_
  refine q_switch (tgt := 42) rfl (by decide) rfl ?_
  refine q_load (v := (6, 232, 0)) (p2 := 43) rfl rfl rfl rfl ?_
  refine q_getv (v := (6, 2, 0)) (p2 := 44) rfl hE (by decide) rfl rfl ?_
  refine q_getv (v := (0, 82, 0)) (p2 := 45) rfl hT.1 (by decide) rfl rfl ?_
  refine q_store (loc2 := [(6, 232, 0), (0, st, 0), (0, 82, 0), (11, 0, 0), (11, 0, 0), (11, 0, 0)]) (p2 := 46) rfl rfl rfl rfl rfl ?_
  refine q_load (v := (6, 232, 0)) (p2 := 47) rfl rfl rfl rfl ?_
  refine q_getv (v := (6, 2, 0)) (p2 := 48) rfl hE (by decide) rfl rfl ?_
  refine q_getv (v := (2, va, 0)) (p2 := 49) rfl hT.1 (by decide) rfl rfl ?_
  refine q_store2 (loc2 := [(6, 232, 0), (0, st, 0), (0, 82, 0), (2, va, 0), (11, 0, 0), (11, 0, 0)]) (p2 := 50) rfl rfl rfl rfl rfl ?_
  refine q_load (v := (6, 232, 0)) (p2 := 51) rfl rfl rfl rfl ?_
  refine q_getv (v := (6, 2, 0)) (p2 := 52) rfl hE (by decide) rfl rfl ?_
  refine q_getv (v := (0, pl, 0)) (p2 := 53) rfl hT.1 (by decide) rfl rfl ?_
  refine q_store (loc2 := [(6, 232, 0), (0, st, 0), (0, 82, 0), (2, va, 0), (11, 0, 0), (0, pl, 0)]) (p2 := 54) rfl rfl rfl rfl rfl ?_
  refine q_load (v := (0, 82, 0)) (p2 := 55) rfl rfl rfl rfl ?_
  refine q_callr (xs := [(0, 82, 0)]) (p2 := 56) rfl rfl rfl rfl (fun _ _ => rfl) rfl (zc_a_228_82 ) (Nat.le_refl _) (Nat.le_refl _) rfl ?_
  refine q_if0_s (p2 := 57) rfl (by decide) (by omega) rfl (fun hb => absurd hb (show ¬ (1 = 0) by omega)) (fun _ => ?_)
  refine q_load (v := (0, 82, 0)) (p2 := 58) rfl rfl rfl rfl ?_
  refine q_const (p2 := 59) rfl rfl ?_
  refine q_icmp_s (p2 := 60) rfl (by decide) (by omega) (by omega) rfl (fun hb => absurd hb (show ¬ (82 = 70) by omega)) (fun _ => ?_)
  refine q_load (v := (0, 82, 0)) (p2 := 61) rfl rfl rfl rfl ?_
  refine q_const (p2 := 62) rfl rfl ?_
  refine q_icmp_s (p2 := 63) rfl (by decide) (by omega) (by omega) rfl (fun hb => absurd hb (show ¬ (82 = 51) by omega)) (fun _ => ?_)
  refine q_load (v := (6, 232, 0)) (p2 := 64) rfl rfl rfl rfl ?_
  refine q_load (v := (0, st, 0)) (p2 := 65) rfl rfl rfl rfl ?_
  refine q_callvE (xs := [(0, st, 0), (6, 232, 0)]) (p2 := 66) rfl rfl rfl rfl (x_rcv_s 232 hE) rfl (zc_x_oper hT hE hC hS (by omega) hc2 (by omega) (by omega) (by omega) (by omega) hc6 rfl hc7) (Nat.le_refl _) (Nat.le_refl _) rfl (fun φ1 hR1 => ?_)
  obtain ⟨hs1_0, hs1_1, fr1⟩ := hR1
  refine q_load (v := (6, 232, 0)) (p2 := 67) rfl rfl rfl rfl ?_
  refine q_load (v := (0, 82, 0)) (p2 := 68) rfl rfl rfl rfl ?_
  refine q_load (v := (2, va, 0)) (p2 := 69) rfl rfl rfl rfl ?_
  refine q_load (v := (0, pl, 0)) (p2 := 70) rfl rfl rfl rfl ?_
  have hm2 := (zq_E_at hE (fr1 232 (by decide) (by decide)))
  have hm3 := (x_sch_at hS (fun j h1 h2 => (fr1 j (by omega) (by omega))))
  refine q_callvE (xs := [(0, pl, 0), (2, va, 0), (0, 82, 0), (6, 232, 0)]) (p2 := 71) rfl rfl rfl rfl (x_rcv_s 232 hm2) rfl (zc_x_const82 hs1_0 hm2 hs1_1 hm3 (by omega) (by omega) (by omega) hc9 rfl rfl) (Nat.le_refl _) (Nat.le_refl _) rfl (fun φ4 hR4 => ?_)
  obtain ⟨hs4_0, hs4_1, hs4_2, fr4⟩ := hR4
  refine q_goto rfl ?_
  exact q_ret rfl (⟨rfl, rfl, rfl, hs4_0, hs4_1, hs4_2, fun j hj0 hj1 hj2 => ((fr4 j (by omega) (by omega) (by omega)).trans (fr1 j (by omega) (by omega)))⟩)
theorem zc_a_228_2 {d n sl : Nat} {φ : FH}    : x_f x_P (d + 1) 228 [(0, 2, 0)] φ n sl (x_r φ n sl (0, 1, 0)) := by
  refine x_f_of rfl ?_
  refine q_load (v := (0, 2, 0)) (p2 := 1) rfl rfl rfl rfl ?_
  refine q_switch (tgt := 2) rfl (by decide) rfl ?_
  refine q_const (p2 := 3) rfl rfl ?_
  exact q_retv (v := (0, 1, 0)) rfl rfl (⟨rfl, rfl, rfl, rfl, rfl⟩)
theorem zc_x_base2 {d n sl : Nat} {φ : FH} {tot : Nat} {at_ : Nat} {pl : Nat} {va : Nat} {fa : Nat} {fp : Nat} {sf : Nat} {sp : Nat} {no : Nat} {op : Nat} {K : Nat → Nat} {P : Nat → Nat} {V : Nat → Nat} {top : Nat} {hid : Nat} {lc : Nat} {slo : Nat} {own : Nat} {sk : Nat} {co : Nat → Nat} {st : Nat} {cv : Nat} {k1 : Nat} (hT : zq_T φ tot at_ 2 pl va fa fp sf sp no op K P V) (hE : zq_E φ 1 top hid lc slo own sk) (hC : zq_co φ co) (hS : x_sch φ) (hc0 : no < 500) (hc1 : st < 12000) (hc2 : co (st + 1) = cv) (hc3 : cv < 900) (hc4 : top < 11000) (hc5 : at_ + 1 < tot ∧ tot ≤ 3002) (hc6 : va < 2147483648) (hc7 : K (at_ + 1) = k1) : x_f x_P (d + 3) 324 [(6, 232, 0), (0, st, 0), (11, 0, 0), (11, 0, 0), (11, 0, 0), (11, 0, 0)] φ n sl (x_vR n sl (fun φ2 => zq_T φ2 tot (at_ + 1) k1 (P (at_ + 1)) (V (at_ + 1)) fa fp sf sp (no + 1) op K P V ∧ zq_E φ2 1 (top + 2) hid lc slo own sk ∧ zq_co φ2 (x_s (x_s (x_s co (st + 1) (cv + 1)) top 3) (top + 1) va) ∧ ∀ j, j ≠ 2 → j ≠ 232 → j ≠ 450 → φ2 j = φ j)) := by
  refine x_f_of rfl ?_
  refine q_load (v := (6, 232, 0)) (p2 := 1) rfl rfl rfl rfl ?_
  refine q_getv (v := (6, 2, 0)) (p2 := 2) rfl hE (by decide) rfl rfl ?_
  refine q_getv (v := (0, 2, 0)) (p2 := 3) rfl hT.1 (by decide) rfl rfl ?_
  refine q_switch (tgt := 42) rfl (by decide) rfl ?_
  refine q_load (v := (6, 232, 0)) (p2 := 43) rfl rfl rfl rfl ?_
  refine q_getv (v := (6, 2, 0)) (p2 := 44) rfl hE (by decide) rfl rfl ?_
  refine q_getv (v := (0, 2, 0)) (p2 := 45) rfl hT.1 (by decide) rfl rfl ?_
  refine q_store (loc2 := [(6, 232, 0), (0, st, 0), (0, 2, 0), (11, 0, 0), (11, 0, 0), (11, 0, 0)]) (p2 := 46) rfl rfl rfl rfl rfl ?_
  refine q_load (v := (6, 232, 0)) (p2 := 47) rfl rfl rfl rfl ?_
  refine q_getv (v := (6, 2, 0)) (p2 := 48) rfl hE (by decide) rfl rfl ?_
  refine q_getv (v := (2, va, 0)) (p2 := 49) rfl hT.1 (by decide) rfl rfl ?_
  refine q_store2 (loc2 := [(6, 232, 0), (0, st, 0), (0, 2, 0), (2, va, 0), (11, 0, 0), (11, 0, 0)]) (p2 := 50) rfl rfl rfl rfl rfl ?_
  refine q_load (v := (6, 232, 0)) (p2 := 51) rfl rfl rfl rfl ?_
  refine q_getv (v := (6, 2, 0)) (p2 := 52) rfl hE (by decide) rfl rfl ?_
  refine q_getv (v := (0, pl, 0)) (p2 := 53) rfl hT.1 (by decide) rfl rfl ?_
  refine q_store (loc2 := [(6, 232, 0), (0, st, 0), (0, 2, 0), (2, va, 0), (11, 0, 0), (0, pl, 0)]) (p2 := 54) rfl rfl rfl rfl rfl ?_
  refine q_load (v := (0, 2, 0)) (p2 := 55) rfl rfl rfl rfl ?_
  refine q_callr (xs := [(0, 2, 0)]) (p2 := 56) rfl rfl rfl rfl (fun _ _ => rfl) rfl (zc_a_228_2 ) (Nat.le_refl _) (Nat.le_refl _) rfl ?_
  refine q_if0_s (p2 := 57) rfl (by decide) (by omega) rfl (fun hb => absurd hb (show ¬ (1 = 0) by omega)) (fun _ => ?_)
  refine q_load (v := (0, 2, 0)) (p2 := 58) rfl rfl rfl rfl ?_
  refine q_const (p2 := 59) rfl rfl ?_
  refine q_icmp_s (p2 := 60) rfl (by decide) (by omega) (by omega) rfl (fun hb => absurd hb (show ¬ (2 = 70) by omega)) (fun _ => ?_)
  refine q_load (v := (0, 2, 0)) (p2 := 61) rfl rfl rfl rfl ?_
  refine q_const (p2 := 62) rfl rfl ?_
  refine q_icmp_s (p2 := 63) rfl (by decide) (by omega) (by omega) rfl (fun hb => absurd hb (show ¬ (2 = 51) by omega)) (fun _ => ?_)
  refine q_load (v := (6, 232, 0)) (p2 := 64) rfl rfl rfl rfl ?_
  refine q_load (v := (0, st, 0)) (p2 := 65) rfl rfl rfl rfl ?_
  refine q_callvE (xs := [(0, st, 0), (6, 232, 0)]) (p2 := 66) rfl rfl rfl rfl (x_rcv_s 232 hE) rfl (zc_x_oper hT hE hC hS (by omega) hc2 (by omega) (by omega) (by omega) (by omega) hc7 rfl rfl) (Nat.le_refl _) (Nat.le_refl _) rfl (fun φ1 hR1 => ?_)
  obtain ⟨hs1_0, hs1_1, fr1⟩ := hR1
  refine q_load (v := (6, 232, 0)) (p2 := 67) rfl rfl rfl rfl ?_
  refine q_load (v := (0, 2, 0)) (p2 := 68) rfl rfl rfl rfl ?_
  refine q_load (v := (2, va, 0)) (p2 := 69) rfl rfl rfl rfl ?_
  refine q_load (v := (0, pl, 0)) (p2 := 70) rfl rfl rfl rfl ?_
  have hm2 := (zq_E_at hE (fr1 232 (by decide) (by decide)))
  have hm3 := (x_sch_at hS (fun j h1 h2 => (fr1 j (by omega) (by omega))))
  refine q_callvE (xs := [(0, pl, 0), (2, va, 0), (0, 2, 0), (6, 232, 0)]) (p2 := 71) rfl rfl rfl rfl (x_rcv_s 232 hm2) rfl (zc_x_const2 hm2 hs1_1 hm3 (by omega) (by omega)) (Nat.le_refl _) (Nat.le_refl _) rfl (fun φ4 hR4 => ?_)
  obtain ⟨hs4_0, hs4_1, fr4⟩ := hR4
  refine q_goto rfl ?_
  have hm5 := (zq_T_at hs1_0 (fr4 2 (by decide) (by decide)) (fr4 3 (by decide) (by decide)) (fr4 4 (by decide) (by decide)) (fr4 5 (by decide) (by decide)) (fr4 6 (by decide) (by decide)))
  exact q_ret rfl (⟨rfl, rfl, rfl, hm5, hs4_0, hs4_1, fun j hj0 hj1 hj2 => ((fr4 j (by omega) (by omega)).trans (fr1 j (by omega) (by omega)))⟩)
theorem zc_x_part82_0 {d n sl : Nat} {φ : FH} {tot : Nat} {at_ : Nat} {pl : Nat} {va : Nat} {fa : Nat} {fp : Nat} {sf : Nat} {sp : Nat} {no : Nat} {op : Nat} {K : Nat → Nat} {P : Nat → Nat} {V : Nat → Nat} {top : Nat} {hid : Nat} {lc : Nat} {slo : Nat} {own : Nat} {sk : Nat} {co : Nat → Nat} {st : Nat} {cv : Nat} {w1 : Nat} (hT : zq_T φ tot at_ 82 pl va fa fp sf sp no op K P V) (hE : zq_E φ 1 top hid lc slo own sk) (hC : zq_co φ co) (hS : x_sch φ) (hc0 : no < 500) (hc1 : st < 12000) (hc2 : co (st + 1) = cv) (hc3 : cv < 900) (hc4 : top < 11000) (hc5 : at_ + 2 < tot ∧ tot ≤ 3002) (hc6 : K (at_ + 1) = 2) (hc7 : V (at_ + 1) = w1) (hc8 : w1 < 2147483648) (hc9 : K (at_ + 2) = 0) : x_f x_P (d + 4) 323 [(6, 232, 0), (0, st, 0), (11, 0, 0)] φ n sl (x_vR n sl (fun φ2 => zq_T φ2 tot (at_ + 2) 0 (P (at_ + 2)) (V (at_ + 2)) fa fp sf sp (no + 1) op K P V ∧ zq_E φ2 1 (top + 2) hid lc slo own sk ∧ zq_co φ2 (x_s (x_s (x_s co (st + 1) (cv + 1)) top 7) (top + 1) w1) ∧ ∀ j, j ≠ 2 → j ≠ 232 → j ≠ 450 → φ2 j = φ j)) := by
  refine x_f_of rfl ?_
  refine q_load (v := (6, 232, 0)) (p2 := 1) rfl rfl rfl rfl ?_
  refine q_load (v := (0, st, 0)) (p2 := 2) rfl rfl rfl rfl ?_
  refine q_callvE (xs := [(0, st, 0), (6, 232, 0)]) (p2 := 3) rfl rfl rfl rfl (x_rcv_s 232 hE) rfl (zc_x_base82 hT hE hC hS (by omega) (by omega) hc2 (by omega) (by omega) (by omega) hc6 hc7 (by omega) hc9) (Nat.le_refl _) (Nat.le_refl _) rfl (fun φ1 hR1 => ?_)
  obtain ⟨hs1_0, hs1_1, hs1_2, fr1⟩ := hR1
  refine q_const (p2 := 4) rfl rfl ?_
  refine q_store (loc2 := [(6, 232, 0), (0, st, 0), (0, 0, 0)]) (p2 := 5) rfl rfl rfl rfl rfl ?_
  refine q_load (v := (0, 0, 0)) (p2 := 6) rfl rfl rfl rfl ?_
  refine q_const (p2 := 7) rfl rfl ?_
  refine q_icmp_s (p2 := 8) rfl (by decide) (by omega) (by omega) rfl (fun hb => absurd hb (show ¬ (¬ (0 < 1000000)) by omega)) (fun _ => ?_)
  refine q_load (v := (6, 232, 0)) (p2 := 9) rfl rfl rfl rfl ?_
  refine q_getv (v := (6, 2, 0)) (p2 := 10) rfl hs1_1 (by decide) rfl rfl ?_
  refine q_const (p2 := 11) rfl rfl ?_
  refine q_callr (xs := [(0, 80, 0), (6, 2, 0)]) (p2 := 12) rfl rfl rfl rfl (x_rcv_s 2 hs1_0.1) rfl (zc_t_is_0 hs1_0 (by omega) (by omega)) (Nat.le_refl _) (Nat.le_refl _) rfl ?_
  refine q_if0_s (p2 := 13) rfl (by decide) (by omega) rfl (fun hb => absurd hb (show ¬ (¬ (0 = 0)) by omega)) (fun _ => ?_)
  refine q_load (v := (6, 232, 0)) (p2 := 14) rfl rfl rfl rfl ?_
  refine q_getv (v := (6, 2, 0)) (p2 := 15) rfl hs1_1 (by decide) rfl rfl ?_
  refine q_const (p2 := 16) rfl rfl ?_
  refine q_callr (xs := [(0, 75, 0), (6, 2, 0)]) (p2 := 17) rfl rfl rfl rfl (x_rcv_s 2 hs1_0.1) rfl (zc_t_is_0 hs1_0 (by omega) (by omega)) (Nat.le_refl _) (Nat.le_refl _) rfl ?_
  refine q_if0_s (p2 := 18) rfl (by decide) (by omega) rfl (fun _ => ?_) (fun hb => absurd (show 0 = 0 by omega) hb)
  exact q_ret rfl (⟨rfl, rfl, rfl, hs1_0, hs1_1, hs1_2, fun j hj0 hj1 hj2 => (fr1 j (by omega) (by omega) (by omega))⟩)
theorem zc_x_fact82_0 {d n sl : Nat} {φ : FH} {tot : Nat} {at_ : Nat} {pl : Nat} {va : Nat} {fa : Nat} {fp : Nat} {sf : Nat} {sp : Nat} {no : Nat} {op : Nat} {K : Nat → Nat} {P : Nat → Nat} {V : Nat → Nat} {top : Nat} {hid : Nat} {lc : Nat} {slo : Nat} {own : Nat} {sk : Nat} {co : Nat → Nat} {w1 : Nat} (hT : zq_T φ tot at_ 82 pl va fa fp sf sp no op K P V) (hE : zq_E φ 1 top hid lc slo own sk) (hC : zq_co φ co) (hS : x_sch φ) (hc0 : no < 500) (hc1 : top < 10900) (hc2 : at_ + 2 < tot ∧ tot ≤ 3002) (hc3 : K (at_ + 1) = 2) (hc4 : V (at_ + 1) = w1) (hc5 : w1 < 2147483648) (hc6 : K (at_ + 2) = 0) : x_f x_P (d + 5) 318 [(6, 232, 0), (11, 0, 0), (11, 0, 0)] φ n sl (x_vR n sl (fun φ2 => zq_T φ2 tot (at_ + 2) 0 (P (at_ + 2)) (V (at_ + 2)) fa fp sf sp (no + 1) op K P V ∧ zq_E φ2 1 (top + 4) hid lc slo own sk ∧ zq_co φ2 (x_s (x_s (x_s (x_s (x_s co top 1) (top + 1) 0) (top + 1) 1) (top + 2) 7) (top + 3) w1) ∧ ∀ j, j ≠ 2 → j ≠ 232 → j ≠ 450 → φ2 j = φ j)) := by
  refine x_f_of rfl ?_
  refine q_load (v := (6, 232, 0)) (p2 := 1) rfl rfl rfl rfl ?_
  refine q_getv (v := (0, top, 0)) (p2 := 2) rfl hE (by decide) rfl rfl ?_
  refine q_store (loc2 := [(6, 232, 0), (0, top, 0), (11, 0, 0)]) (p2 := 3) rfl rfl rfl rfl rfl ?_
  refine q_load (v := (6, 232, 0)) (p2 := 4) rfl rfl rfl rfl ?_
  refine q_const (p2 := 5) rfl rfl ?_
  refine q_const (p2 := 6) rfl rfl ?_
  refine q_callvE (xs := [(0, 0, 0), (0, 1, 0), (6, 232, 0)]) (p2 := 7) rfl rfl rfl rfl (x_rcv_s 232 hE) rfl (zc_x_em2 hE hC hS (by omega)) (Nat.le_refl _) (Nat.le_refl _) rfl (fun φ1 hR1 => ?_)
  obtain ⟨hs1_0, hs1_1, fr1⟩ := hR1
  refine q_load (v := (6, 232, 0)) (p2 := 8) rfl rfl rfl rfl ?_
  refine q_getv (v := (6, 2, 0)) (p2 := 9) rfl hs1_0 (by decide) rfl rfl ?_
  have hm2 := (zq_T_at hT (fr1 2 (by decide) (by decide)) (fr1 3 (by decide) (by decide)) (fr1 4 (by decide) (by decide)) (fr1 5 (by decide) (by decide)) (fr1 6 (by decide) (by decide)))
  refine q_getv (v := (0, 82, 0)) (p2 := 10) rfl hm2.1 (by decide) rfl rfl ?_
  refine q_store (loc2 := [(6, 232, 0), (0, top, 0), (0, 82, 0)]) (p2 := 11) rfl rfl rfl rfl rfl ?_
  refine q_load (v := (0, 82, 0)) (p2 := 12) rfl rfl rfl rfl ?_
  refine q_const (p2 := 13) rfl rfl ?_
  refine q_icmp_s (p2 := 14) rfl (by decide) (by omega) (by omega) rfl (fun hb => absurd hb (show ¬ (82 = 70) by omega)) (fun _ => ?_)
  refine q_load (v := (0, 82, 0)) (p2 := 15) rfl rfl rfl rfl ?_
  refine q_const (p2 := 16) rfl rfl ?_
  refine q_icmp_s (p2 := 17) rfl (by decide) (by omega) (by omega) rfl (fun hb => absurd hb (show ¬ (82 = 51) by omega)) (fun _ => ?_)
  refine q_load (v := (6, 232, 0)) (p2 := 18) rfl rfl rfl rfl ?_
  refine q_load (v := (0, top, 0)) (p2 := 19) rfl rfl rfl rfl ?_
  have hm3 := (x_sch_at hS (fun j h1 h2 => (fr1 j (by omega) (by omega))))
  refine q_callvE (xs := [(0, top, 0), (6, 232, 0)]) (p2 := 20) rfl rfl rfl rfl (x_rcv_s 232 hs1_0) rfl (zc_x_part82_0 hm2 hs1_0 hs1_1 hm3 (by omega) (by omega) (x_s_eq) (by omega) (by omega) (by omega) hc3 hc4 (by omega) hc6) (Nat.le_refl _) (Nat.le_refl _) rfl (fun φ4 hR4 => ?_)
  obtain ⟨hs4_0, hs4_1, hs4_2, fr4⟩ := hR4
  exact q_ret rfl (⟨rfl, rfl, rfl, hs4_0, hs4_1, hs4_2, fun j hj0 hj1 hj2 => ((fr4 j (by omega) (by omega) (by omega)).trans (fr1 j (by omega) (by omega)))⟩)
theorem zc_a_319_0 {d n sl : Nat} {φ : FH}    : x_f x_P (d + 1) 319 [(0, 0, 0)] φ n sl (x_r φ n sl (0, 0, 0)) := by
  refine x_f_of rfl ?_
  refine q_load (v := (0, 0, 0)) (p2 := 1) rfl rfl rfl rfl ?_
  refine q_const (p2 := 2) rfl rfl ?_
  refine q_icmp_s (p2 := 3) rfl (by decide) (by omega) (by omega) rfl (fun hb => absurd hb (show ¬ (0 = 71) by omega)) (fun _ => ?_)
  refine q_load (v := (0, 0, 0)) (p2 := 4) rfl rfl rfl rfl ?_
  refine q_const (p2 := 5) rfl rfl ?_
  refine q_icmp_s (p2 := 6) rfl (by decide) (by omega) (by omega) rfl (fun hb => absurd hb (show ¬ (0 = 72) by omega)) (fun _ => ?_)
  refine q_load (v := (0, 0, 0)) (p2 := 7) rfl rfl rfl rfl ?_
  refine q_const (p2 := 8) rfl rfl ?_
  refine q_icmp_s (p2 := 9) rfl (by decide) (by omega) (by omega) rfl (fun hb => absurd hb (show ¬ (0 = 53) by omega)) (fun _ => ?_)
  refine q_load (v := (0, 0, 0)) (p2 := 10) rfl rfl rfl rfl ?_
  refine q_const (p2 := 11) rfl rfl ?_
  refine q_icmp_s (p2 := 12) rfl (by decide) (by omega) (by omega) rfl (fun hb => absurd hb (show ¬ (0 = 54) by omega)) (fun _ => ?_)
  refine q_load (v := (0, 0, 0)) (p2 := 13) rfl rfl rfl rfl ?_
  refine q_const (p2 := 14) rfl rfl ?_
  refine q_icmp_s (p2 := 15) rfl (by decide) (by omega) (by omega) rfl (fun _ => ?_) (fun hb => absurd (show ¬ (0 = 48) by omega) hb)
  refine q_const (p2 := 18) rfl rfl ?_
  exact q_retv (v := (0, 0, 0)) rfl rfl (⟨rfl, rfl, rfl, rfl, rfl⟩)
theorem zc_x_term82_0 {d n sl : Nat} {φ : FH} {tot : Nat} {at_ : Nat} {pl : Nat} {va : Nat} {fa : Nat} {fp : Nat} {sf : Nat} {sp : Nat} {no : Nat} {op : Nat} {K : Nat → Nat} {P : Nat → Nat} {V : Nat → Nat} {top : Nat} {hid : Nat} {lc : Nat} {slo : Nat} {own : Nat} {sk : Nat} {co : Nat → Nat} {w1 : Nat} (hT : zq_T φ tot at_ 82 pl va fa fp sf sp no op K P V) (hE : zq_E φ 1 top hid lc slo own sk) (hC : zq_co φ co) (hS : x_sch φ) (hc0 : no < 500) (hc1 : top < 10800) (hc2 : at_ + 2 < tot ∧ tot ≤ 3002) (hc3 : K (at_ + 1) = 2) (hc4 : V (at_ + 1) = w1) (hc5 : w1 < 2147483648) (hc6 : K (at_ + 2) = 0) : x_f x_P (d + 6) 291 [(6, 232, 0), (11, 0, 0), (11, 0, 0), (11, 0, 0)] φ n sl (x_vR n sl (fun φ2 => zq_T φ2 tot (at_ + 2) 0 (P (at_ + 2)) (V (at_ + 2)) fa fp sf sp (no + 1) op K P V ∧ zq_E φ2 1 (top + 4) hid lc slo own sk ∧ zq_co φ2 (x_s (x_s (x_s (x_s (x_s co top 1) (top + 1) 0) (top + 1) 1) (top + 2) 7) (top + 3) w1) ∧ ∀ j, j ≠ 2 → j ≠ 232 → j ≠ 450 → φ2 j = φ j)) := by
  refine x_f_of rfl ?_
  refine q_load (v := (6, 232, 0)) (p2 := 1) rfl rfl rfl rfl ?_
  refine q_getv (v := (0, top, 0)) (p2 := 2) rfl hE (by decide) rfl rfl ?_
  refine q_store (loc2 := [(6, 232, 0), (0, top, 0), (11, 0, 0), (11, 0, 0)]) (p2 := 3) rfl rfl rfl rfl rfl ?_
  refine q_load (v := (6, 232, 0)) (p2 := 4) rfl rfl rfl rfl ?_
  refine q_callvE (xs := [(6, 232, 0)]) (p2 := 5) rfl rfl rfl rfl (x_rcv_s 232 hE) rfl (zc_x_fact82_0 hT hE hC hS (by omega) (by omega) (by omega) hc3 hc4 (by omega) hc6) (Nat.le_refl _) (Nat.le_refl _) rfl (fun φ1 hR1 => ?_)
  obtain ⟨hs1_0, hs1_1, hs1_2, fr1⟩ := hR1
  refine q_const (p2 := 6) rfl rfl ?_
  refine q_store (loc2 := [(6, 232, 0), (0, top, 0), (0, 0, 0), (11, 0, 0)]) (p2 := 7) rfl rfl rfl rfl rfl ?_
  refine q_load (v := (0, 0, 0)) (p2 := 8) rfl rfl rfl rfl ?_
  refine q_const (p2 := 9) rfl rfl ?_
  refine q_icmp_s (p2 := 10) rfl (by decide) (by omega) (by omega) rfl (fun hb => absurd hb (show ¬ (¬ (0 < 1000000)) by omega)) (fun _ => ?_)
  refine q_load (v := (6, 232, 0)) (p2 := 11) rfl rfl rfl rfl ?_
  refine q_getv (v := (6, 2, 0)) (p2 := 12) rfl hs1_1 (by decide) rfl rfl ?_
  refine q_getv (v := (0, 0, 0)) (p2 := 13) rfl hs1_0.1 (by decide) rfl rfl ?_
  refine q_callr (xs := [(0, 0, 0)]) (p2 := 14) rfl rfl rfl rfl (fun _ _ => rfl) rfl (zc_a_319_0 ) (Nat.le_refl _) (Nat.le_refl _) rfl ?_
  refine q_if0_s (p2 := 15) rfl (by decide) (by omega) rfl (fun _ => ?_) (fun hb => absurd (show 0 = 0 by omega) hb)
  exact q_ret rfl (⟨rfl, rfl, rfl, hs1_0, hs1_1, hs1_2, fun j hj0 hj1 hj2 => (fr1 j (by omega) (by omega) (by omega))⟩)
theorem zc_a_292_0 {d n sl : Nat} {φ : FH}    : x_f x_P (d + 1) 292 [(0, 0, 0)] φ n sl (x_r φ n sl (0, 0, 0)) := by
  refine x_f_of rfl ?_
  refine q_load (v := (0, 0, 0)) (p2 := 1) rfl rfl rfl rfl ?_
  refine q_const (p2 := 2) rfl rfl ?_
  refine q_icmp_s (p2 := 3) rfl (by decide) (by omega) (by omega) rfl (fun hb => absurd hb (show ¬ (0 = 69) by omega)) (fun _ => ?_)
  refine q_load (v := (0, 0, 0)) (p2 := 4) rfl rfl rfl rfl ?_
  refine q_const (p2 := 5) rfl rfl ?_
  refine q_icmp_s (p2 := 6) rfl (by decide) (by omega) (by omega) rfl (fun hb => absurd hb (show ¬ (0 = 70) by omega)) (fun _ => ?_)
  refine q_load (v := (0, 0, 0)) (p2 := 7) rfl rfl rfl rfl ?_
  refine q_const (p2 := 8) rfl rfl ?_
  refine q_icmp_s (p2 := 9) rfl (by decide) (by omega) (by omega) rfl (fun hb => absurd hb (show ¬ (0 = 49) by omega)) (fun _ => ?_)
  refine q_load (v := (0, 0, 0)) (p2 := 10) rfl rfl rfl rfl ?_
  refine q_const (p2 := 11) rfl rfl ?_
  refine q_icmp_s (p2 := 12) rfl (by decide) (by omega) (by omega) rfl (fun _ => ?_) (fun hb => absurd (show ¬ (0 = 50) by omega) hb)
  refine q_const (p2 := 15) rfl rfl ?_
  exact q_retv (v := (0, 0, 0)) rfl rfl (⟨rfl, rfl, rfl, rfl, rfl⟩)
theorem zc_x_sum82_0 {d n sl : Nat} {φ : FH} {tot : Nat} {at_ : Nat} {pl : Nat} {va : Nat} {fa : Nat} {fp : Nat} {sf : Nat} {sp : Nat} {no : Nat} {op : Nat} {K : Nat → Nat} {P : Nat → Nat} {V : Nat → Nat} {top : Nat} {hid : Nat} {lc : Nat} {slo : Nat} {own : Nat} {sk : Nat} {co : Nat → Nat} {w1 : Nat} (hT : zq_T φ tot at_ 82 pl va fa fp sf sp no op K P V) (hE : zq_E φ 1 top hid lc slo own sk) (hC : zq_co φ co) (hS : x_sch φ) (hc0 : no < 500) (hc1 : top < 10700) (hc2 : at_ + 2 < tot ∧ tot ≤ 3002) (hc3 : K (at_ + 1) = 2) (hc4 : V (at_ + 1) = w1) (hc5 : w1 < 2147483648) (hc6 : K (at_ + 2) = 0) : x_f x_P (d + 7) 245 [(6, 232, 0), (11, 0, 0), (11, 0, 0), (11, 0, 0)] φ n sl (x_vR n sl (fun φ2 => zq_T φ2 tot (at_ + 2) 0 (P (at_ + 2)) (V (at_ + 2)) fa fp sf sp (no + 1) op K P V ∧ zq_E φ2 1 (top + 4) hid lc slo own sk ∧ zq_co φ2 (x_s (x_s (x_s (x_s (x_s co top 1) (top + 1) 0) (top + 1) 1) (top + 2) 7) (top + 3) w1) ∧ ∀ j, j ≠ 2 → j ≠ 232 → j ≠ 450 → φ2 j = φ j)) := by
  refine x_f_of rfl ?_
  refine q_load (v := (6, 232, 0)) (p2 := 1) rfl rfl rfl rfl ?_
  refine q_getv (v := (0, top, 0)) (p2 := 2) rfl hE (by decide) rfl rfl ?_
  refine q_store (loc2 := [(6, 232, 0), (0, top, 0), (11, 0, 0), (11, 0, 0)]) (p2 := 3) rfl rfl rfl rfl rfl ?_
  refine q_load (v := (6, 232, 0)) (p2 := 4) rfl rfl rfl rfl ?_
  refine q_callvE (xs := [(6, 232, 0)]) (p2 := 5) rfl rfl rfl rfl (x_rcv_s 232 hE) rfl (zc_x_term82_0 hT hE hC hS (by omega) (by omega) (by omega) hc3 hc4 (by omega) hc6) (Nat.le_refl _) (Nat.le_refl _) rfl (fun φ1 hR1 => ?_)
  obtain ⟨hs1_0, hs1_1, hs1_2, fr1⟩ := hR1
  refine q_const (p2 := 6) rfl rfl ?_
  refine q_store (loc2 := [(6, 232, 0), (0, top, 0), (0, 0, 0), (11, 0, 0)]) (p2 := 7) rfl rfl rfl rfl rfl ?_
  refine q_load (v := (0, 0, 0)) (p2 := 8) rfl rfl rfl rfl ?_
  refine q_const (p2 := 9) rfl rfl ?_
  refine q_icmp_s (p2 := 10) rfl (by decide) (by omega) (by omega) rfl (fun hb => absurd hb (show ¬ (¬ (0 < 1000000)) by omega)) (fun _ => ?_)
  refine q_load (v := (6, 232, 0)) (p2 := 11) rfl rfl rfl rfl ?_
  refine q_getv (v := (6, 2, 0)) (p2 := 12) rfl hs1_1 (by decide) rfl rfl ?_
  refine q_getv (v := (0, 0, 0)) (p2 := 13) rfl hs1_0.1 (by decide) rfl rfl ?_
  refine q_callr (xs := [(0, 0, 0)]) (p2 := 14) rfl rfl rfl rfl (fun _ _ => rfl) rfl (zc_a_292_0 ) (Nat.le_refl _) (Nat.le_refl _) rfl ?_
  refine q_if0_s (p2 := 15) rfl (by decide) (by omega) rfl (fun _ => ?_) (fun hb => absurd (show 0 = 0 by omega) hb)
  exact q_ret rfl (⟨rfl, rfl, rfl, hs1_0, hs1_1, hs1_2, fun j hj0 hj1 hj2 => (fr1 j (by omega) (by omega) (by omega))⟩)
theorem zc_x_exp82_0 {d n sl : Nat} {φ : FH} {tot : Nat} {at_ : Nat} {pl : Nat} {va : Nat} {fa : Nat} {fp : Nat} {sf : Nat} {sp : Nat} {no : Nat} {op : Nat} {K : Nat → Nat} {P : Nat → Nat} {V : Nat → Nat} {top : Nat} {hid : Nat} {lc : Nat} {slo : Nat} {own : Nat} {sk : Nat} {co : Nat → Nat} {w1 : Nat} (hT : zq_T φ tot at_ 82 pl va fa fp sf sp no op K P V) (hE : zq_E φ 1 top hid lc slo own sk) (hC : zq_co φ co) (hS : x_sch φ) (hc0 : no < 500) (hc1 : top < 10600) (hc2 : at_ + 2 < tot ∧ tot ≤ 3002) (hc3 : K (at_ + 1) = 2) (hc4 : V (at_ + 1) = w1) (hc5 : w1 < 2147483648) (hc6 : K (at_ + 2) = 0) : x_f x_P (d + 8) 177 [(6, 232, 0), (11, 0, 0), (11, 0, 0)] φ n sl (x_vR n sl (fun φ2 => zq_T φ2 tot (at_ + 2) 0 (P (at_ + 2)) (V (at_ + 2)) fa fp sf sp (no + 1) op K P V ∧ zq_E φ2 1 (top + 4) hid lc slo own sk ∧ zq_co φ2 (x_s (x_s (x_s (x_s (x_s co top 1) (top + 1) 0) (top + 1) 1) (top + 2) 7) (top + 3) w1) ∧ ∀ j, j ≠ 2 → j ≠ 232 → j ≠ 450 → φ2 j = φ j)) := by
  refine x_f_of rfl ?_
  refine q_load (v := (6, 232, 0)) (p2 := 1) rfl rfl rfl rfl ?_
  refine q_getv (v := (0, top, 0)) (p2 := 2) rfl hE (by decide) rfl rfl ?_
  refine q_store (loc2 := [(6, 232, 0), (0, top, 0), (11, 0, 0)]) (p2 := 3) rfl rfl rfl rfl rfl ?_
  refine q_load (v := (6, 232, 0)) (p2 := 4) rfl rfl rfl rfl ?_
  refine q_callvE (xs := [(6, 232, 0)]) (p2 := 5) rfl rfl rfl rfl (x_rcv_s 232 hE) rfl (zc_x_sum82_0 hT hE hC hS (by omega) (by omega) (by omega) hc3 hc4 (by omega) hc6) (Nat.le_refl _) (Nat.le_refl _) rfl (fun φ1 hR1 => ?_)
  obtain ⟨hs1_0, hs1_1, hs1_2, fr1⟩ := hR1
  refine q_load (v := (6, 232, 0)) (p2 := 6) rfl rfl rfl rfl ?_
  refine q_getv (v := (6, 2, 0)) (p2 := 7) rfl hs1_1 (by decide) rfl rfl ?_
  refine q_getv (v := (0, 0, 0)) (p2 := 8) rfl hs1_0.1 (by decide) rfl rfl ?_
  refine q_store (loc2 := [(6, 232, 0), (0, top, 0), (0, 0, 0)]) (p2 := 9) rfl rfl rfl rfl rfl ?_
  refine q_load (v := (0, 0, 0)) (p2 := 10) rfl rfl rfl rfl ?_
  refine q_const (p2 := 11) rfl rfl ?_
  refine q_icmp_s (p2 := 12) rfl (by decide) (by omega) (by omega) rfl (fun _ => ?_) (fun hb => absurd (show 0 < 60 by omega) hb)
  refine q_load (v := (0, 0, 0)) (p2 := 16) rfl rfl rfl rfl ?_
  refine q_const (p2 := 17) rfl rfl ?_
  refine q_icmp_s (p2 := 18) rfl (by decide) (by omega) (by omega) rfl (fun _ => ?_) (fun hb => absurd (show ¬ (0 = 52) by omega) hb)
  exact q_ret rfl (⟨rfl, rfl, rfl, hs1_0, hs1_1, hs1_2, fun j hj0 hj1 hj2 => (fr1 j (by omega) (by omega) (by omega))⟩)
theorem zc_x_part82_77 {d n sl : Nat} {φ : FH} {tot : Nat} {at_ : Nat} {pl : Nat} {va : Nat} {fa : Nat} {fp : Nat} {sf : Nat} {sp : Nat} {no : Nat} {op : Nat} {K : Nat → Nat} {P : Nat → Nat} {V : Nat → Nat} {top : Nat} {hid : Nat} {lc : Nat} {slo : Nat} {own : Nat} {sk : Nat} {co : Nat → Nat} {st : Nat} {cv : Nat} {w1 : Nat} (hT : zq_T φ tot at_ 82 pl va fa fp sf sp no op K P V) (hE : zq_E φ 1 top hid lc slo own sk) (hC : zq_co φ co) (hS : x_sch φ) (hc0 : no < 500) (hc1 : st < 12000) (hc2 : co (st + 1) = cv) (hc3 : cv < 900) (hc4 : top < 11000) (hc5 : at_ + 2 < tot ∧ tot ≤ 3002) (hc6 : K (at_ + 1) = 2) (hc7 : V (at_ + 1) = w1) (hc8 : w1 < 2147483648) (hc9 : K (at_ + 2) = 77) : x_f x_P (d + 4) 323 [(6, 232, 0), (0, st, 0), (11, 0, 0)] φ n sl (x_vR n sl (fun φ2 => zq_T φ2 tot (at_ + 2) 77 (P (at_ + 2)) (V (at_ + 2)) fa fp sf sp (no + 1) op K P V ∧ zq_E φ2 1 (top + 2) hid lc slo own sk ∧ zq_co φ2 (x_s (x_s (x_s co (st + 1) (cv + 1)) top 7) (top + 1) w1) ∧ ∀ j, j ≠ 2 → j ≠ 232 → j ≠ 450 → φ2 j = φ j)) := by
  refine x_f_of rfl ?_
  refine q_load (v := (6, 232, 0)) (p2 := 1) rfl rfl rfl rfl ?_
  refine q_load (v := (0, st, 0)) (p2 := 2) rfl rfl rfl rfl ?_
  refine q_callvE (xs := [(0, st, 0), (6, 232, 0)]) (p2 := 3) rfl rfl rfl rfl (x_rcv_s 232 hE) rfl (zc_x_base82 hT hE hC hS (by omega) (by omega) hc2 (by omega) (by omega) (by omega) hc6 hc7 (by omega) hc9) (Nat.le_refl _) (Nat.le_refl _) rfl (fun φ1 hR1 => ?_)
  obtain ⟨hs1_0, hs1_1, hs1_2, fr1⟩ := hR1
  refine q_const (p2 := 4) rfl rfl ?_
  refine q_store (loc2 := [(6, 232, 0), (0, st, 0), (0, 0, 0)]) (p2 := 5) rfl rfl rfl rfl rfl ?_
  refine q_load (v := (0, 0, 0)) (p2 := 6) rfl rfl rfl rfl ?_
  refine q_const (p2 := 7) rfl rfl ?_
  refine q_icmp_s (p2 := 8) rfl (by decide) (by omega) (by omega) rfl (fun hb => absurd hb (show ¬ (¬ (0 < 1000000)) by omega)) (fun _ => ?_)
  refine q_load (v := (6, 232, 0)) (p2 := 9) rfl rfl rfl rfl ?_
  refine q_getv (v := (6, 2, 0)) (p2 := 10) rfl hs1_1 (by decide) rfl rfl ?_
  refine q_const (p2 := 11) rfl rfl ?_
  refine q_callr (xs := [(0, 80, 0), (6, 2, 0)]) (p2 := 12) rfl rfl rfl rfl (x_rcv_s 2 hs1_0.1) rfl (zc_t_is_0 hs1_0 (by omega) (by omega)) (Nat.le_refl _) (Nat.le_refl _) rfl ?_
  refine q_if0_s (p2 := 13) rfl (by decide) (by omega) rfl (fun hb => absurd hb (show ¬ (¬ (0 = 0)) by omega)) (fun _ => ?_)
  refine q_load (v := (6, 232, 0)) (p2 := 14) rfl rfl rfl rfl ?_
  refine q_getv (v := (6, 2, 0)) (p2 := 15) rfl hs1_1 (by decide) rfl rfl ?_
  refine q_const (p2 := 16) rfl rfl ?_
  refine q_callr (xs := [(0, 75, 0), (6, 2, 0)]) (p2 := 17) rfl rfl rfl rfl (x_rcv_s 2 hs1_0.1) rfl (zc_t_is_0 hs1_0 (by omega) (by omega)) (Nat.le_refl _) (Nat.le_refl _) rfl ?_
  refine q_if0_s (p2 := 18) rfl (by decide) (by omega) rfl (fun _ => ?_) (fun hb => absurd (show 0 = 0 by omega) hb)
  exact q_ret rfl (⟨rfl, rfl, rfl, hs1_0, hs1_1, hs1_2, fun j hj0 hj1 hj2 => (fr1 j (by omega) (by omega) (by omega))⟩)
theorem zc_x_fact82_77 {d n sl : Nat} {φ : FH} {tot : Nat} {at_ : Nat} {pl : Nat} {va : Nat} {fa : Nat} {fp : Nat} {sf : Nat} {sp : Nat} {no : Nat} {op : Nat} {K : Nat → Nat} {P : Nat → Nat} {V : Nat → Nat} {top : Nat} {hid : Nat} {lc : Nat} {slo : Nat} {own : Nat} {sk : Nat} {co : Nat → Nat} {w1 : Nat} (hT : zq_T φ tot at_ 82 pl va fa fp sf sp no op K P V) (hE : zq_E φ 1 top hid lc slo own sk) (hC : zq_co φ co) (hS : x_sch φ) (hc0 : no < 500) (hc1 : top < 10900) (hc2 : at_ + 2 < tot ∧ tot ≤ 3002) (hc3 : K (at_ + 1) = 2) (hc4 : V (at_ + 1) = w1) (hc5 : w1 < 2147483648) (hc6 : K (at_ + 2) = 77) : x_f x_P (d + 5) 318 [(6, 232, 0), (11, 0, 0), (11, 0, 0)] φ n sl (x_vR n sl (fun φ2 => zq_T φ2 tot (at_ + 2) 77 (P (at_ + 2)) (V (at_ + 2)) fa fp sf sp (no + 1) op K P V ∧ zq_E φ2 1 (top + 4) hid lc slo own sk ∧ zq_co φ2 (x_s (x_s (x_s (x_s (x_s co top 1) (top + 1) 0) (top + 1) 1) (top + 2) 7) (top + 3) w1) ∧ ∀ j, j ≠ 2 → j ≠ 232 → j ≠ 450 → φ2 j = φ j)) := by
  refine x_f_of rfl ?_
  refine q_load (v := (6, 232, 0)) (p2 := 1) rfl rfl rfl rfl ?_
  refine q_getv (v := (0, top, 0)) (p2 := 2) rfl hE (by decide) rfl rfl ?_
  refine q_store (loc2 := [(6, 232, 0), (0, top, 0), (11, 0, 0)]) (p2 := 3) rfl rfl rfl rfl rfl ?_
  refine q_load (v := (6, 232, 0)) (p2 := 4) rfl rfl rfl rfl ?_
  refine q_const (p2 := 5) rfl rfl ?_
  refine q_const (p2 := 6) rfl rfl ?_
  refine q_callvE (xs := [(0, 0, 0), (0, 1, 0), (6, 232, 0)]) (p2 := 7) rfl rfl rfl rfl (x_rcv_s 232 hE) rfl (zc_x_em2 hE hC hS (by omega)) (Nat.le_refl _) (Nat.le_refl _) rfl (fun φ1 hR1 => ?_)
  obtain ⟨hs1_0, hs1_1, fr1⟩ := hR1
  refine q_load (v := (6, 232, 0)) (p2 := 8) rfl rfl rfl rfl ?_
  refine q_getv (v := (6, 2, 0)) (p2 := 9) rfl hs1_0 (by decide) rfl rfl ?_
  have hm2 := (zq_T_at hT (fr1 2 (by decide) (by decide)) (fr1 3 (by decide) (by decide)) (fr1 4 (by decide) (by decide)) (fr1 5 (by decide) (by decide)) (fr1 6 (by decide) (by decide)))
  refine q_getv (v := (0, 82, 0)) (p2 := 10) rfl hm2.1 (by decide) rfl rfl ?_
  refine q_store (loc2 := [(6, 232, 0), (0, top, 0), (0, 82, 0)]) (p2 := 11) rfl rfl rfl rfl rfl ?_
  refine q_load (v := (0, 82, 0)) (p2 := 12) rfl rfl rfl rfl ?_
  refine q_const (p2 := 13) rfl rfl ?_
  refine q_icmp_s (p2 := 14) rfl (by decide) (by omega) (by omega) rfl (fun hb => absurd hb (show ¬ (82 = 70) by omega)) (fun _ => ?_)
  refine q_load (v := (0, 82, 0)) (p2 := 15) rfl rfl rfl rfl ?_
  refine q_const (p2 := 16) rfl rfl ?_
  refine q_icmp_s (p2 := 17) rfl (by decide) (by omega) (by omega) rfl (fun hb => absurd hb (show ¬ (82 = 51) by omega)) (fun _ => ?_)
  refine q_load (v := (6, 232, 0)) (p2 := 18) rfl rfl rfl rfl ?_
  refine q_load (v := (0, top, 0)) (p2 := 19) rfl rfl rfl rfl ?_
  have hm3 := (x_sch_at hS (fun j h1 h2 => (fr1 j (by omega) (by omega))))
  refine q_callvE (xs := [(0, top, 0), (6, 232, 0)]) (p2 := 20) rfl rfl rfl rfl (x_rcv_s 232 hs1_0) rfl (zc_x_part82_77 hm2 hs1_0 hs1_1 hm3 (by omega) (by omega) (x_s_eq) (by omega) (by omega) (by omega) hc3 hc4 (by omega) hc6) (Nat.le_refl _) (Nat.le_refl _) rfl (fun φ4 hR4 => ?_)
  obtain ⟨hs4_0, hs4_1, hs4_2, fr4⟩ := hR4
  exact q_ret rfl (⟨rfl, rfl, rfl, hs4_0, hs4_1, hs4_2, fun j hj0 hj1 hj2 => ((fr4 j (by omega) (by omega) (by omega)).trans (fr1 j (by omega) (by omega)))⟩)
theorem zc_a_319_77 {d n sl : Nat} {φ : FH}    : x_f x_P (d + 1) 319 [(0, 77, 0)] φ n sl (x_r φ n sl (0, 0, 0)) := by
  refine x_f_of rfl ?_
  refine q_load (v := (0, 77, 0)) (p2 := 1) rfl rfl rfl rfl ?_
  refine q_const (p2 := 2) rfl rfl ?_
  refine q_icmp_s (p2 := 3) rfl (by decide) (by omega) (by omega) rfl (fun hb => absurd hb (show ¬ (77 = 71) by omega)) (fun _ => ?_)
  refine q_load (v := (0, 77, 0)) (p2 := 4) rfl rfl rfl rfl ?_
  refine q_const (p2 := 5) rfl rfl ?_
  refine q_icmp_s (p2 := 6) rfl (by decide) (by omega) (by omega) rfl (fun hb => absurd hb (show ¬ (77 = 72) by omega)) (fun _ => ?_)
  refine q_load (v := (0, 77, 0)) (p2 := 7) rfl rfl rfl rfl ?_
  refine q_const (p2 := 8) rfl rfl ?_
  refine q_icmp_s (p2 := 9) rfl (by decide) (by omega) (by omega) rfl (fun hb => absurd hb (show ¬ (77 = 53) by omega)) (fun _ => ?_)
  refine q_load (v := (0, 77, 0)) (p2 := 10) rfl rfl rfl rfl ?_
  refine q_const (p2 := 11) rfl rfl ?_
  refine q_icmp_s (p2 := 12) rfl (by decide) (by omega) (by omega) rfl (fun hb => absurd hb (show ¬ (77 = 54) by omega)) (fun _ => ?_)
  refine q_load (v := (0, 77, 0)) (p2 := 13) rfl rfl rfl rfl ?_
  refine q_const (p2 := 14) rfl rfl ?_
  refine q_icmp_s (p2 := 15) rfl (by decide) (by omega) (by omega) rfl (fun _ => ?_) (fun hb => absurd (show ¬ (77 = 48) by omega) hb)
  refine q_const (p2 := 18) rfl rfl ?_
  exact q_retv (v := (0, 0, 0)) rfl rfl (⟨rfl, rfl, rfl, rfl, rfl⟩)
theorem zc_x_term82_77 {d n sl : Nat} {φ : FH} {tot : Nat} {at_ : Nat} {pl : Nat} {va : Nat} {fa : Nat} {fp : Nat} {sf : Nat} {sp : Nat} {no : Nat} {op : Nat} {K : Nat → Nat} {P : Nat → Nat} {V : Nat → Nat} {top : Nat} {hid : Nat} {lc : Nat} {slo : Nat} {own : Nat} {sk : Nat} {co : Nat → Nat} {w1 : Nat} (hT : zq_T φ tot at_ 82 pl va fa fp sf sp no op K P V) (hE : zq_E φ 1 top hid lc slo own sk) (hC : zq_co φ co) (hS : x_sch φ) (hc0 : no < 500) (hc1 : top < 10800) (hc2 : at_ + 2 < tot ∧ tot ≤ 3002) (hc3 : K (at_ + 1) = 2) (hc4 : V (at_ + 1) = w1) (hc5 : w1 < 2147483648) (hc6 : K (at_ + 2) = 77) : x_f x_P (d + 6) 291 [(6, 232, 0), (11, 0, 0), (11, 0, 0), (11, 0, 0)] φ n sl (x_vR n sl (fun φ2 => zq_T φ2 tot (at_ + 2) 77 (P (at_ + 2)) (V (at_ + 2)) fa fp sf sp (no + 1) op K P V ∧ zq_E φ2 1 (top + 4) hid lc slo own sk ∧ zq_co φ2 (x_s (x_s (x_s (x_s (x_s co top 1) (top + 1) 0) (top + 1) 1) (top + 2) 7) (top + 3) w1) ∧ ∀ j, j ≠ 2 → j ≠ 232 → j ≠ 450 → φ2 j = φ j)) := by
  refine x_f_of rfl ?_
  refine q_load (v := (6, 232, 0)) (p2 := 1) rfl rfl rfl rfl ?_
  refine q_getv (v := (0, top, 0)) (p2 := 2) rfl hE (by decide) rfl rfl ?_
  refine q_store (loc2 := [(6, 232, 0), (0, top, 0), (11, 0, 0), (11, 0, 0)]) (p2 := 3) rfl rfl rfl rfl rfl ?_
  refine q_load (v := (6, 232, 0)) (p2 := 4) rfl rfl rfl rfl ?_
  refine q_callvE (xs := [(6, 232, 0)]) (p2 := 5) rfl rfl rfl rfl (x_rcv_s 232 hE) rfl (zc_x_fact82_77 hT hE hC hS (by omega) (by omega) (by omega) hc3 hc4 (by omega) hc6) (Nat.le_refl _) (Nat.le_refl _) rfl (fun φ1 hR1 => ?_)
  obtain ⟨hs1_0, hs1_1, hs1_2, fr1⟩ := hR1
  refine q_const (p2 := 6) rfl rfl ?_
  refine q_store (loc2 := [(6, 232, 0), (0, top, 0), (0, 0, 0), (11, 0, 0)]) (p2 := 7) rfl rfl rfl rfl rfl ?_
  refine q_load (v := (0, 0, 0)) (p2 := 8) rfl rfl rfl rfl ?_
  refine q_const (p2 := 9) rfl rfl ?_
  refine q_icmp_s (p2 := 10) rfl (by decide) (by omega) (by omega) rfl (fun hb => absurd hb (show ¬ (¬ (0 < 1000000)) by omega)) (fun _ => ?_)
  refine q_load (v := (6, 232, 0)) (p2 := 11) rfl rfl rfl rfl ?_
  refine q_getv (v := (6, 2, 0)) (p2 := 12) rfl hs1_1 (by decide) rfl rfl ?_
  refine q_getv (v := (0, 77, 0)) (p2 := 13) rfl hs1_0.1 (by decide) rfl rfl ?_
  refine q_callr (xs := [(0, 77, 0)]) (p2 := 14) rfl rfl rfl rfl (fun _ _ => rfl) rfl (zc_a_319_77 ) (Nat.le_refl _) (Nat.le_refl _) rfl ?_
  refine q_if0_s (p2 := 15) rfl (by decide) (by omega) rfl (fun _ => ?_) (fun hb => absurd (show 0 = 0 by omega) hb)
  exact q_ret rfl (⟨rfl, rfl, rfl, hs1_0, hs1_1, hs1_2, fun j hj0 hj1 hj2 => (fr1 j (by omega) (by omega) (by omega))⟩)
theorem zc_a_292_77 {d n sl : Nat} {φ : FH}    : x_f x_P (d + 1) 292 [(0, 77, 0)] φ n sl (x_r φ n sl (0, 0, 0)) := by
  refine x_f_of rfl ?_
  refine q_load (v := (0, 77, 0)) (p2 := 1) rfl rfl rfl rfl ?_
  refine q_const (p2 := 2) rfl rfl ?_
  refine q_icmp_s (p2 := 3) rfl (by decide) (by omega) (by omega) rfl (fun hb => absurd hb (show ¬ (77 = 69) by omega)) (fun _ => ?_)
  refine q_load (v := (0, 77, 0)) (p2 := 4) rfl rfl rfl rfl ?_
  refine q_const (p2 := 5) rfl rfl ?_
  refine q_icmp_s (p2 := 6) rfl (by decide) (by omega) (by omega) rfl (fun hb => absurd hb (show ¬ (77 = 70) by omega)) (fun _ => ?_)
  refine q_load (v := (0, 77, 0)) (p2 := 7) rfl rfl rfl rfl ?_
  refine q_const (p2 := 8) rfl rfl ?_
  refine q_icmp_s (p2 := 9) rfl (by decide) (by omega) (by omega) rfl (fun hb => absurd hb (show ¬ (77 = 49) by omega)) (fun _ => ?_)
  refine q_load (v := (0, 77, 0)) (p2 := 10) rfl rfl rfl rfl ?_
  refine q_const (p2 := 11) rfl rfl ?_
  refine q_icmp_s (p2 := 12) rfl (by decide) (by omega) (by omega) rfl (fun _ => ?_) (fun hb => absurd (show ¬ (77 = 50) by omega) hb)
  refine q_const (p2 := 15) rfl rfl ?_
  exact q_retv (v := (0, 0, 0)) rfl rfl (⟨rfl, rfl, rfl, rfl, rfl⟩)
theorem zc_x_sum82_77 {d n sl : Nat} {φ : FH} {tot : Nat} {at_ : Nat} {pl : Nat} {va : Nat} {fa : Nat} {fp : Nat} {sf : Nat} {sp : Nat} {no : Nat} {op : Nat} {K : Nat → Nat} {P : Nat → Nat} {V : Nat → Nat} {top : Nat} {hid : Nat} {lc : Nat} {slo : Nat} {own : Nat} {sk : Nat} {co : Nat → Nat} {w1 : Nat} (hT : zq_T φ tot at_ 82 pl va fa fp sf sp no op K P V) (hE : zq_E φ 1 top hid lc slo own sk) (hC : zq_co φ co) (hS : x_sch φ) (hc0 : no < 500) (hc1 : top < 10700) (hc2 : at_ + 2 < tot ∧ tot ≤ 3002) (hc3 : K (at_ + 1) = 2) (hc4 : V (at_ + 1) = w1) (hc5 : w1 < 2147483648) (hc6 : K (at_ + 2) = 77) : x_f x_P (d + 7) 245 [(6, 232, 0), (11, 0, 0), (11, 0, 0), (11, 0, 0)] φ n sl (x_vR n sl (fun φ2 => zq_T φ2 tot (at_ + 2) 77 (P (at_ + 2)) (V (at_ + 2)) fa fp sf sp (no + 1) op K P V ∧ zq_E φ2 1 (top + 4) hid lc slo own sk ∧ zq_co φ2 (x_s (x_s (x_s (x_s (x_s co top 1) (top + 1) 0) (top + 1) 1) (top + 2) 7) (top + 3) w1) ∧ ∀ j, j ≠ 2 → j ≠ 232 → j ≠ 450 → φ2 j = φ j)) := by
  refine x_f_of rfl ?_
  refine q_load (v := (6, 232, 0)) (p2 := 1) rfl rfl rfl rfl ?_
  refine q_getv (v := (0, top, 0)) (p2 := 2) rfl hE (by decide) rfl rfl ?_
  refine q_store (loc2 := [(6, 232, 0), (0, top, 0), (11, 0, 0), (11, 0, 0)]) (p2 := 3) rfl rfl rfl rfl rfl ?_
  refine q_load (v := (6, 232, 0)) (p2 := 4) rfl rfl rfl rfl ?_
  refine q_callvE (xs := [(6, 232, 0)]) (p2 := 5) rfl rfl rfl rfl (x_rcv_s 232 hE) rfl (zc_x_term82_77 hT hE hC hS (by omega) (by omega) (by omega) hc3 hc4 (by omega) hc6) (Nat.le_refl _) (Nat.le_refl _) rfl (fun φ1 hR1 => ?_)
  obtain ⟨hs1_0, hs1_1, hs1_2, fr1⟩ := hR1
  refine q_const (p2 := 6) rfl rfl ?_
  refine q_store (loc2 := [(6, 232, 0), (0, top, 0), (0, 0, 0), (11, 0, 0)]) (p2 := 7) rfl rfl rfl rfl rfl ?_
  refine q_load (v := (0, 0, 0)) (p2 := 8) rfl rfl rfl rfl ?_
  refine q_const (p2 := 9) rfl rfl ?_
  refine q_icmp_s (p2 := 10) rfl (by decide) (by omega) (by omega) rfl (fun hb => absurd hb (show ¬ (¬ (0 < 1000000)) by omega)) (fun _ => ?_)
  refine q_load (v := (6, 232, 0)) (p2 := 11) rfl rfl rfl rfl ?_
  refine q_getv (v := (6, 2, 0)) (p2 := 12) rfl hs1_1 (by decide) rfl rfl ?_
  refine q_getv (v := (0, 77, 0)) (p2 := 13) rfl hs1_0.1 (by decide) rfl rfl ?_
  refine q_callr (xs := [(0, 77, 0)]) (p2 := 14) rfl rfl rfl rfl (fun _ _ => rfl) rfl (zc_a_292_77 ) (Nat.le_refl _) (Nat.le_refl _) rfl ?_
  refine q_if0_s (p2 := 15) rfl (by decide) (by omega) rfl (fun _ => ?_) (fun hb => absurd (show 0 = 0 by omega) hb)
  exact q_ret rfl (⟨rfl, rfl, rfl, hs1_0, hs1_1, hs1_2, fun j hj0 hj1 hj2 => (fr1 j (by omega) (by omega) (by omega))⟩)
theorem zc_x_exp82_77 {d n sl : Nat} {φ : FH} {tot : Nat} {at_ : Nat} {pl : Nat} {va : Nat} {fa : Nat} {fp : Nat} {sf : Nat} {sp : Nat} {no : Nat} {op : Nat} {K : Nat → Nat} {P : Nat → Nat} {V : Nat → Nat} {top : Nat} {hid : Nat} {lc : Nat} {slo : Nat} {own : Nat} {sk : Nat} {co : Nat → Nat} {w1 : Nat} (hT : zq_T φ tot at_ 82 pl va fa fp sf sp no op K P V) (hE : zq_E φ 1 top hid lc slo own sk) (hC : zq_co φ co) (hS : x_sch φ) (hc0 : no < 500) (hc1 : top < 10600) (hc2 : at_ + 2 < tot ∧ tot ≤ 3002) (hc3 : K (at_ + 1) = 2) (hc4 : V (at_ + 1) = w1) (hc5 : w1 < 2147483648) (hc6 : K (at_ + 2) = 77) : x_f x_P (d + 8) 177 [(6, 232, 0), (11, 0, 0), (11, 0, 0)] φ n sl (x_vR n sl (fun φ2 => zq_T φ2 tot (at_ + 2) 77 (P (at_ + 2)) (V (at_ + 2)) fa fp sf sp (no + 1) op K P V ∧ zq_E φ2 1 (top + 4) hid lc slo own sk ∧ zq_co φ2 (x_s (x_s (x_s (x_s (x_s co top 1) (top + 1) 0) (top + 1) 1) (top + 2) 7) (top + 3) w1) ∧ ∀ j, j ≠ 2 → j ≠ 232 → j ≠ 450 → φ2 j = φ j)) := by
  refine x_f_of rfl ?_
  refine q_load (v := (6, 232, 0)) (p2 := 1) rfl rfl rfl rfl ?_
  refine q_getv (v := (0, top, 0)) (p2 := 2) rfl hE (by decide) rfl rfl ?_
  refine q_store (loc2 := [(6, 232, 0), (0, top, 0), (11, 0, 0)]) (p2 := 3) rfl rfl rfl rfl rfl ?_
  refine q_load (v := (6, 232, 0)) (p2 := 4) rfl rfl rfl rfl ?_
  refine q_callvE (xs := [(6, 232, 0)]) (p2 := 5) rfl rfl rfl rfl (x_rcv_s 232 hE) rfl (zc_x_sum82_77 hT hE hC hS (by omega) (by omega) (by omega) hc3 hc4 (by omega) hc6) (Nat.le_refl _) (Nat.le_refl _) rfl (fun φ1 hR1 => ?_)
  obtain ⟨hs1_0, hs1_1, hs1_2, fr1⟩ := hR1
  refine q_load (v := (6, 232, 0)) (p2 := 6) rfl rfl rfl rfl ?_
  refine q_getv (v := (6, 2, 0)) (p2 := 7) rfl hs1_1 (by decide) rfl rfl ?_
  refine q_getv (v := (0, 77, 0)) (p2 := 8) rfl hs1_0.1 (by decide) rfl rfl ?_
  refine q_store (loc2 := [(6, 232, 0), (0, top, 0), (0, 77, 0)]) (p2 := 9) rfl rfl rfl rfl rfl ?_
  refine q_load (v := (0, 77, 0)) (p2 := 10) rfl rfl rfl rfl ?_
  refine q_const (p2 := 11) rfl rfl ?_
  refine q_icmp_s (p2 := 12) rfl (by decide) (by omega) (by omega) rfl (fun hb => absurd hb (show ¬ (77 < 60) by omega)) (fun _ => ?_)
  refine q_load (v := (0, 77, 0)) (p2 := 13) rfl rfl rfl rfl ?_
  refine q_const (p2 := 14) rfl rfl ?_
  refine q_icmp_s (p2 := 15) rfl (by decide) (by omega) (by omega) rfl (fun hb => absurd hb (show ¬ (¬ (66 < 77)) by omega)) (fun _ => ?_)
  refine q_load (v := (0, 77, 0)) (p2 := 16) rfl rfl rfl rfl ?_
  refine q_const (p2 := 17) rfl rfl ?_
  refine q_icmp_s (p2 := 18) rfl (by decide) (by omega) (by omega) rfl (fun _ => ?_) (fun hb => absurd (show ¬ (77 = 52) by omega) hb)
  exact q_ret rfl (⟨rfl, rfl, rfl, hs1_0, hs1_1, hs1_2, fun j hj0 hj1 hj2 => (fr1 j (by omega) (by omega) (by omega))⟩)
theorem zc_x_part82_76 {d n sl : Nat} {φ : FH} {tot : Nat} {at_ : Nat} {pl : Nat} {va : Nat} {fa : Nat} {fp : Nat} {sf : Nat} {sp : Nat} {no : Nat} {op : Nat} {K : Nat → Nat} {P : Nat → Nat} {V : Nat → Nat} {top : Nat} {hid : Nat} {lc : Nat} {slo : Nat} {own : Nat} {sk : Nat} {co : Nat → Nat} {st : Nat} {cv : Nat} {w1 : Nat} (hT : zq_T φ tot at_ 82 pl va fa fp sf sp no op K P V) (hE : zq_E φ 1 top hid lc slo own sk) (hC : zq_co φ co) (hS : x_sch φ) (hc0 : no < 500) (hc1 : st < 12000) (hc2 : co (st + 1) = cv) (hc3 : cv < 900) (hc4 : top < 11000) (hc5 : at_ + 2 < tot ∧ tot ≤ 3002) (hc6 : K (at_ + 1) = 2) (hc7 : V (at_ + 1) = w1) (hc8 : w1 < 2147483648) (hc9 : K (at_ + 2) = 76) : x_f x_P (d + 4) 323 [(6, 232, 0), (0, st, 0), (11, 0, 0)] φ n sl (x_vR n sl (fun φ2 => zq_T φ2 tot (at_ + 2) 76 (P (at_ + 2)) (V (at_ + 2)) fa fp sf sp (no + 1) op K P V ∧ zq_E φ2 1 (top + 2) hid lc slo own sk ∧ zq_co φ2 (x_s (x_s (x_s co (st + 1) (cv + 1)) top 7) (top + 1) w1) ∧ ∀ j, j ≠ 2 → j ≠ 232 → j ≠ 450 → φ2 j = φ j)) := by
  refine x_f_of rfl ?_
  refine q_load (v := (6, 232, 0)) (p2 := 1) rfl rfl rfl rfl ?_
  refine q_load (v := (0, st, 0)) (p2 := 2) rfl rfl rfl rfl ?_
  refine q_callvE (xs := [(0, st, 0), (6, 232, 0)]) (p2 := 3) rfl rfl rfl rfl (x_rcv_s 232 hE) rfl (zc_x_base82 hT hE hC hS (by omega) (by omega) hc2 (by omega) (by omega) (by omega) hc6 hc7 (by omega) hc9) (Nat.le_refl _) (Nat.le_refl _) rfl (fun φ1 hR1 => ?_)
  obtain ⟨hs1_0, hs1_1, hs1_2, fr1⟩ := hR1
  refine q_const (p2 := 4) rfl rfl ?_
  refine q_store (loc2 := [(6, 232, 0), (0, st, 0), (0, 0, 0)]) (p2 := 5) rfl rfl rfl rfl rfl ?_
  refine q_load (v := (0, 0, 0)) (p2 := 6) rfl rfl rfl rfl ?_
  refine q_const (p2 := 7) rfl rfl ?_
  refine q_icmp_s (p2 := 8) rfl (by decide) (by omega) (by omega) rfl (fun hb => absurd hb (show ¬ (¬ (0 < 1000000)) by omega)) (fun _ => ?_)
  refine q_load (v := (6, 232, 0)) (p2 := 9) rfl rfl rfl rfl ?_
  refine q_getv (v := (6, 2, 0)) (p2 := 10) rfl hs1_1 (by decide) rfl rfl ?_
  refine q_const (p2 := 11) rfl rfl ?_
  refine q_callr (xs := [(0, 80, 0), (6, 2, 0)]) (p2 := 12) rfl rfl rfl rfl (x_rcv_s 2 hs1_0.1) rfl (zc_t_is_0 hs1_0 (by omega) (by omega)) (Nat.le_refl _) (Nat.le_refl _) rfl ?_
  refine q_if0_s (p2 := 13) rfl (by decide) (by omega) rfl (fun hb => absurd hb (show ¬ (¬ (0 = 0)) by omega)) (fun _ => ?_)
  refine q_load (v := (6, 232, 0)) (p2 := 14) rfl rfl rfl rfl ?_
  refine q_getv (v := (6, 2, 0)) (p2 := 15) rfl hs1_1 (by decide) rfl rfl ?_
  refine q_const (p2 := 16) rfl rfl ?_
  refine q_callr (xs := [(0, 75, 0), (6, 2, 0)]) (p2 := 17) rfl rfl rfl rfl (x_rcv_s 2 hs1_0.1) rfl (zc_t_is_0 hs1_0 (by omega) (by omega)) (Nat.le_refl _) (Nat.le_refl _) rfl ?_
  refine q_if0_s (p2 := 18) rfl (by decide) (by omega) rfl (fun _ => ?_) (fun hb => absurd (show 0 = 0 by omega) hb)
  exact q_ret rfl (⟨rfl, rfl, rfl, hs1_0, hs1_1, hs1_2, fun j hj0 hj1 hj2 => (fr1 j (by omega) (by omega) (by omega))⟩)
theorem zc_x_fact82_76 {d n sl : Nat} {φ : FH} {tot : Nat} {at_ : Nat} {pl : Nat} {va : Nat} {fa : Nat} {fp : Nat} {sf : Nat} {sp : Nat} {no : Nat} {op : Nat} {K : Nat → Nat} {P : Nat → Nat} {V : Nat → Nat} {top : Nat} {hid : Nat} {lc : Nat} {slo : Nat} {own : Nat} {sk : Nat} {co : Nat → Nat} {w1 : Nat} (hT : zq_T φ tot at_ 82 pl va fa fp sf sp no op K P V) (hE : zq_E φ 1 top hid lc slo own sk) (hC : zq_co φ co) (hS : x_sch φ) (hc0 : no < 500) (hc1 : top < 10900) (hc2 : at_ + 2 < tot ∧ tot ≤ 3002) (hc3 : K (at_ + 1) = 2) (hc4 : V (at_ + 1) = w1) (hc5 : w1 < 2147483648) (hc6 : K (at_ + 2) = 76) : x_f x_P (d + 5) 318 [(6, 232, 0), (11, 0, 0), (11, 0, 0)] φ n sl (x_vR n sl (fun φ2 => zq_T φ2 tot (at_ + 2) 76 (P (at_ + 2)) (V (at_ + 2)) fa fp sf sp (no + 1) op K P V ∧ zq_E φ2 1 (top + 4) hid lc slo own sk ∧ zq_co φ2 (x_s (x_s (x_s (x_s (x_s co top 1) (top + 1) 0) (top + 1) 1) (top + 2) 7) (top + 3) w1) ∧ ∀ j, j ≠ 2 → j ≠ 232 → j ≠ 450 → φ2 j = φ j)) := by
  refine x_f_of rfl ?_
  refine q_load (v := (6, 232, 0)) (p2 := 1) rfl rfl rfl rfl ?_
  refine q_getv (v := (0, top, 0)) (p2 := 2) rfl hE (by decide) rfl rfl ?_
  refine q_store (loc2 := [(6, 232, 0), (0, top, 0), (11, 0, 0)]) (p2 := 3) rfl rfl rfl rfl rfl ?_
  refine q_load (v := (6, 232, 0)) (p2 := 4) rfl rfl rfl rfl ?_
  refine q_const (p2 := 5) rfl rfl ?_
  refine q_const (p2 := 6) rfl rfl ?_
  refine q_callvE (xs := [(0, 0, 0), (0, 1, 0), (6, 232, 0)]) (p2 := 7) rfl rfl rfl rfl (x_rcv_s 232 hE) rfl (zc_x_em2 hE hC hS (by omega)) (Nat.le_refl _) (Nat.le_refl _) rfl (fun φ1 hR1 => ?_)
  obtain ⟨hs1_0, hs1_1, fr1⟩ := hR1
  refine q_load (v := (6, 232, 0)) (p2 := 8) rfl rfl rfl rfl ?_
  refine q_getv (v := (6, 2, 0)) (p2 := 9) rfl hs1_0 (by decide) rfl rfl ?_
  have hm2 := (zq_T_at hT (fr1 2 (by decide) (by decide)) (fr1 3 (by decide) (by decide)) (fr1 4 (by decide) (by decide)) (fr1 5 (by decide) (by decide)) (fr1 6 (by decide) (by decide)))
  refine q_getv (v := (0, 82, 0)) (p2 := 10) rfl hm2.1 (by decide) rfl rfl ?_
  refine q_store (loc2 := [(6, 232, 0), (0, top, 0), (0, 82, 0)]) (p2 := 11) rfl rfl rfl rfl rfl ?_
  refine q_load (v := (0, 82, 0)) (p2 := 12) rfl rfl rfl rfl ?_
  refine q_const (p2 := 13) rfl rfl ?_
  refine q_icmp_s (p2 := 14) rfl (by decide) (by omega) (by omega) rfl (fun hb => absurd hb (show ¬ (82 = 70) by omega)) (fun _ => ?_)
  refine q_load (v := (0, 82, 0)) (p2 := 15) rfl rfl rfl rfl ?_
  refine q_const (p2 := 16) rfl rfl ?_
  refine q_icmp_s (p2 := 17) rfl (by decide) (by omega) (by omega) rfl (fun hb => absurd hb (show ¬ (82 = 51) by omega)) (fun _ => ?_)
  refine q_load (v := (6, 232, 0)) (p2 := 18) rfl rfl rfl rfl ?_
  refine q_load (v := (0, top, 0)) (p2 := 19) rfl rfl rfl rfl ?_
  have hm3 := (x_sch_at hS (fun j h1 h2 => (fr1 j (by omega) (by omega))))
  refine q_callvE (xs := [(0, top, 0), (6, 232, 0)]) (p2 := 20) rfl rfl rfl rfl (x_rcv_s 232 hs1_0) rfl (zc_x_part82_76 hm2 hs1_0 hs1_1 hm3 (by omega) (by omega) (x_s_eq) (by omega) (by omega) (by omega) hc3 hc4 (by omega) hc6) (Nat.le_refl _) (Nat.le_refl _) rfl (fun φ4 hR4 => ?_)
  obtain ⟨hs4_0, hs4_1, hs4_2, fr4⟩ := hR4
  exact q_ret rfl (⟨rfl, rfl, rfl, hs4_0, hs4_1, hs4_2, fun j hj0 hj1 hj2 => ((fr4 j (by omega) (by omega) (by omega)).trans (fr1 j (by omega) (by omega)))⟩)
theorem zc_a_319_76 {d n sl : Nat} {φ : FH}    : x_f x_P (d + 1) 319 [(0, 76, 0)] φ n sl (x_r φ n sl (0, 0, 0)) := by
  refine x_f_of rfl ?_
  refine q_load (v := (0, 76, 0)) (p2 := 1) rfl rfl rfl rfl ?_
  refine q_const (p2 := 2) rfl rfl ?_
  refine q_icmp_s (p2 := 3) rfl (by decide) (by omega) (by omega) rfl (fun hb => absurd hb (show ¬ (76 = 71) by omega)) (fun _ => ?_)
  refine q_load (v := (0, 76, 0)) (p2 := 4) rfl rfl rfl rfl ?_
  refine q_const (p2 := 5) rfl rfl ?_
  refine q_icmp_s (p2 := 6) rfl (by decide) (by omega) (by omega) rfl (fun hb => absurd hb (show ¬ (76 = 72) by omega)) (fun _ => ?_)
  refine q_load (v := (0, 76, 0)) (p2 := 7) rfl rfl rfl rfl ?_
  refine q_const (p2 := 8) rfl rfl ?_
  refine q_icmp_s (p2 := 9) rfl (by decide) (by omega) (by omega) rfl (fun hb => absurd hb (show ¬ (76 = 53) by omega)) (fun _ => ?_)
  refine q_load (v := (0, 76, 0)) (p2 := 10) rfl rfl rfl rfl ?_
  refine q_const (p2 := 11) rfl rfl ?_
  refine q_icmp_s (p2 := 12) rfl (by decide) (by omega) (by omega) rfl (fun hb => absurd hb (show ¬ (76 = 54) by omega)) (fun _ => ?_)
  refine q_load (v := (0, 76, 0)) (p2 := 13) rfl rfl rfl rfl ?_
  refine q_const (p2 := 14) rfl rfl ?_
  refine q_icmp_s (p2 := 15) rfl (by decide) (by omega) (by omega) rfl (fun _ => ?_) (fun hb => absurd (show ¬ (76 = 48) by omega) hb)
  refine q_const (p2 := 18) rfl rfl ?_
  exact q_retv (v := (0, 0, 0)) rfl rfl (⟨rfl, rfl, rfl, rfl, rfl⟩)
theorem zc_x_term82_76 {d n sl : Nat} {φ : FH} {tot : Nat} {at_ : Nat} {pl : Nat} {va : Nat} {fa : Nat} {fp : Nat} {sf : Nat} {sp : Nat} {no : Nat} {op : Nat} {K : Nat → Nat} {P : Nat → Nat} {V : Nat → Nat} {top : Nat} {hid : Nat} {lc : Nat} {slo : Nat} {own : Nat} {sk : Nat} {co : Nat → Nat} {w1 : Nat} (hT : zq_T φ tot at_ 82 pl va fa fp sf sp no op K P V) (hE : zq_E φ 1 top hid lc slo own sk) (hC : zq_co φ co) (hS : x_sch φ) (hc0 : no < 500) (hc1 : top < 10800) (hc2 : at_ + 2 < tot ∧ tot ≤ 3002) (hc3 : K (at_ + 1) = 2) (hc4 : V (at_ + 1) = w1) (hc5 : w1 < 2147483648) (hc6 : K (at_ + 2) = 76) : x_f x_P (d + 6) 291 [(6, 232, 0), (11, 0, 0), (11, 0, 0), (11, 0, 0)] φ n sl (x_vR n sl (fun φ2 => zq_T φ2 tot (at_ + 2) 76 (P (at_ + 2)) (V (at_ + 2)) fa fp sf sp (no + 1) op K P V ∧ zq_E φ2 1 (top + 4) hid lc slo own sk ∧ zq_co φ2 (x_s (x_s (x_s (x_s (x_s co top 1) (top + 1) 0) (top + 1) 1) (top + 2) 7) (top + 3) w1) ∧ ∀ j, j ≠ 2 → j ≠ 232 → j ≠ 450 → φ2 j = φ j)) := by
  refine x_f_of rfl ?_
  refine q_load (v := (6, 232, 0)) (p2 := 1) rfl rfl rfl rfl ?_
  refine q_getv (v := (0, top, 0)) (p2 := 2) rfl hE (by decide) rfl rfl ?_
  refine q_store (loc2 := [(6, 232, 0), (0, top, 0), (11, 0, 0), (11, 0, 0)]) (p2 := 3) rfl rfl rfl rfl rfl ?_
  refine q_load (v := (6, 232, 0)) (p2 := 4) rfl rfl rfl rfl ?_
  refine q_callvE (xs := [(6, 232, 0)]) (p2 := 5) rfl rfl rfl rfl (x_rcv_s 232 hE) rfl (zc_x_fact82_76 hT hE hC hS (by omega) (by omega) (by omega) hc3 hc4 (by omega) hc6) (Nat.le_refl _) (Nat.le_refl _) rfl (fun φ1 hR1 => ?_)
  obtain ⟨hs1_0, hs1_1, hs1_2, fr1⟩ := hR1
  refine q_const (p2 := 6) rfl rfl ?_
  refine q_store (loc2 := [(6, 232, 0), (0, top, 0), (0, 0, 0), (11, 0, 0)]) (p2 := 7) rfl rfl rfl rfl rfl ?_
  refine q_load (v := (0, 0, 0)) (p2 := 8) rfl rfl rfl rfl ?_
  refine q_const (p2 := 9) rfl rfl ?_
  refine q_icmp_s (p2 := 10) rfl (by decide) (by omega) (by omega) rfl (fun hb => absurd hb (show ¬ (¬ (0 < 1000000)) by omega)) (fun _ => ?_)
  refine q_load (v := (6, 232, 0)) (p2 := 11) rfl rfl rfl rfl ?_
  refine q_getv (v := (6, 2, 0)) (p2 := 12) rfl hs1_1 (by decide) rfl rfl ?_
  refine q_getv (v := (0, 76, 0)) (p2 := 13) rfl hs1_0.1 (by decide) rfl rfl ?_
  refine q_callr (xs := [(0, 76, 0)]) (p2 := 14) rfl rfl rfl rfl (fun _ _ => rfl) rfl (zc_a_319_76 ) (Nat.le_refl _) (Nat.le_refl _) rfl ?_
  refine q_if0_s (p2 := 15) rfl (by decide) (by omega) rfl (fun _ => ?_) (fun hb => absurd (show 0 = 0 by omega) hb)
  exact q_ret rfl (⟨rfl, rfl, rfl, hs1_0, hs1_1, hs1_2, fun j hj0 hj1 hj2 => (fr1 j (by omega) (by omega) (by omega))⟩)
theorem zc_a_292_76 {d n sl : Nat} {φ : FH}    : x_f x_P (d + 1) 292 [(0, 76, 0)] φ n sl (x_r φ n sl (0, 0, 0)) := by
  refine x_f_of rfl ?_
  refine q_load (v := (0, 76, 0)) (p2 := 1) rfl rfl rfl rfl ?_
  refine q_const (p2 := 2) rfl rfl ?_
  refine q_icmp_s (p2 := 3) rfl (by decide) (by omega) (by omega) rfl (fun hb => absurd hb (show ¬ (76 = 69) by omega)) (fun _ => ?_)
  refine q_load (v := (0, 76, 0)) (p2 := 4) rfl rfl rfl rfl ?_
  refine q_const (p2 := 5) rfl rfl ?_
  refine q_icmp_s (p2 := 6) rfl (by decide) (by omega) (by omega) rfl (fun hb => absurd hb (show ¬ (76 = 70) by omega)) (fun _ => ?_)
  refine q_load (v := (0, 76, 0)) (p2 := 7) rfl rfl rfl rfl ?_
  refine q_const (p2 := 8) rfl rfl ?_
  refine q_icmp_s (p2 := 9) rfl (by decide) (by omega) (by omega) rfl (fun hb => absurd hb (show ¬ (76 = 49) by omega)) (fun _ => ?_)
  refine q_load (v := (0, 76, 0)) (p2 := 10) rfl rfl rfl rfl ?_
  refine q_const (p2 := 11) rfl rfl ?_
  refine q_icmp_s (p2 := 12) rfl (by decide) (by omega) (by omega) rfl (fun _ => ?_) (fun hb => absurd (show ¬ (76 = 50) by omega) hb)
  refine q_const (p2 := 15) rfl rfl ?_
  exact q_retv (v := (0, 0, 0)) rfl rfl (⟨rfl, rfl, rfl, rfl, rfl⟩)
theorem zc_x_sum82_76 {d n sl : Nat} {φ : FH} {tot : Nat} {at_ : Nat} {pl : Nat} {va : Nat} {fa : Nat} {fp : Nat} {sf : Nat} {sp : Nat} {no : Nat} {op : Nat} {K : Nat → Nat} {P : Nat → Nat} {V : Nat → Nat} {top : Nat} {hid : Nat} {lc : Nat} {slo : Nat} {own : Nat} {sk : Nat} {co : Nat → Nat} {w1 : Nat} (hT : zq_T φ tot at_ 82 pl va fa fp sf sp no op K P V) (hE : zq_E φ 1 top hid lc slo own sk) (hC : zq_co φ co) (hS : x_sch φ) (hc0 : no < 500) (hc1 : top < 10700) (hc2 : at_ + 2 < tot ∧ tot ≤ 3002) (hc3 : K (at_ + 1) = 2) (hc4 : V (at_ + 1) = w1) (hc5 : w1 < 2147483648) (hc6 : K (at_ + 2) = 76) : x_f x_P (d + 7) 245 [(6, 232, 0), (11, 0, 0), (11, 0, 0), (11, 0, 0)] φ n sl (x_vR n sl (fun φ2 => zq_T φ2 tot (at_ + 2) 76 (P (at_ + 2)) (V (at_ + 2)) fa fp sf sp (no + 1) op K P V ∧ zq_E φ2 1 (top + 4) hid lc slo own sk ∧ zq_co φ2 (x_s (x_s (x_s (x_s (x_s co top 1) (top + 1) 0) (top + 1) 1) (top + 2) 7) (top + 3) w1) ∧ ∀ j, j ≠ 2 → j ≠ 232 → j ≠ 450 → φ2 j = φ j)) := by
  refine x_f_of rfl ?_
  refine q_load (v := (6, 232, 0)) (p2 := 1) rfl rfl rfl rfl ?_
  refine q_getv (v := (0, top, 0)) (p2 := 2) rfl hE (by decide) rfl rfl ?_
  refine q_store (loc2 := [(6, 232, 0), (0, top, 0), (11, 0, 0), (11, 0, 0)]) (p2 := 3) rfl rfl rfl rfl rfl ?_
  refine q_load (v := (6, 232, 0)) (p2 := 4) rfl rfl rfl rfl ?_
  refine q_callvE (xs := [(6, 232, 0)]) (p2 := 5) rfl rfl rfl rfl (x_rcv_s 232 hE) rfl (zc_x_term82_76 hT hE hC hS (by omega) (by omega) (by omega) hc3 hc4 (by omega) hc6) (Nat.le_refl _) (Nat.le_refl _) rfl (fun φ1 hR1 => ?_)
  obtain ⟨hs1_0, hs1_1, hs1_2, fr1⟩ := hR1
  refine q_const (p2 := 6) rfl rfl ?_
  refine q_store (loc2 := [(6, 232, 0), (0, top, 0), (0, 0, 0), (11, 0, 0)]) (p2 := 7) rfl rfl rfl rfl rfl ?_
  refine q_load (v := (0, 0, 0)) (p2 := 8) rfl rfl rfl rfl ?_
  refine q_const (p2 := 9) rfl rfl ?_
  refine q_icmp_s (p2 := 10) rfl (by decide) (by omega) (by omega) rfl (fun hb => absurd hb (show ¬ (¬ (0 < 1000000)) by omega)) (fun _ => ?_)
  refine q_load (v := (6, 232, 0)) (p2 := 11) rfl rfl rfl rfl ?_
  refine q_getv (v := (6, 2, 0)) (p2 := 12) rfl hs1_1 (by decide) rfl rfl ?_
  refine q_getv (v := (0, 76, 0)) (p2 := 13) rfl hs1_0.1 (by decide) rfl rfl ?_
  refine q_callr (xs := [(0, 76, 0)]) (p2 := 14) rfl rfl rfl rfl (fun _ _ => rfl) rfl (zc_a_292_76 ) (Nat.le_refl _) (Nat.le_refl _) rfl ?_
  refine q_if0_s (p2 := 15) rfl (by decide) (by omega) rfl (fun _ => ?_) (fun hb => absurd (show 0 = 0 by omega) hb)
  exact q_ret rfl (⟨rfl, rfl, rfl, hs1_0, hs1_1, hs1_2, fun j hj0 hj1 hj2 => (fr1 j (by omega) (by omega) (by omega))⟩)
theorem zc_x_exp82_76 {d n sl : Nat} {φ : FH} {tot : Nat} {at_ : Nat} {pl : Nat} {va : Nat} {fa : Nat} {fp : Nat} {sf : Nat} {sp : Nat} {no : Nat} {op : Nat} {K : Nat → Nat} {P : Nat → Nat} {V : Nat → Nat} {top : Nat} {hid : Nat} {lc : Nat} {slo : Nat} {own : Nat} {sk : Nat} {co : Nat → Nat} {w1 : Nat} (hT : zq_T φ tot at_ 82 pl va fa fp sf sp no op K P V) (hE : zq_E φ 1 top hid lc slo own sk) (hC : zq_co φ co) (hS : x_sch φ) (hc0 : no < 500) (hc1 : top < 10600) (hc2 : at_ + 2 < tot ∧ tot ≤ 3002) (hc3 : K (at_ + 1) = 2) (hc4 : V (at_ + 1) = w1) (hc5 : w1 < 2147483648) (hc6 : K (at_ + 2) = 76) : x_f x_P (d + 8) 177 [(6, 232, 0), (11, 0, 0), (11, 0, 0)] φ n sl (x_vR n sl (fun φ2 => zq_T φ2 tot (at_ + 2) 76 (P (at_ + 2)) (V (at_ + 2)) fa fp sf sp (no + 1) op K P V ∧ zq_E φ2 1 (top + 4) hid lc slo own sk ∧ zq_co φ2 (x_s (x_s (x_s (x_s (x_s co top 1) (top + 1) 0) (top + 1) 1) (top + 2) 7) (top + 3) w1) ∧ ∀ j, j ≠ 2 → j ≠ 232 → j ≠ 450 → φ2 j = φ j)) := by
  refine x_f_of rfl ?_
  refine q_load (v := (6, 232, 0)) (p2 := 1) rfl rfl rfl rfl ?_
  refine q_getv (v := (0, top, 0)) (p2 := 2) rfl hE (by decide) rfl rfl ?_
  refine q_store (loc2 := [(6, 232, 0), (0, top, 0), (11, 0, 0)]) (p2 := 3) rfl rfl rfl rfl rfl ?_
  refine q_load (v := (6, 232, 0)) (p2 := 4) rfl rfl rfl rfl ?_
  refine q_callvE (xs := [(6, 232, 0)]) (p2 := 5) rfl rfl rfl rfl (x_rcv_s 232 hE) rfl (zc_x_sum82_76 hT hE hC hS (by omega) (by omega) (by omega) hc3 hc4 (by omega) hc6) (Nat.le_refl _) (Nat.le_refl _) rfl (fun φ1 hR1 => ?_)
  obtain ⟨hs1_0, hs1_1, hs1_2, fr1⟩ := hR1
  refine q_load (v := (6, 232, 0)) (p2 := 6) rfl rfl rfl rfl ?_
  refine q_getv (v := (6, 2, 0)) (p2 := 7) rfl hs1_1 (by decide) rfl rfl ?_
  refine q_getv (v := (0, 76, 0)) (p2 := 8) rfl hs1_0.1 (by decide) rfl rfl ?_
  refine q_store (loc2 := [(6, 232, 0), (0, top, 0), (0, 76, 0)]) (p2 := 9) rfl rfl rfl rfl rfl ?_
  refine q_load (v := (0, 76, 0)) (p2 := 10) rfl rfl rfl rfl ?_
  refine q_const (p2 := 11) rfl rfl ?_
  refine q_icmp_s (p2 := 12) rfl (by decide) (by omega) (by omega) rfl (fun hb => absurd hb (show ¬ (76 < 60) by omega)) (fun _ => ?_)
  refine q_load (v := (0, 76, 0)) (p2 := 13) rfl rfl rfl rfl ?_
  refine q_const (p2 := 14) rfl rfl ?_
  refine q_icmp_s (p2 := 15) rfl (by decide) (by omega) (by omega) rfl (fun hb => absurd hb (show ¬ (¬ (66 < 76)) by omega)) (fun _ => ?_)
  refine q_load (v := (0, 76, 0)) (p2 := 16) rfl rfl rfl rfl ?_
  refine q_const (p2 := 17) rfl rfl ?_
  refine q_icmp_s (p2 := 18) rfl (by decide) (by omega) (by omega) rfl (fun _ => ?_) (fun hb => absurd (show ¬ (76 = 52) by omega) hb)
  exact q_ret rfl (⟨rfl, rfl, rfl, hs1_0, hs1_1, hs1_2, fun j hj0 hj1 hj2 => (fr1 j (by omega) (by omega) (by omega))⟩)
theorem zc_x_part82_74 {d n sl : Nat} {φ : FH} {tot : Nat} {at_ : Nat} {pl : Nat} {va : Nat} {fa : Nat} {fp : Nat} {sf : Nat} {sp : Nat} {no : Nat} {op : Nat} {K : Nat → Nat} {P : Nat → Nat} {V : Nat → Nat} {top : Nat} {hid : Nat} {lc : Nat} {slo : Nat} {own : Nat} {sk : Nat} {co : Nat → Nat} {st : Nat} {cv : Nat} {w1 : Nat} (hT : zq_T φ tot at_ 82 pl va fa fp sf sp no op K P V) (hE : zq_E φ 1 top hid lc slo own sk) (hC : zq_co φ co) (hS : x_sch φ) (hc0 : no < 500) (hc1 : st < 12000) (hc2 : co (st + 1) = cv) (hc3 : cv < 900) (hc4 : top < 11000) (hc5 : at_ + 2 < tot ∧ tot ≤ 3002) (hc6 : K (at_ + 1) = 2) (hc7 : V (at_ + 1) = w1) (hc8 : w1 < 2147483648) (hc9 : K (at_ + 2) = 74) : x_f x_P (d + 4) 323 [(6, 232, 0), (0, st, 0), (11, 0, 0)] φ n sl (x_vR n sl (fun φ2 => zq_T φ2 tot (at_ + 2) 74 (P (at_ + 2)) (V (at_ + 2)) fa fp sf sp (no + 1) op K P V ∧ zq_E φ2 1 (top + 2) hid lc slo own sk ∧ zq_co φ2 (x_s (x_s (x_s co (st + 1) (cv + 1)) top 7) (top + 1) w1) ∧ ∀ j, j ≠ 2 → j ≠ 232 → j ≠ 450 → φ2 j = φ j)) := by
  refine x_f_of rfl ?_
  refine q_load (v := (6, 232, 0)) (p2 := 1) rfl rfl rfl rfl ?_
  refine q_load (v := (0, st, 0)) (p2 := 2) rfl rfl rfl rfl ?_
  refine q_callvE (xs := [(0, st, 0), (6, 232, 0)]) (p2 := 3) rfl rfl rfl rfl (x_rcv_s 232 hE) rfl (zc_x_base82 hT hE hC hS (by omega) (by omega) hc2 (by omega) (by omega) (by omega) hc6 hc7 (by omega) hc9) (Nat.le_refl _) (Nat.le_refl _) rfl (fun φ1 hR1 => ?_)
  obtain ⟨hs1_0, hs1_1, hs1_2, fr1⟩ := hR1
  refine q_const (p2 := 4) rfl rfl ?_
  refine q_store (loc2 := [(6, 232, 0), (0, st, 0), (0, 0, 0)]) (p2 := 5) rfl rfl rfl rfl rfl ?_
  refine q_load (v := (0, 0, 0)) (p2 := 6) rfl rfl rfl rfl ?_
  refine q_const (p2 := 7) rfl rfl ?_
  refine q_icmp_s (p2 := 8) rfl (by decide) (by omega) (by omega) rfl (fun hb => absurd hb (show ¬ (¬ (0 < 1000000)) by omega)) (fun _ => ?_)
  refine q_load (v := (6, 232, 0)) (p2 := 9) rfl rfl rfl rfl ?_
  refine q_getv (v := (6, 2, 0)) (p2 := 10) rfl hs1_1 (by decide) rfl rfl ?_
  refine q_const (p2 := 11) rfl rfl ?_
  refine q_callr (xs := [(0, 80, 0), (6, 2, 0)]) (p2 := 12) rfl rfl rfl rfl (x_rcv_s 2 hs1_0.1) rfl (zc_t_is_0 hs1_0 (by omega) (by omega)) (Nat.le_refl _) (Nat.le_refl _) rfl ?_
  refine q_if0_s (p2 := 13) rfl (by decide) (by omega) rfl (fun hb => absurd hb (show ¬ (¬ (0 = 0)) by omega)) (fun _ => ?_)
  refine q_load (v := (6, 232, 0)) (p2 := 14) rfl rfl rfl rfl ?_
  refine q_getv (v := (6, 2, 0)) (p2 := 15) rfl hs1_1 (by decide) rfl rfl ?_
  refine q_const (p2 := 16) rfl rfl ?_
  refine q_callr (xs := [(0, 75, 0), (6, 2, 0)]) (p2 := 17) rfl rfl rfl rfl (x_rcv_s 2 hs1_0.1) rfl (zc_t_is_0 hs1_0 (by omega) (by omega)) (Nat.le_refl _) (Nat.le_refl _) rfl ?_
  refine q_if0_s (p2 := 18) rfl (by decide) (by omega) rfl (fun _ => ?_) (fun hb => absurd (show 0 = 0 by omega) hb)
  exact q_ret rfl (⟨rfl, rfl, rfl, hs1_0, hs1_1, hs1_2, fun j hj0 hj1 hj2 => (fr1 j (by omega) (by omega) (by omega))⟩)
theorem zc_x_fact82_74 {d n sl : Nat} {φ : FH} {tot : Nat} {at_ : Nat} {pl : Nat} {va : Nat} {fa : Nat} {fp : Nat} {sf : Nat} {sp : Nat} {no : Nat} {op : Nat} {K : Nat → Nat} {P : Nat → Nat} {V : Nat → Nat} {top : Nat} {hid : Nat} {lc : Nat} {slo : Nat} {own : Nat} {sk : Nat} {co : Nat → Nat} {w1 : Nat} (hT : zq_T φ tot at_ 82 pl va fa fp sf sp no op K P V) (hE : zq_E φ 1 top hid lc slo own sk) (hC : zq_co φ co) (hS : x_sch φ) (hc0 : no < 500) (hc1 : top < 10900) (hc2 : at_ + 2 < tot ∧ tot ≤ 3002) (hc3 : K (at_ + 1) = 2) (hc4 : V (at_ + 1) = w1) (hc5 : w1 < 2147483648) (hc6 : K (at_ + 2) = 74) : x_f x_P (d + 5) 318 [(6, 232, 0), (11, 0, 0), (11, 0, 0)] φ n sl (x_vR n sl (fun φ2 => zq_T φ2 tot (at_ + 2) 74 (P (at_ + 2)) (V (at_ + 2)) fa fp sf sp (no + 1) op K P V ∧ zq_E φ2 1 (top + 4) hid lc slo own sk ∧ zq_co φ2 (x_s (x_s (x_s (x_s (x_s co top 1) (top + 1) 0) (top + 1) 1) (top + 2) 7) (top + 3) w1) ∧ ∀ j, j ≠ 2 → j ≠ 232 → j ≠ 450 → φ2 j = φ j)) := by
  refine x_f_of rfl ?_
  refine q_load (v := (6, 232, 0)) (p2 := 1) rfl rfl rfl rfl ?_
  refine q_getv (v := (0, top, 0)) (p2 := 2) rfl hE (by decide) rfl rfl ?_
  refine q_store (loc2 := [(6, 232, 0), (0, top, 0), (11, 0, 0)]) (p2 := 3) rfl rfl rfl rfl rfl ?_
  refine q_load (v := (6, 232, 0)) (p2 := 4) rfl rfl rfl rfl ?_
  refine q_const (p2 := 5) rfl rfl ?_
  refine q_const (p2 := 6) rfl rfl ?_
  refine q_callvE (xs := [(0, 0, 0), (0, 1, 0), (6, 232, 0)]) (p2 := 7) rfl rfl rfl rfl (x_rcv_s 232 hE) rfl (zc_x_em2 hE hC hS (by omega)) (Nat.le_refl _) (Nat.le_refl _) rfl (fun φ1 hR1 => ?_)
  obtain ⟨hs1_0, hs1_1, fr1⟩ := hR1
  refine q_load (v := (6, 232, 0)) (p2 := 8) rfl rfl rfl rfl ?_
  refine q_getv (v := (6, 2, 0)) (p2 := 9) rfl hs1_0 (by decide) rfl rfl ?_
  have hm2 := (zq_T_at hT (fr1 2 (by decide) (by decide)) (fr1 3 (by decide) (by decide)) (fr1 4 (by decide) (by decide)) (fr1 5 (by decide) (by decide)) (fr1 6 (by decide) (by decide)))
  refine q_getv (v := (0, 82, 0)) (p2 := 10) rfl hm2.1 (by decide) rfl rfl ?_
  refine q_store (loc2 := [(6, 232, 0), (0, top, 0), (0, 82, 0)]) (p2 := 11) rfl rfl rfl rfl rfl ?_
  refine q_load (v := (0, 82, 0)) (p2 := 12) rfl rfl rfl rfl ?_
  refine q_const (p2 := 13) rfl rfl ?_
  refine q_icmp_s (p2 := 14) rfl (by decide) (by omega) (by omega) rfl (fun hb => absurd hb (show ¬ (82 = 70) by omega)) (fun _ => ?_)
  refine q_load (v := (0, 82, 0)) (p2 := 15) rfl rfl rfl rfl ?_
  refine q_const (p2 := 16) rfl rfl ?_
  refine q_icmp_s (p2 := 17) rfl (by decide) (by omega) (by omega) rfl (fun hb => absurd hb (show ¬ (82 = 51) by omega)) (fun _ => ?_)
  refine q_load (v := (6, 232, 0)) (p2 := 18) rfl rfl rfl rfl ?_
  refine q_load (v := (0, top, 0)) (p2 := 19) rfl rfl rfl rfl ?_
  have hm3 := (x_sch_at hS (fun j h1 h2 => (fr1 j (by omega) (by omega))))
  refine q_callvE (xs := [(0, top, 0), (6, 232, 0)]) (p2 := 20) rfl rfl rfl rfl (x_rcv_s 232 hs1_0) rfl (zc_x_part82_74 hm2 hs1_0 hs1_1 hm3 (by omega) (by omega) (x_s_eq) (by omega) (by omega) (by omega) hc3 hc4 (by omega) hc6) (Nat.le_refl _) (Nat.le_refl _) rfl (fun φ4 hR4 => ?_)
  obtain ⟨hs4_0, hs4_1, hs4_2, fr4⟩ := hR4
  exact q_ret rfl (⟨rfl, rfl, rfl, hs4_0, hs4_1, hs4_2, fun j hj0 hj1 hj2 => ((fr4 j (by omega) (by omega) (by omega)).trans (fr1 j (by omega) (by omega)))⟩)
theorem zc_a_319_74 {d n sl : Nat} {φ : FH}    : x_f x_P (d + 1) 319 [(0, 74, 0)] φ n sl (x_r φ n sl (0, 0, 0)) := by
  refine x_f_of rfl ?_
  refine q_load (v := (0, 74, 0)) (p2 := 1) rfl rfl rfl rfl ?_
  refine q_const (p2 := 2) rfl rfl ?_
  refine q_icmp_s (p2 := 3) rfl (by decide) (by omega) (by omega) rfl (fun hb => absurd hb (show ¬ (74 = 71) by omega)) (fun _ => ?_)
  refine q_load (v := (0, 74, 0)) (p2 := 4) rfl rfl rfl rfl ?_
  refine q_const (p2 := 5) rfl rfl ?_
  refine q_icmp_s (p2 := 6) rfl (by decide) (by omega) (by omega) rfl (fun hb => absurd hb (show ¬ (74 = 72) by omega)) (fun _ => ?_)
  refine q_load (v := (0, 74, 0)) (p2 := 7) rfl rfl rfl rfl ?_
  refine q_const (p2 := 8) rfl rfl ?_
  refine q_icmp_s (p2 := 9) rfl (by decide) (by omega) (by omega) rfl (fun hb => absurd hb (show ¬ (74 = 53) by omega)) (fun _ => ?_)
  refine q_load (v := (0, 74, 0)) (p2 := 10) rfl rfl rfl rfl ?_
  refine q_const (p2 := 11) rfl rfl ?_
  refine q_icmp_s (p2 := 12) rfl (by decide) (by omega) (by omega) rfl (fun hb => absurd hb (show ¬ (74 = 54) by omega)) (fun _ => ?_)
  refine q_load (v := (0, 74, 0)) (p2 := 13) rfl rfl rfl rfl ?_
  refine q_const (p2 := 14) rfl rfl ?_
  refine q_icmp_s (p2 := 15) rfl (by decide) (by omega) (by omega) rfl (fun _ => ?_) (fun hb => absurd (show ¬ (74 = 48) by omega) hb)
  refine q_const (p2 := 18) rfl rfl ?_
  exact q_retv (v := (0, 0, 0)) rfl rfl (⟨rfl, rfl, rfl, rfl, rfl⟩)
theorem zc_x_term82_74 {d n sl : Nat} {φ : FH} {tot : Nat} {at_ : Nat} {pl : Nat} {va : Nat} {fa : Nat} {fp : Nat} {sf : Nat} {sp : Nat} {no : Nat} {op : Nat} {K : Nat → Nat} {P : Nat → Nat} {V : Nat → Nat} {top : Nat} {hid : Nat} {lc : Nat} {slo : Nat} {own : Nat} {sk : Nat} {co : Nat → Nat} {w1 : Nat} (hT : zq_T φ tot at_ 82 pl va fa fp sf sp no op K P V) (hE : zq_E φ 1 top hid lc slo own sk) (hC : zq_co φ co) (hS : x_sch φ) (hc0 : no < 500) (hc1 : top < 10800) (hc2 : at_ + 2 < tot ∧ tot ≤ 3002) (hc3 : K (at_ + 1) = 2) (hc4 : V (at_ + 1) = w1) (hc5 : w1 < 2147483648) (hc6 : K (at_ + 2) = 74) : x_f x_P (d + 6) 291 [(6, 232, 0), (11, 0, 0), (11, 0, 0), (11, 0, 0)] φ n sl (x_vR n sl (fun φ2 => zq_T φ2 tot (at_ + 2) 74 (P (at_ + 2)) (V (at_ + 2)) fa fp sf sp (no + 1) op K P V ∧ zq_E φ2 1 (top + 4) hid lc slo own sk ∧ zq_co φ2 (x_s (x_s (x_s (x_s (x_s co top 1) (top + 1) 0) (top + 1) 1) (top + 2) 7) (top + 3) w1) ∧ ∀ j, j ≠ 2 → j ≠ 232 → j ≠ 450 → φ2 j = φ j)) := by
  refine x_f_of rfl ?_
  refine q_load (v := (6, 232, 0)) (p2 := 1) rfl rfl rfl rfl ?_
  refine q_getv (v := (0, top, 0)) (p2 := 2) rfl hE (by decide) rfl rfl ?_
  refine q_store (loc2 := [(6, 232, 0), (0, top, 0), (11, 0, 0), (11, 0, 0)]) (p2 := 3) rfl rfl rfl rfl rfl ?_
  refine q_load (v := (6, 232, 0)) (p2 := 4) rfl rfl rfl rfl ?_
  refine q_callvE (xs := [(6, 232, 0)]) (p2 := 5) rfl rfl rfl rfl (x_rcv_s 232 hE) rfl (zc_x_fact82_74 hT hE hC hS (by omega) (by omega) (by omega) hc3 hc4 (by omega) hc6) (Nat.le_refl _) (Nat.le_refl _) rfl (fun φ1 hR1 => ?_)
  obtain ⟨hs1_0, hs1_1, hs1_2, fr1⟩ := hR1
  refine q_const (p2 := 6) rfl rfl ?_
  refine q_store (loc2 := [(6, 232, 0), (0, top, 0), (0, 0, 0), (11, 0, 0)]) (p2 := 7) rfl rfl rfl rfl rfl ?_
  refine q_load (v := (0, 0, 0)) (p2 := 8) rfl rfl rfl rfl ?_
  refine q_const (p2 := 9) rfl rfl ?_
  refine q_icmp_s (p2 := 10) rfl (by decide) (by omega) (by omega) rfl (fun hb => absurd hb (show ¬ (¬ (0 < 1000000)) by omega)) (fun _ => ?_)
  refine q_load (v := (6, 232, 0)) (p2 := 11) rfl rfl rfl rfl ?_
  refine q_getv (v := (6, 2, 0)) (p2 := 12) rfl hs1_1 (by decide) rfl rfl ?_
  refine q_getv (v := (0, 74, 0)) (p2 := 13) rfl hs1_0.1 (by decide) rfl rfl ?_
  refine q_callr (xs := [(0, 74, 0)]) (p2 := 14) rfl rfl rfl rfl (fun _ _ => rfl) rfl (zc_a_319_74 ) (Nat.le_refl _) (Nat.le_refl _) rfl ?_
  refine q_if0_s (p2 := 15) rfl (by decide) (by omega) rfl (fun _ => ?_) (fun hb => absurd (show 0 = 0 by omega) hb)
  exact q_ret rfl (⟨rfl, rfl, rfl, hs1_0, hs1_1, hs1_2, fun j hj0 hj1 hj2 => (fr1 j (by omega) (by omega) (by omega))⟩)
theorem zc_a_292_74 {d n sl : Nat} {φ : FH}    : x_f x_P (d + 1) 292 [(0, 74, 0)] φ n sl (x_r φ n sl (0, 0, 0)) := by
  refine x_f_of rfl ?_
  refine q_load (v := (0, 74, 0)) (p2 := 1) rfl rfl rfl rfl ?_
  refine q_const (p2 := 2) rfl rfl ?_
  refine q_icmp_s (p2 := 3) rfl (by decide) (by omega) (by omega) rfl (fun hb => absurd hb (show ¬ (74 = 69) by omega)) (fun _ => ?_)
  refine q_load (v := (0, 74, 0)) (p2 := 4) rfl rfl rfl rfl ?_
  refine q_const (p2 := 5) rfl rfl ?_
  refine q_icmp_s (p2 := 6) rfl (by decide) (by omega) (by omega) rfl (fun hb => absurd hb (show ¬ (74 = 70) by omega)) (fun _ => ?_)
  refine q_load (v := (0, 74, 0)) (p2 := 7) rfl rfl rfl rfl ?_
  refine q_const (p2 := 8) rfl rfl ?_
  refine q_icmp_s (p2 := 9) rfl (by decide) (by omega) (by omega) rfl (fun hb => absurd hb (show ¬ (74 = 49) by omega)) (fun _ => ?_)
  refine q_load (v := (0, 74, 0)) (p2 := 10) rfl rfl rfl rfl ?_
  refine q_const (p2 := 11) rfl rfl ?_
  refine q_icmp_s (p2 := 12) rfl (by decide) (by omega) (by omega) rfl (fun _ => ?_) (fun hb => absurd (show ¬ (74 = 50) by omega) hb)
  refine q_const (p2 := 15) rfl rfl ?_
  exact q_retv (v := (0, 0, 0)) rfl rfl (⟨rfl, rfl, rfl, rfl, rfl⟩)
theorem zc_x_sum82_74 {d n sl : Nat} {φ : FH} {tot : Nat} {at_ : Nat} {pl : Nat} {va : Nat} {fa : Nat} {fp : Nat} {sf : Nat} {sp : Nat} {no : Nat} {op : Nat} {K : Nat → Nat} {P : Nat → Nat} {V : Nat → Nat} {top : Nat} {hid : Nat} {lc : Nat} {slo : Nat} {own : Nat} {sk : Nat} {co : Nat → Nat} {w1 : Nat} (hT : zq_T φ tot at_ 82 pl va fa fp sf sp no op K P V) (hE : zq_E φ 1 top hid lc slo own sk) (hC : zq_co φ co) (hS : x_sch φ) (hc0 : no < 500) (hc1 : top < 10700) (hc2 : at_ + 2 < tot ∧ tot ≤ 3002) (hc3 : K (at_ + 1) = 2) (hc4 : V (at_ + 1) = w1) (hc5 : w1 < 2147483648) (hc6 : K (at_ + 2) = 74) : x_f x_P (d + 7) 245 [(6, 232, 0), (11, 0, 0), (11, 0, 0), (11, 0, 0)] φ n sl (x_vR n sl (fun φ2 => zq_T φ2 tot (at_ + 2) 74 (P (at_ + 2)) (V (at_ + 2)) fa fp sf sp (no + 1) op K P V ∧ zq_E φ2 1 (top + 4) hid lc slo own sk ∧ zq_co φ2 (x_s (x_s (x_s (x_s (x_s co top 1) (top + 1) 0) (top + 1) 1) (top + 2) 7) (top + 3) w1) ∧ ∀ j, j ≠ 2 → j ≠ 232 → j ≠ 450 → φ2 j = φ j)) := by
  refine x_f_of rfl ?_
  refine q_load (v := (6, 232, 0)) (p2 := 1) rfl rfl rfl rfl ?_
  refine q_getv (v := (0, top, 0)) (p2 := 2) rfl hE (by decide) rfl rfl ?_
  refine q_store (loc2 := [(6, 232, 0), (0, top, 0), (11, 0, 0), (11, 0, 0)]) (p2 := 3) rfl rfl rfl rfl rfl ?_
  refine q_load (v := (6, 232, 0)) (p2 := 4) rfl rfl rfl rfl ?_
  refine q_callvE (xs := [(6, 232, 0)]) (p2 := 5) rfl rfl rfl rfl (x_rcv_s 232 hE) rfl (zc_x_term82_74 hT hE hC hS (by omega) (by omega) (by omega) hc3 hc4 (by omega) hc6) (Nat.le_refl _) (Nat.le_refl _) rfl (fun φ1 hR1 => ?_)
  obtain ⟨hs1_0, hs1_1, hs1_2, fr1⟩ := hR1
  refine q_const (p2 := 6) rfl rfl ?_
  refine q_store (loc2 := [(6, 232, 0), (0, top, 0), (0, 0, 0), (11, 0, 0)]) (p2 := 7) rfl rfl rfl rfl rfl ?_
  refine q_load (v := (0, 0, 0)) (p2 := 8) rfl rfl rfl rfl ?_
  refine q_const (p2 := 9) rfl rfl ?_
  refine q_icmp_s (p2 := 10) rfl (by decide) (by omega) (by omega) rfl (fun hb => absurd hb (show ¬ (¬ (0 < 1000000)) by omega)) (fun _ => ?_)
  refine q_load (v := (6, 232, 0)) (p2 := 11) rfl rfl rfl rfl ?_
  refine q_getv (v := (6, 2, 0)) (p2 := 12) rfl hs1_1 (by decide) rfl rfl ?_
  refine q_getv (v := (0, 74, 0)) (p2 := 13) rfl hs1_0.1 (by decide) rfl rfl ?_
  refine q_callr (xs := [(0, 74, 0)]) (p2 := 14) rfl rfl rfl rfl (fun _ _ => rfl) rfl (zc_a_292_74 ) (Nat.le_refl _) (Nat.le_refl _) rfl ?_
  refine q_if0_s (p2 := 15) rfl (by decide) (by omega) rfl (fun _ => ?_) (fun hb => absurd (show 0 = 0 by omega) hb)
  exact q_ret rfl (⟨rfl, rfl, rfl, hs1_0, hs1_1, hs1_2, fun j hj0 hj1 hj2 => (fr1 j (by omega) (by omega) (by omega))⟩)
theorem zc_x_exp82_74 {d n sl : Nat} {φ : FH} {tot : Nat} {at_ : Nat} {pl : Nat} {va : Nat} {fa : Nat} {fp : Nat} {sf : Nat} {sp : Nat} {no : Nat} {op : Nat} {K : Nat → Nat} {P : Nat → Nat} {V : Nat → Nat} {top : Nat} {hid : Nat} {lc : Nat} {slo : Nat} {own : Nat} {sk : Nat} {co : Nat → Nat} {w1 : Nat} (hT : zq_T φ tot at_ 82 pl va fa fp sf sp no op K P V) (hE : zq_E φ 1 top hid lc slo own sk) (hC : zq_co φ co) (hS : x_sch φ) (hc0 : no < 500) (hc1 : top < 10600) (hc2 : at_ + 2 < tot ∧ tot ≤ 3002) (hc3 : K (at_ + 1) = 2) (hc4 : V (at_ + 1) = w1) (hc5 : w1 < 2147483648) (hc6 : K (at_ + 2) = 74) : x_f x_P (d + 8) 177 [(6, 232, 0), (11, 0, 0), (11, 0, 0)] φ n sl (x_vR n sl (fun φ2 => zq_T φ2 tot (at_ + 2) 74 (P (at_ + 2)) (V (at_ + 2)) fa fp sf sp (no + 1) op K P V ∧ zq_E φ2 1 (top + 4) hid lc slo own sk ∧ zq_co φ2 (x_s (x_s (x_s (x_s (x_s co top 1) (top + 1) 0) (top + 1) 1) (top + 2) 7) (top + 3) w1) ∧ ∀ j, j ≠ 2 → j ≠ 232 → j ≠ 450 → φ2 j = φ j)) := by
  refine x_f_of rfl ?_
  refine q_load (v := (6, 232, 0)) (p2 := 1) rfl rfl rfl rfl ?_
  refine q_getv (v := (0, top, 0)) (p2 := 2) rfl hE (by decide) rfl rfl ?_
  refine q_store (loc2 := [(6, 232, 0), (0, top, 0), (11, 0, 0)]) (p2 := 3) rfl rfl rfl rfl rfl ?_
  refine q_load (v := (6, 232, 0)) (p2 := 4) rfl rfl rfl rfl ?_
  refine q_callvE (xs := [(6, 232, 0)]) (p2 := 5) rfl rfl rfl rfl (x_rcv_s 232 hE) rfl (zc_x_sum82_74 hT hE hC hS (by omega) (by omega) (by omega) hc3 hc4 (by omega) hc6) (Nat.le_refl _) (Nat.le_refl _) rfl (fun φ1 hR1 => ?_)
  obtain ⟨hs1_0, hs1_1, hs1_2, fr1⟩ := hR1
  refine q_load (v := (6, 232, 0)) (p2 := 6) rfl rfl rfl rfl ?_
  refine q_getv (v := (6, 2, 0)) (p2 := 7) rfl hs1_1 (by decide) rfl rfl ?_
  refine q_getv (v := (0, 74, 0)) (p2 := 8) rfl hs1_0.1 (by decide) rfl rfl ?_
  refine q_store (loc2 := [(6, 232, 0), (0, top, 0), (0, 74, 0)]) (p2 := 9) rfl rfl rfl rfl rfl ?_
  refine q_load (v := (0, 74, 0)) (p2 := 10) rfl rfl rfl rfl ?_
  refine q_const (p2 := 11) rfl rfl ?_
  refine q_icmp_s (p2 := 12) rfl (by decide) (by omega) (by omega) rfl (fun hb => absurd hb (show ¬ (74 < 60) by omega)) (fun _ => ?_)
  refine q_load (v := (0, 74, 0)) (p2 := 13) rfl rfl rfl rfl ?_
  refine q_const (p2 := 14) rfl rfl ?_
  refine q_icmp_s (p2 := 15) rfl (by decide) (by omega) (by omega) rfl (fun hb => absurd hb (show ¬ (¬ (66 < 74)) by omega)) (fun _ => ?_)
  refine q_load (v := (0, 74, 0)) (p2 := 16) rfl rfl rfl rfl ?_
  refine q_const (p2 := 17) rfl rfl ?_
  refine q_icmp_s (p2 := 18) rfl (by decide) (by omega) (by omega) rfl (fun _ => ?_) (fun hb => absurd (show ¬ (74 = 52) by omega) hb)
  exact q_ret rfl (⟨rfl, rfl, rfl, hs1_0, hs1_1, hs1_2, fun j hj0 hj1 hj2 => (fr1 j (by omega) (by omega) (by omega))⟩)
theorem zc_x_part82_64 {d n sl : Nat} {φ : FH} {tot : Nat} {at_ : Nat} {pl : Nat} {va : Nat} {fa : Nat} {fp : Nat} {sf : Nat} {sp : Nat} {no : Nat} {op : Nat} {K : Nat → Nat} {P : Nat → Nat} {V : Nat → Nat} {top : Nat} {hid : Nat} {lc : Nat} {slo : Nat} {own : Nat} {sk : Nat} {co : Nat → Nat} {st : Nat} {cv : Nat} {w1 : Nat} (hT : zq_T φ tot at_ 82 pl va fa fp sf sp no op K P V) (hE : zq_E φ 1 top hid lc slo own sk) (hC : zq_co φ co) (hS : x_sch φ) (hc0 : no < 500) (hc1 : st < 12000) (hc2 : co (st + 1) = cv) (hc3 : cv < 900) (hc4 : top < 11000) (hc5 : at_ + 2 < tot ∧ tot ≤ 3002) (hc6 : K (at_ + 1) = 2) (hc7 : V (at_ + 1) = w1) (hc8 : w1 < 2147483648) (hc9 : K (at_ + 2) = 64) : x_f x_P (d + 4) 323 [(6, 232, 0), (0, st, 0), (11, 0, 0)] φ n sl (x_vR n sl (fun φ2 => zq_T φ2 tot (at_ + 2) 64 (P (at_ + 2)) (V (at_ + 2)) fa fp sf sp (no + 1) op K P V ∧ zq_E φ2 1 (top + 2) hid lc slo own sk ∧ zq_co φ2 (x_s (x_s (x_s co (st + 1) (cv + 1)) top 7) (top + 1) w1) ∧ ∀ j, j ≠ 2 → j ≠ 232 → j ≠ 450 → φ2 j = φ j)) := by
  refine x_f_of rfl ?_
  refine q_load (v := (6, 232, 0)) (p2 := 1) rfl rfl rfl rfl ?_
  refine q_load (v := (0, st, 0)) (p2 := 2) rfl rfl rfl rfl ?_
  refine q_callvE (xs := [(0, st, 0), (6, 232, 0)]) (p2 := 3) rfl rfl rfl rfl (x_rcv_s 232 hE) rfl (zc_x_base82 hT hE hC hS (by omega) (by omega) hc2 (by omega) (by omega) (by omega) hc6 hc7 (by omega) hc9) (Nat.le_refl _) (Nat.le_refl _) rfl (fun φ1 hR1 => ?_)
  obtain ⟨hs1_0, hs1_1, hs1_2, fr1⟩ := hR1
  refine q_const (p2 := 4) rfl rfl ?_
  refine q_store (loc2 := [(6, 232, 0), (0, st, 0), (0, 0, 0)]) (p2 := 5) rfl rfl rfl rfl rfl ?_
  refine q_load (v := (0, 0, 0)) (p2 := 6) rfl rfl rfl rfl ?_
  refine q_const (p2 := 7) rfl rfl ?_
  refine q_icmp_s (p2 := 8) rfl (by decide) (by omega) (by omega) rfl (fun hb => absurd hb (show ¬ (¬ (0 < 1000000)) by omega)) (fun _ => ?_)
  refine q_load (v := (6, 232, 0)) (p2 := 9) rfl rfl rfl rfl ?_
  refine q_getv (v := (6, 2, 0)) (p2 := 10) rfl hs1_1 (by decide) rfl rfl ?_
  refine q_const (p2 := 11) rfl rfl ?_
  refine q_callr (xs := [(0, 80, 0), (6, 2, 0)]) (p2 := 12) rfl rfl rfl rfl (x_rcv_s 2 hs1_0.1) rfl (zc_t_is_0 hs1_0 (by omega) (by omega)) (Nat.le_refl _) (Nat.le_refl _) rfl ?_
  refine q_if0_s (p2 := 13) rfl (by decide) (by omega) rfl (fun hb => absurd hb (show ¬ (¬ (0 = 0)) by omega)) (fun _ => ?_)
  refine q_load (v := (6, 232, 0)) (p2 := 14) rfl rfl rfl rfl ?_
  refine q_getv (v := (6, 2, 0)) (p2 := 15) rfl hs1_1 (by decide) rfl rfl ?_
  refine q_const (p2 := 16) rfl rfl ?_
  refine q_callr (xs := [(0, 75, 0), (6, 2, 0)]) (p2 := 17) rfl rfl rfl rfl (x_rcv_s 2 hs1_0.1) rfl (zc_t_is_0 hs1_0 (by omega) (by omega)) (Nat.le_refl _) (Nat.le_refl _) rfl ?_
  refine q_if0_s (p2 := 18) rfl (by decide) (by omega) rfl (fun _ => ?_) (fun hb => absurd (show 0 = 0 by omega) hb)
  exact q_ret rfl (⟨rfl, rfl, rfl, hs1_0, hs1_1, hs1_2, fun j hj0 hj1 hj2 => (fr1 j (by omega) (by omega) (by omega))⟩)
theorem zc_x_fact82_64 {d n sl : Nat} {φ : FH} {tot : Nat} {at_ : Nat} {pl : Nat} {va : Nat} {fa : Nat} {fp : Nat} {sf : Nat} {sp : Nat} {no : Nat} {op : Nat} {K : Nat → Nat} {P : Nat → Nat} {V : Nat → Nat} {top : Nat} {hid : Nat} {lc : Nat} {slo : Nat} {own : Nat} {sk : Nat} {co : Nat → Nat} {w1 : Nat} (hT : zq_T φ tot at_ 82 pl va fa fp sf sp no op K P V) (hE : zq_E φ 1 top hid lc slo own sk) (hC : zq_co φ co) (hS : x_sch φ) (hc0 : no < 500) (hc1 : top < 10900) (hc2 : at_ + 2 < tot ∧ tot ≤ 3002) (hc3 : K (at_ + 1) = 2) (hc4 : V (at_ + 1) = w1) (hc5 : w1 < 2147483648) (hc6 : K (at_ + 2) = 64) : x_f x_P (d + 5) 318 [(6, 232, 0), (11, 0, 0), (11, 0, 0)] φ n sl (x_vR n sl (fun φ2 => zq_T φ2 tot (at_ + 2) 64 (P (at_ + 2)) (V (at_ + 2)) fa fp sf sp (no + 1) op K P V ∧ zq_E φ2 1 (top + 4) hid lc slo own sk ∧ zq_co φ2 (x_s (x_s (x_s (x_s (x_s co top 1) (top + 1) 0) (top + 1) 1) (top + 2) 7) (top + 3) w1) ∧ ∀ j, j ≠ 2 → j ≠ 232 → j ≠ 450 → φ2 j = φ j)) := by
  refine x_f_of rfl ?_
  refine q_load (v := (6, 232, 0)) (p2 := 1) rfl rfl rfl rfl ?_
  refine q_getv (v := (0, top, 0)) (p2 := 2) rfl hE (by decide) rfl rfl ?_
  refine q_store (loc2 := [(6, 232, 0), (0, top, 0), (11, 0, 0)]) (p2 := 3) rfl rfl rfl rfl rfl ?_
  refine q_load (v := (6, 232, 0)) (p2 := 4) rfl rfl rfl rfl ?_
  refine q_const (p2 := 5) rfl rfl ?_
  refine q_const (p2 := 6) rfl rfl ?_
  refine q_callvE (xs := [(0, 0, 0), (0, 1, 0), (6, 232, 0)]) (p2 := 7) rfl rfl rfl rfl (x_rcv_s 232 hE) rfl (zc_x_em2 hE hC hS (by omega)) (Nat.le_refl _) (Nat.le_refl _) rfl (fun φ1 hR1 => ?_)
  obtain ⟨hs1_0, hs1_1, fr1⟩ := hR1
  refine q_load (v := (6, 232, 0)) (p2 := 8) rfl rfl rfl rfl ?_
  refine q_getv (v := (6, 2, 0)) (p2 := 9) rfl hs1_0 (by decide) rfl rfl ?_
  have hm2 := (zq_T_at hT (fr1 2 (by decide) (by decide)) (fr1 3 (by decide) (by decide)) (fr1 4 (by decide) (by decide)) (fr1 5 (by decide) (by decide)) (fr1 6 (by decide) (by decide)))
  refine q_getv (v := (0, 82, 0)) (p2 := 10) rfl hm2.1 (by decide) rfl rfl ?_
  refine q_store (loc2 := [(6, 232, 0), (0, top, 0), (0, 82, 0)]) (p2 := 11) rfl rfl rfl rfl rfl ?_
  refine q_load (v := (0, 82, 0)) (p2 := 12) rfl rfl rfl rfl ?_
  refine q_const (p2 := 13) rfl rfl ?_
  refine q_icmp_s (p2 := 14) rfl (by decide) (by omega) (by omega) rfl (fun hb => absurd hb (show ¬ (82 = 70) by omega)) (fun _ => ?_)
  refine q_load (v := (0, 82, 0)) (p2 := 15) rfl rfl rfl rfl ?_
  refine q_const (p2 := 16) rfl rfl ?_
  refine q_icmp_s (p2 := 17) rfl (by decide) (by omega) (by omega) rfl (fun hb => absurd hb (show ¬ (82 = 51) by omega)) (fun _ => ?_)
  refine q_load (v := (6, 232, 0)) (p2 := 18) rfl rfl rfl rfl ?_
  refine q_load (v := (0, top, 0)) (p2 := 19) rfl rfl rfl rfl ?_
  have hm3 := (x_sch_at hS (fun j h1 h2 => (fr1 j (by omega) (by omega))))
  refine q_callvE (xs := [(0, top, 0), (6, 232, 0)]) (p2 := 20) rfl rfl rfl rfl (x_rcv_s 232 hs1_0) rfl (zc_x_part82_64 hm2 hs1_0 hs1_1 hm3 (by omega) (by omega) (x_s_eq) (by omega) (by omega) (by omega) hc3 hc4 (by omega) hc6) (Nat.le_refl _) (Nat.le_refl _) rfl (fun φ4 hR4 => ?_)
  obtain ⟨hs4_0, hs4_1, hs4_2, fr4⟩ := hR4
  exact q_ret rfl (⟨rfl, rfl, rfl, hs4_0, hs4_1, hs4_2, fun j hj0 hj1 hj2 => ((fr4 j (by omega) (by omega) (by omega)).trans (fr1 j (by omega) (by omega)))⟩)
theorem zc_a_319_64 {d n sl : Nat} {φ : FH}    : x_f x_P (d + 1) 319 [(0, 64, 0)] φ n sl (x_r φ n sl (0, 0, 0)) := by
  refine x_f_of rfl ?_
  refine q_load (v := (0, 64, 0)) (p2 := 1) rfl rfl rfl rfl ?_
  refine q_const (p2 := 2) rfl rfl ?_
  refine q_icmp_s (p2 := 3) rfl (by decide) (by omega) (by omega) rfl (fun hb => absurd hb (show ¬ (64 = 71) by omega)) (fun _ => ?_)
  refine q_load (v := (0, 64, 0)) (p2 := 4) rfl rfl rfl rfl ?_
  refine q_const (p2 := 5) rfl rfl ?_
  refine q_icmp_s (p2 := 6) rfl (by decide) (by omega) (by omega) rfl (fun hb => absurd hb (show ¬ (64 = 72) by omega)) (fun _ => ?_)
  refine q_load (v := (0, 64, 0)) (p2 := 7) rfl rfl rfl rfl ?_
  refine q_const (p2 := 8) rfl rfl ?_
  refine q_icmp_s (p2 := 9) rfl (by decide) (by omega) (by omega) rfl (fun hb => absurd hb (show ¬ (64 = 53) by omega)) (fun _ => ?_)
  refine q_load (v := (0, 64, 0)) (p2 := 10) rfl rfl rfl rfl ?_
  refine q_const (p2 := 11) rfl rfl ?_
  refine q_icmp_s (p2 := 12) rfl (by decide) (by omega) (by omega) rfl (fun hb => absurd hb (show ¬ (64 = 54) by omega)) (fun _ => ?_)
  refine q_load (v := (0, 64, 0)) (p2 := 13) rfl rfl rfl rfl ?_
  refine q_const (p2 := 14) rfl rfl ?_
  refine q_icmp_s (p2 := 15) rfl (by decide) (by omega) (by omega) rfl (fun _ => ?_) (fun hb => absurd (show ¬ (64 = 48) by omega) hb)
  refine q_const (p2 := 18) rfl rfl ?_
  exact q_retv (v := (0, 0, 0)) rfl rfl (⟨rfl, rfl, rfl, rfl, rfl⟩)
theorem zc_x_term82_64 {d n sl : Nat} {φ : FH} {tot : Nat} {at_ : Nat} {pl : Nat} {va : Nat} {fa : Nat} {fp : Nat} {sf : Nat} {sp : Nat} {no : Nat} {op : Nat} {K : Nat → Nat} {P : Nat → Nat} {V : Nat → Nat} {top : Nat} {hid : Nat} {lc : Nat} {slo : Nat} {own : Nat} {sk : Nat} {co : Nat → Nat} {w1 : Nat} (hT : zq_T φ tot at_ 82 pl va fa fp sf sp no op K P V) (hE : zq_E φ 1 top hid lc slo own sk) (hC : zq_co φ co) (hS : x_sch φ) (hc0 : no < 500) (hc1 : top < 10800) (hc2 : at_ + 2 < tot ∧ tot ≤ 3002) (hc3 : K (at_ + 1) = 2) (hc4 : V (at_ + 1) = w1) (hc5 : w1 < 2147483648) (hc6 : K (at_ + 2) = 64) : x_f x_P (d + 6) 291 [(6, 232, 0), (11, 0, 0), (11, 0, 0), (11, 0, 0)] φ n sl (x_vR n sl (fun φ2 => zq_T φ2 tot (at_ + 2) 64 (P (at_ + 2)) (V (at_ + 2)) fa fp sf sp (no + 1) op K P V ∧ zq_E φ2 1 (top + 4) hid lc slo own sk ∧ zq_co φ2 (x_s (x_s (x_s (x_s (x_s co top 1) (top + 1) 0) (top + 1) 1) (top + 2) 7) (top + 3) w1) ∧ ∀ j, j ≠ 2 → j ≠ 232 → j ≠ 450 → φ2 j = φ j)) := by
  refine x_f_of rfl ?_
  refine q_load (v := (6, 232, 0)) (p2 := 1) rfl rfl rfl rfl ?_
  refine q_getv (v := (0, top, 0)) (p2 := 2) rfl hE (by decide) rfl rfl ?_
  refine q_store (loc2 := [(6, 232, 0), (0, top, 0), (11, 0, 0), (11, 0, 0)]) (p2 := 3) rfl rfl rfl rfl rfl ?_
  refine q_load (v := (6, 232, 0)) (p2 := 4) rfl rfl rfl rfl ?_
  refine q_callvE (xs := [(6, 232, 0)]) (p2 := 5) rfl rfl rfl rfl (x_rcv_s 232 hE) rfl (zc_x_fact82_64 hT hE hC hS (by omega) (by omega) (by omega) hc3 hc4 (by omega) hc6) (Nat.le_refl _) (Nat.le_refl _) rfl (fun φ1 hR1 => ?_)
  obtain ⟨hs1_0, hs1_1, hs1_2, fr1⟩ := hR1
  refine q_const (p2 := 6) rfl rfl ?_
  refine q_store (loc2 := [(6, 232, 0), (0, top, 0), (0, 0, 0), (11, 0, 0)]) (p2 := 7) rfl rfl rfl rfl rfl ?_
  refine q_load (v := (0, 0, 0)) (p2 := 8) rfl rfl rfl rfl ?_
  refine q_const (p2 := 9) rfl rfl ?_
  refine q_icmp_s (p2 := 10) rfl (by decide) (by omega) (by omega) rfl (fun hb => absurd hb (show ¬ (¬ (0 < 1000000)) by omega)) (fun _ => ?_)
  refine q_load (v := (6, 232, 0)) (p2 := 11) rfl rfl rfl rfl ?_
  refine q_getv (v := (6, 2, 0)) (p2 := 12) rfl hs1_1 (by decide) rfl rfl ?_
  refine q_getv (v := (0, 64, 0)) (p2 := 13) rfl hs1_0.1 (by decide) rfl rfl ?_
  refine q_callr (xs := [(0, 64, 0)]) (p2 := 14) rfl rfl rfl rfl (fun _ _ => rfl) rfl (zc_a_319_64 ) (Nat.le_refl _) (Nat.le_refl _) rfl ?_
  refine q_if0_s (p2 := 15) rfl (by decide) (by omega) rfl (fun _ => ?_) (fun hb => absurd (show 0 = 0 by omega) hb)
  exact q_ret rfl (⟨rfl, rfl, rfl, hs1_0, hs1_1, hs1_2, fun j hj0 hj1 hj2 => (fr1 j (by omega) (by omega) (by omega))⟩)
theorem zc_a_292_64 {d n sl : Nat} {φ : FH}    : x_f x_P (d + 1) 292 [(0, 64, 0)] φ n sl (x_r φ n sl (0, 0, 0)) := by
  refine x_f_of rfl ?_
  refine q_load (v := (0, 64, 0)) (p2 := 1) rfl rfl rfl rfl ?_
  refine q_const (p2 := 2) rfl rfl ?_
  refine q_icmp_s (p2 := 3) rfl (by decide) (by omega) (by omega) rfl (fun hb => absurd hb (show ¬ (64 = 69) by omega)) (fun _ => ?_)
  refine q_load (v := (0, 64, 0)) (p2 := 4) rfl rfl rfl rfl ?_
  refine q_const (p2 := 5) rfl rfl ?_
  refine q_icmp_s (p2 := 6) rfl (by decide) (by omega) (by omega) rfl (fun hb => absurd hb (show ¬ (64 = 70) by omega)) (fun _ => ?_)
  refine q_load (v := (0, 64, 0)) (p2 := 7) rfl rfl rfl rfl ?_
  refine q_const (p2 := 8) rfl rfl ?_
  refine q_icmp_s (p2 := 9) rfl (by decide) (by omega) (by omega) rfl (fun hb => absurd hb (show ¬ (64 = 49) by omega)) (fun _ => ?_)
  refine q_load (v := (0, 64, 0)) (p2 := 10) rfl rfl rfl rfl ?_
  refine q_const (p2 := 11) rfl rfl ?_
  refine q_icmp_s (p2 := 12) rfl (by decide) (by omega) (by omega) rfl (fun _ => ?_) (fun hb => absurd (show ¬ (64 = 50) by omega) hb)
  refine q_const (p2 := 15) rfl rfl ?_
  exact q_retv (v := (0, 0, 0)) rfl rfl (⟨rfl, rfl, rfl, rfl, rfl⟩)
theorem zc_x_sum82_64 {d n sl : Nat} {φ : FH} {tot : Nat} {at_ : Nat} {pl : Nat} {va : Nat} {fa : Nat} {fp : Nat} {sf : Nat} {sp : Nat} {no : Nat} {op : Nat} {K : Nat → Nat} {P : Nat → Nat} {V : Nat → Nat} {top : Nat} {hid : Nat} {lc : Nat} {slo : Nat} {own : Nat} {sk : Nat} {co : Nat → Nat} {w1 : Nat} (hT : zq_T φ tot at_ 82 pl va fa fp sf sp no op K P V) (hE : zq_E φ 1 top hid lc slo own sk) (hC : zq_co φ co) (hS : x_sch φ) (hc0 : no < 500) (hc1 : top < 10700) (hc2 : at_ + 2 < tot ∧ tot ≤ 3002) (hc3 : K (at_ + 1) = 2) (hc4 : V (at_ + 1) = w1) (hc5 : w1 < 2147483648) (hc6 : K (at_ + 2) = 64) : x_f x_P (d + 7) 245 [(6, 232, 0), (11, 0, 0), (11, 0, 0), (11, 0, 0)] φ n sl (x_vR n sl (fun φ2 => zq_T φ2 tot (at_ + 2) 64 (P (at_ + 2)) (V (at_ + 2)) fa fp sf sp (no + 1) op K P V ∧ zq_E φ2 1 (top + 4) hid lc slo own sk ∧ zq_co φ2 (x_s (x_s (x_s (x_s (x_s co top 1) (top + 1) 0) (top + 1) 1) (top + 2) 7) (top + 3) w1) ∧ ∀ j, j ≠ 2 → j ≠ 232 → j ≠ 450 → φ2 j = φ j)) := by
  refine x_f_of rfl ?_
  refine q_load (v := (6, 232, 0)) (p2 := 1) rfl rfl rfl rfl ?_
  refine q_getv (v := (0, top, 0)) (p2 := 2) rfl hE (by decide) rfl rfl ?_
  refine q_store (loc2 := [(6, 232, 0), (0, top, 0), (11, 0, 0), (11, 0, 0)]) (p2 := 3) rfl rfl rfl rfl rfl ?_
  refine q_load (v := (6, 232, 0)) (p2 := 4) rfl rfl rfl rfl ?_
  refine q_callvE (xs := [(6, 232, 0)]) (p2 := 5) rfl rfl rfl rfl (x_rcv_s 232 hE) rfl (zc_x_term82_64 hT hE hC hS (by omega) (by omega) (by omega) hc3 hc4 (by omega) hc6) (Nat.le_refl _) (Nat.le_refl _) rfl (fun φ1 hR1 => ?_)
  obtain ⟨hs1_0, hs1_1, hs1_2, fr1⟩ := hR1
  refine q_const (p2 := 6) rfl rfl ?_
  refine q_store (loc2 := [(6, 232, 0), (0, top, 0), (0, 0, 0), (11, 0, 0)]) (p2 := 7) rfl rfl rfl rfl rfl ?_
  refine q_load (v := (0, 0, 0)) (p2 := 8) rfl rfl rfl rfl ?_
  refine q_const (p2 := 9) rfl rfl ?_
  refine q_icmp_s (p2 := 10) rfl (by decide) (by omega) (by omega) rfl (fun hb => absurd hb (show ¬ (¬ (0 < 1000000)) by omega)) (fun _ => ?_)
  refine q_load (v := (6, 232, 0)) (p2 := 11) rfl rfl rfl rfl ?_
  refine q_getv (v := (6, 2, 0)) (p2 := 12) rfl hs1_1 (by decide) rfl rfl ?_
  refine q_getv (v := (0, 64, 0)) (p2 := 13) rfl hs1_0.1 (by decide) rfl rfl ?_
  refine q_callr (xs := [(0, 64, 0)]) (p2 := 14) rfl rfl rfl rfl (fun _ _ => rfl) rfl (zc_a_292_64 ) (Nat.le_refl _) (Nat.le_refl _) rfl ?_
  refine q_if0_s (p2 := 15) rfl (by decide) (by omega) rfl (fun _ => ?_) (fun hb => absurd (show 0 = 0 by omega) hb)
  exact q_ret rfl (⟨rfl, rfl, rfl, hs1_0, hs1_1, hs1_2, fun j hj0 hj1 hj2 => (fr1 j (by omega) (by omega) (by omega))⟩)
theorem zc_x_part82_69 {d n sl : Nat} {φ : FH} {tot : Nat} {at_ : Nat} {pl : Nat} {va : Nat} {fa : Nat} {fp : Nat} {sf : Nat} {sp : Nat} {no : Nat} {op : Nat} {K : Nat → Nat} {P : Nat → Nat} {V : Nat → Nat} {top : Nat} {hid : Nat} {lc : Nat} {slo : Nat} {own : Nat} {sk : Nat} {co : Nat → Nat} {st : Nat} {cv : Nat} {w1 : Nat} (hT : zq_T φ tot at_ 82 pl va fa fp sf sp no op K P V) (hE : zq_E φ 1 top hid lc slo own sk) (hC : zq_co φ co) (hS : x_sch φ) (hc0 : no < 500) (hc1 : st < 12000) (hc2 : co (st + 1) = cv) (hc3 : cv < 900) (hc4 : top < 11000) (hc5 : at_ + 2 < tot ∧ tot ≤ 3002) (hc6 : K (at_ + 1) = 2) (hc7 : V (at_ + 1) = w1) (hc8 : w1 < 2147483648) (hc9 : K (at_ + 2) = 69) : x_f x_P (d + 4) 323 [(6, 232, 0), (0, st, 0), (11, 0, 0)] φ n sl (x_vR n sl (fun φ2 => zq_T φ2 tot (at_ + 2) 69 (P (at_ + 2)) (V (at_ + 2)) fa fp sf sp (no + 1) op K P V ∧ zq_E φ2 1 (top + 2) hid lc slo own sk ∧ zq_co φ2 (x_s (x_s (x_s co (st + 1) (cv + 1)) top 7) (top + 1) w1) ∧ ∀ j, j ≠ 2 → j ≠ 232 → j ≠ 450 → φ2 j = φ j)) := by
  refine x_f_of rfl ?_
  refine q_load (v := (6, 232, 0)) (p2 := 1) rfl rfl rfl rfl ?_
  refine q_load (v := (0, st, 0)) (p2 := 2) rfl rfl rfl rfl ?_
  refine q_callvE (xs := [(0, st, 0), (6, 232, 0)]) (p2 := 3) rfl rfl rfl rfl (x_rcv_s 232 hE) rfl (zc_x_base82 hT hE hC hS (by omega) (by omega) hc2 (by omega) (by omega) (by omega) hc6 hc7 (by omega) hc9) (Nat.le_refl _) (Nat.le_refl _) rfl (fun φ1 hR1 => ?_)
  obtain ⟨hs1_0, hs1_1, hs1_2, fr1⟩ := hR1
  refine q_const (p2 := 4) rfl rfl ?_
  refine q_store (loc2 := [(6, 232, 0), (0, st, 0), (0, 0, 0)]) (p2 := 5) rfl rfl rfl rfl rfl ?_
  refine q_load (v := (0, 0, 0)) (p2 := 6) rfl rfl rfl rfl ?_
  refine q_const (p2 := 7) rfl rfl ?_
  refine q_icmp_s (p2 := 8) rfl (by decide) (by omega) (by omega) rfl (fun hb => absurd hb (show ¬ (¬ (0 < 1000000)) by omega)) (fun _ => ?_)
  refine q_load (v := (6, 232, 0)) (p2 := 9) rfl rfl rfl rfl ?_
  refine q_getv (v := (6, 2, 0)) (p2 := 10) rfl hs1_1 (by decide) rfl rfl ?_
  refine q_const (p2 := 11) rfl rfl ?_
  refine q_callr (xs := [(0, 80, 0), (6, 2, 0)]) (p2 := 12) rfl rfl rfl rfl (x_rcv_s 2 hs1_0.1) rfl (zc_t_is_0 hs1_0 (by omega) (by omega)) (Nat.le_refl _) (Nat.le_refl _) rfl ?_
  refine q_if0_s (p2 := 13) rfl (by decide) (by omega) rfl (fun hb => absurd hb (show ¬ (¬ (0 = 0)) by omega)) (fun _ => ?_)
  refine q_load (v := (6, 232, 0)) (p2 := 14) rfl rfl rfl rfl ?_
  refine q_getv (v := (6, 2, 0)) (p2 := 15) rfl hs1_1 (by decide) rfl rfl ?_
  refine q_const (p2 := 16) rfl rfl ?_
  refine q_callr (xs := [(0, 75, 0), (6, 2, 0)]) (p2 := 17) rfl rfl rfl rfl (x_rcv_s 2 hs1_0.1) rfl (zc_t_is_0 hs1_0 (by omega) (by omega)) (Nat.le_refl _) (Nat.le_refl _) rfl ?_
  refine q_if0_s (p2 := 18) rfl (by decide) (by omega) rfl (fun _ => ?_) (fun hb => absurd (show 0 = 0 by omega) hb)
  exact q_ret rfl (⟨rfl, rfl, rfl, hs1_0, hs1_1, hs1_2, fun j hj0 hj1 hj2 => (fr1 j (by omega) (by omega) (by omega))⟩)
theorem zc_x_fact82_69 {d n sl : Nat} {φ : FH} {tot : Nat} {at_ : Nat} {pl : Nat} {va : Nat} {fa : Nat} {fp : Nat} {sf : Nat} {sp : Nat} {no : Nat} {op : Nat} {K : Nat → Nat} {P : Nat → Nat} {V : Nat → Nat} {top : Nat} {hid : Nat} {lc : Nat} {slo : Nat} {own : Nat} {sk : Nat} {co : Nat → Nat} {w1 : Nat} (hT : zq_T φ tot at_ 82 pl va fa fp sf sp no op K P V) (hE : zq_E φ 1 top hid lc slo own sk) (hC : zq_co φ co) (hS : x_sch φ) (hc0 : no < 500) (hc1 : top < 10900) (hc2 : at_ + 2 < tot ∧ tot ≤ 3002) (hc3 : K (at_ + 1) = 2) (hc4 : V (at_ + 1) = w1) (hc5 : w1 < 2147483648) (hc6 : K (at_ + 2) = 69) : x_f x_P (d + 5) 318 [(6, 232, 0), (11, 0, 0), (11, 0, 0)] φ n sl (x_vR n sl (fun φ2 => zq_T φ2 tot (at_ + 2) 69 (P (at_ + 2)) (V (at_ + 2)) fa fp sf sp (no + 1) op K P V ∧ zq_E φ2 1 (top + 4) hid lc slo own sk ∧ zq_co φ2 (x_s (x_s (x_s (x_s (x_s co top 1) (top + 1) 0) (top + 1) 1) (top + 2) 7) (top + 3) w1) ∧ ∀ j, j ≠ 2 → j ≠ 232 → j ≠ 450 → φ2 j = φ j)) := by
  refine x_f_of rfl ?_
  refine q_load (v := (6, 232, 0)) (p2 := 1) rfl rfl rfl rfl ?_
  refine q_getv (v := (0, top, 0)) (p2 := 2) rfl hE (by decide) rfl rfl ?_
  refine q_store (loc2 := [(6, 232, 0), (0, top, 0), (11, 0, 0)]) (p2 := 3) rfl rfl rfl rfl rfl ?_
  refine q_load (v := (6, 232, 0)) (p2 := 4) rfl rfl rfl rfl ?_
  refine q_const (p2 := 5) rfl rfl ?_
  refine q_const (p2 := 6) rfl rfl ?_
  refine q_callvE (xs := [(0, 0, 0), (0, 1, 0), (6, 232, 0)]) (p2 := 7) rfl rfl rfl rfl (x_rcv_s 232 hE) rfl (zc_x_em2 hE hC hS (by omega)) (Nat.le_refl _) (Nat.le_refl _) rfl (fun φ1 hR1 => ?_)
  obtain ⟨hs1_0, hs1_1, fr1⟩ := hR1
  refine q_load (v := (6, 232, 0)) (p2 := 8) rfl rfl rfl rfl ?_
  refine q_getv (v := (6, 2, 0)) (p2 := 9) rfl hs1_0 (by decide) rfl rfl ?_
  have hm2 := (zq_T_at hT (fr1 2 (by decide) (by decide)) (fr1 3 (by decide) (by decide)) (fr1 4 (by decide) (by decide)) (fr1 5 (by decide) (by decide)) (fr1 6 (by decide) (by decide)))
  refine q_getv (v := (0, 82, 0)) (p2 := 10) rfl hm2.1 (by decide) rfl rfl ?_
  refine q_store (loc2 := [(6, 232, 0), (0, top, 0), (0, 82, 0)]) (p2 := 11) rfl rfl rfl rfl rfl ?_
  refine q_load (v := (0, 82, 0)) (p2 := 12) rfl rfl rfl rfl ?_
  refine q_const (p2 := 13) rfl rfl ?_
  refine q_icmp_s (p2 := 14) rfl (by decide) (by omega) (by omega) rfl (fun hb => absurd hb (show ¬ (82 = 70) by omega)) (fun _ => ?_)
  refine q_load (v := (0, 82, 0)) (p2 := 15) rfl rfl rfl rfl ?_
  refine q_const (p2 := 16) rfl rfl ?_
  refine q_icmp_s (p2 := 17) rfl (by decide) (by omega) (by omega) rfl (fun hb => absurd hb (show ¬ (82 = 51) by omega)) (fun _ => ?_)
  refine q_load (v := (6, 232, 0)) (p2 := 18) rfl rfl rfl rfl ?_
  refine q_load (v := (0, top, 0)) (p2 := 19) rfl rfl rfl rfl ?_
  have hm3 := (x_sch_at hS (fun j h1 h2 => (fr1 j (by omega) (by omega))))
  refine q_callvE (xs := [(0, top, 0), (6, 232, 0)]) (p2 := 20) rfl rfl rfl rfl (x_rcv_s 232 hs1_0) rfl (zc_x_part82_69 hm2 hs1_0 hs1_1 hm3 (by omega) (by omega) (x_s_eq) (by omega) (by omega) (by omega) hc3 hc4 (by omega) hc6) (Nat.le_refl _) (Nat.le_refl _) rfl (fun φ4 hR4 => ?_)
  obtain ⟨hs4_0, hs4_1, hs4_2, fr4⟩ := hR4
  exact q_ret rfl (⟨rfl, rfl, rfl, hs4_0, hs4_1, hs4_2, fun j hj0 hj1 hj2 => ((fr4 j (by omega) (by omega) (by omega)).trans (fr1 j (by omega) (by omega)))⟩)
theorem zc_a_319_69 {d n sl : Nat} {φ : FH}    : x_f x_P (d + 1) 319 [(0, 69, 0)] φ n sl (x_r φ n sl (0, 0, 0)) := by
  refine x_f_of rfl ?_
  refine q_load (v := (0, 69, 0)) (p2 := 1) rfl rfl rfl rfl ?_
  refine q_const (p2 := 2) rfl rfl ?_
  refine q_icmp_s (p2 := 3) rfl (by decide) (by omega) (by omega) rfl (fun hb => absurd hb (show ¬ (69 = 71) by omega)) (fun _ => ?_)
  refine q_load (v := (0, 69, 0)) (p2 := 4) rfl rfl rfl rfl ?_
  refine q_const (p2 := 5) rfl rfl ?_
  refine q_icmp_s (p2 := 6) rfl (by decide) (by omega) (by omega) rfl (fun hb => absurd hb (show ¬ (69 = 72) by omega)) (fun _ => ?_)
  refine q_load (v := (0, 69, 0)) (p2 := 7) rfl rfl rfl rfl ?_
  refine q_const (p2 := 8) rfl rfl ?_
  refine q_icmp_s (p2 := 9) rfl (by decide) (by omega) (by omega) rfl (fun hb => absurd hb (show ¬ (69 = 53) by omega)) (fun _ => ?_)
  refine q_load (v := (0, 69, 0)) (p2 := 10) rfl rfl rfl rfl ?_
  refine q_const (p2 := 11) rfl rfl ?_
  refine q_icmp_s (p2 := 12) rfl (by decide) (by omega) (by omega) rfl (fun hb => absurd hb (show ¬ (69 = 54) by omega)) (fun _ => ?_)
  refine q_load (v := (0, 69, 0)) (p2 := 13) rfl rfl rfl rfl ?_
  refine q_const (p2 := 14) rfl rfl ?_
  refine q_icmp_s (p2 := 15) rfl (by decide) (by omega) (by omega) rfl (fun _ => ?_) (fun hb => absurd (show ¬ (69 = 48) by omega) hb)
  refine q_const (p2 := 18) rfl rfl ?_
  exact q_retv (v := (0, 0, 0)) rfl rfl (⟨rfl, rfl, rfl, rfl, rfl⟩)
theorem zc_x_term82_69 {d n sl : Nat} {φ : FH} {tot : Nat} {at_ : Nat} {pl : Nat} {va : Nat} {fa : Nat} {fp : Nat} {sf : Nat} {sp : Nat} {no : Nat} {op : Nat} {K : Nat → Nat} {P : Nat → Nat} {V : Nat → Nat} {top : Nat} {hid : Nat} {lc : Nat} {slo : Nat} {own : Nat} {sk : Nat} {co : Nat → Nat} {w1 : Nat} (hT : zq_T φ tot at_ 82 pl va fa fp sf sp no op K P V) (hE : zq_E φ 1 top hid lc slo own sk) (hC : zq_co φ co) (hS : x_sch φ) (hc0 : no < 500) (hc1 : top < 10800) (hc2 : at_ + 2 < tot ∧ tot ≤ 3002) (hc3 : K (at_ + 1) = 2) (hc4 : V (at_ + 1) = w1) (hc5 : w1 < 2147483648) (hc6 : K (at_ + 2) = 69) : x_f x_P (d + 6) 291 [(6, 232, 0), (11, 0, 0), (11, 0, 0), (11, 0, 0)] φ n sl (x_vR n sl (fun φ2 => zq_T φ2 tot (at_ + 2) 69 (P (at_ + 2)) (V (at_ + 2)) fa fp sf sp (no + 1) op K P V ∧ zq_E φ2 1 (top + 4) hid lc slo own sk ∧ zq_co φ2 (x_s (x_s (x_s (x_s (x_s co top 1) (top + 1) 0) (top + 1) 1) (top + 2) 7) (top + 3) w1) ∧ ∀ j, j ≠ 2 → j ≠ 232 → j ≠ 450 → φ2 j = φ j)) := by
  refine x_f_of rfl ?_
  refine q_load (v := (6, 232, 0)) (p2 := 1) rfl rfl rfl rfl ?_
  refine q_getv (v := (0, top, 0)) (p2 := 2) rfl hE (by decide) rfl rfl ?_
  refine q_store (loc2 := [(6, 232, 0), (0, top, 0), (11, 0, 0), (11, 0, 0)]) (p2 := 3) rfl rfl rfl rfl rfl ?_
  refine q_load (v := (6, 232, 0)) (p2 := 4) rfl rfl rfl rfl ?_
  refine q_callvE (xs := [(6, 232, 0)]) (p2 := 5) rfl rfl rfl rfl (x_rcv_s 232 hE) rfl (zc_x_fact82_69 hT hE hC hS (by omega) (by omega) (by omega) hc3 hc4 (by omega) hc6) (Nat.le_refl _) (Nat.le_refl _) rfl (fun φ1 hR1 => ?_)
  obtain ⟨hs1_0, hs1_1, hs1_2, fr1⟩ := hR1
  refine q_const (p2 := 6) rfl rfl ?_
  refine q_store (loc2 := [(6, 232, 0), (0, top, 0), (0, 0, 0), (11, 0, 0)]) (p2 := 7) rfl rfl rfl rfl rfl ?_
  refine q_load (v := (0, 0, 0)) (p2 := 8) rfl rfl rfl rfl ?_
  refine q_const (p2 := 9) rfl rfl ?_
  refine q_icmp_s (p2 := 10) rfl (by decide) (by omega) (by omega) rfl (fun hb => absurd hb (show ¬ (¬ (0 < 1000000)) by omega)) (fun _ => ?_)
  refine q_load (v := (6, 232, 0)) (p2 := 11) rfl rfl rfl rfl ?_
  refine q_getv (v := (6, 2, 0)) (p2 := 12) rfl hs1_1 (by decide) rfl rfl ?_
  refine q_getv (v := (0, 69, 0)) (p2 := 13) rfl hs1_0.1 (by decide) rfl rfl ?_
  refine q_callr (xs := [(0, 69, 0)]) (p2 := 14) rfl rfl rfl rfl (fun _ _ => rfl) rfl (zc_a_319_69 ) (Nat.le_refl _) (Nat.le_refl _) rfl ?_
  refine q_if0_s (p2 := 15) rfl (by decide) (by omega) rfl (fun _ => ?_) (fun hb => absurd (show 0 = 0 by omega) hb)
  exact q_ret rfl (⟨rfl, rfl, rfl, hs1_0, hs1_1, hs1_2, fun j hj0 hj1 hj2 => (fr1 j (by omega) (by omega) (by omega))⟩)
theorem zc_x_part2_0 {d n sl : Nat} {φ : FH} {tot : Nat} {at_ : Nat} {pl : Nat} {va : Nat} {fa : Nat} {fp : Nat} {sf : Nat} {sp : Nat} {no : Nat} {op : Nat} {K : Nat → Nat} {P : Nat → Nat} {V : Nat → Nat} {top : Nat} {hid : Nat} {lc : Nat} {slo : Nat} {own : Nat} {sk : Nat} {co : Nat → Nat} {st : Nat} {cv : Nat} (hT : zq_T φ tot at_ 2 pl va fa fp sf sp no op K P V) (hE : zq_E φ 1 top hid lc slo own sk) (hC : zq_co φ co) (hS : x_sch φ) (hc0 : no < 500) (hc1 : st < 12000) (hc2 : co (st + 1) = cv) (hc3 : cv < 900) (hc4 : top < 11000) (hc5 : at_ + 1 < tot ∧ tot ≤ 3002) (hc6 : va < 2147483648) (hc7 : K (at_ + 1) = 0) : x_f x_P (d + 4) 323 [(6, 232, 0), (0, st, 0), (11, 0, 0)] φ n sl (x_vR n sl (fun φ2 => zq_T φ2 tot (at_ + 1) 0 (P (at_ + 1)) (V (at_ + 1)) fa fp sf sp (no + 1) op K P V ∧ zq_E φ2 1 (top + 2) hid lc slo own sk ∧ zq_co φ2 (x_s (x_s (x_s co (st + 1) (cv + 1)) top 3) (top + 1) va) ∧ ∀ j, j ≠ 2 → j ≠ 232 → j ≠ 450 → φ2 j = φ j)) := by
  refine x_f_of rfl ?_
  refine q_load (v := (6, 232, 0)) (p2 := 1) rfl rfl rfl rfl ?_
  refine q_load (v := (0, st, 0)) (p2 := 2) rfl rfl rfl rfl ?_
  refine q_callvE (xs := [(0, st, 0), (6, 232, 0)]) (p2 := 3) rfl rfl rfl rfl (x_rcv_s 232 hE) rfl (zc_x_base2 hT hE hC hS (by omega) (by omega) hc2 (by omega) (by omega) (by omega) (by omega) hc7) (Nat.le_refl _) (Nat.le_refl _) rfl (fun φ1 hR1 => ?_)
  obtain ⟨hs1_0, hs1_1, hs1_2, fr1⟩ := hR1
  refine q_const (p2 := 4) rfl rfl ?_
  refine q_store (loc2 := [(6, 232, 0), (0, st, 0), (0, 0, 0)]) (p2 := 5) rfl rfl rfl rfl rfl ?_
  refine q_load (v := (0, 0, 0)) (p2 := 6) rfl rfl rfl rfl ?_
  refine q_const (p2 := 7) rfl rfl ?_
  refine q_icmp_s (p2 := 8) rfl (by decide) (by omega) (by omega) rfl (fun hb => absurd hb (show ¬ (¬ (0 < 1000000)) by omega)) (fun _ => ?_)
  refine q_load (v := (6, 232, 0)) (p2 := 9) rfl rfl rfl rfl ?_
  refine q_getv (v := (6, 2, 0)) (p2 := 10) rfl hs1_1 (by decide) rfl rfl ?_
  refine q_const (p2 := 11) rfl rfl ?_
  refine q_callr (xs := [(0, 80, 0), (6, 2, 0)]) (p2 := 12) rfl rfl rfl rfl (x_rcv_s 2 hs1_0.1) rfl (zc_t_is_0 hs1_0 (by omega) (by omega)) (Nat.le_refl _) (Nat.le_refl _) rfl ?_
  refine q_if0_s (p2 := 13) rfl (by decide) (by omega) rfl (fun hb => absurd hb (show ¬ (¬ (0 = 0)) by omega)) (fun _ => ?_)
  refine q_load (v := (6, 232, 0)) (p2 := 14) rfl rfl rfl rfl ?_
  refine q_getv (v := (6, 2, 0)) (p2 := 15) rfl hs1_1 (by decide) rfl rfl ?_
  refine q_const (p2 := 16) rfl rfl ?_
  refine q_callr (xs := [(0, 75, 0), (6, 2, 0)]) (p2 := 17) rfl rfl rfl rfl (x_rcv_s 2 hs1_0.1) rfl (zc_t_is_0 hs1_0 (by omega) (by omega)) (Nat.le_refl _) (Nat.le_refl _) rfl ?_
  refine q_if0_s (p2 := 18) rfl (by decide) (by omega) rfl (fun _ => ?_) (fun hb => absurd (show 0 = 0 by omega) hb)
  exact q_ret rfl (⟨rfl, rfl, rfl, hs1_0, hs1_1, hs1_2, fun j hj0 hj1 hj2 => (fr1 j (by omega) (by omega) (by omega))⟩)
theorem zc_x_fact2_0 {d n sl : Nat} {φ : FH} {tot : Nat} {at_ : Nat} {pl : Nat} {va : Nat} {fa : Nat} {fp : Nat} {sf : Nat} {sp : Nat} {no : Nat} {op : Nat} {K : Nat → Nat} {P : Nat → Nat} {V : Nat → Nat} {top : Nat} {hid : Nat} {lc : Nat} {slo : Nat} {own : Nat} {sk : Nat} {co : Nat → Nat} (hT : zq_T φ tot at_ 2 pl va fa fp sf sp no op K P V) (hE : zq_E φ 1 top hid lc slo own sk) (hC : zq_co φ co) (hS : x_sch φ) (hc0 : no < 500) (hc1 : top < 10900) (hc2 : at_ + 1 < tot ∧ tot ≤ 3002) (hc3 : va < 2147483648) (hc4 : K (at_ + 1) = 0) : x_f x_P (d + 5) 318 [(6, 232, 0), (11, 0, 0), (11, 0, 0)] φ n sl (x_vR n sl (fun φ2 => zq_T φ2 tot (at_ + 1) 0 (P (at_ + 1)) (V (at_ + 1)) fa fp sf sp (no + 1) op K P V ∧ zq_E φ2 1 (top + 4) hid lc slo own sk ∧ zq_co φ2 (x_s (x_s (x_s (x_s (x_s co top 1) (top + 1) 0) (top + 1) 1) (top + 2) 3) (top + 3) va) ∧ ∀ j, j ≠ 2 → j ≠ 232 → j ≠ 450 → φ2 j = φ j)) := by
  refine x_f_of rfl ?_
  refine q_load (v := (6, 232, 0)) (p2 := 1) rfl rfl rfl rfl ?_
  refine q_getv (v := (0, top, 0)) (p2 := 2) rfl hE (by decide) rfl rfl ?_
  refine q_store (loc2 := [(6, 232, 0), (0, top, 0), (11, 0, 0)]) (p2 := 3) rfl rfl rfl rfl rfl ?_
  refine q_load (v := (6, 232, 0)) (p2 := 4) rfl rfl rfl rfl ?_
  refine q_const (p2 := 5) rfl rfl ?_
  refine q_const (p2 := 6) rfl rfl ?_
  refine q_callvE (xs := [(0, 0, 0), (0, 1, 0), (6, 232, 0)]) (p2 := 7) rfl rfl rfl rfl (x_rcv_s 232 hE) rfl (zc_x_em2 hE hC hS (by omega)) (Nat.le_refl _) (Nat.le_refl _) rfl (fun φ1 hR1 => ?_)
  obtain ⟨hs1_0, hs1_1, fr1⟩ := hR1
  refine q_load (v := (6, 232, 0)) (p2 := 8) rfl rfl rfl rfl ?_
  refine q_getv (v := (6, 2, 0)) (p2 := 9) rfl hs1_0 (by decide) rfl rfl ?_
  have hm2 := (zq_T_at hT (fr1 2 (by decide) (by decide)) (fr1 3 (by decide) (by decide)) (fr1 4 (by decide) (by decide)) (fr1 5 (by decide) (by decide)) (fr1 6 (by decide) (by decide)))
  refine q_getv (v := (0, 2, 0)) (p2 := 10) rfl hm2.1 (by decide) rfl rfl ?_
  refine q_store (loc2 := [(6, 232, 0), (0, top, 0), (0, 2, 0)]) (p2 := 11) rfl rfl rfl rfl rfl ?_
  refine q_load (v := (0, 2, 0)) (p2 := 12) rfl rfl rfl rfl ?_
  refine q_const (p2 := 13) rfl rfl ?_
  refine q_icmp_s (p2 := 14) rfl (by decide) (by omega) (by omega) rfl (fun hb => absurd hb (show ¬ (2 = 70) by omega)) (fun _ => ?_)
  refine q_load (v := (0, 2, 0)) (p2 := 15) rfl rfl rfl rfl ?_
  refine q_const (p2 := 16) rfl rfl ?_
  refine q_icmp_s (p2 := 17) rfl (by decide) (by omega) (by omega) rfl (fun hb => absurd hb (show ¬ (2 = 51) by omega)) (fun _ => ?_)
  refine q_load (v := (6, 232, 0)) (p2 := 18) rfl rfl rfl rfl ?_
  refine q_load (v := (0, top, 0)) (p2 := 19) rfl rfl rfl rfl ?_
  have hm3 := (x_sch_at hS (fun j h1 h2 => (fr1 j (by omega) (by omega))))
  refine q_callvE (xs := [(0, top, 0), (6, 232, 0)]) (p2 := 20) rfl rfl rfl rfl (x_rcv_s 232 hs1_0) rfl (zc_x_part2_0 hm2 hs1_0 hs1_1 hm3 (by omega) (by omega) (x_s_eq) (by omega) (by omega) (by omega) (by omega) hc4) (Nat.le_refl _) (Nat.le_refl _) rfl (fun φ4 hR4 => ?_)
  obtain ⟨hs4_0, hs4_1, hs4_2, fr4⟩ := hR4
  exact q_ret rfl (⟨rfl, rfl, rfl, hs4_0, hs4_1, hs4_2, fun j hj0 hj1 hj2 => ((fr4 j (by omega) (by omega) (by omega)).trans (fr1 j (by omega) (by omega)))⟩)
theorem zc_x_term2_0 {d n sl : Nat} {φ : FH} {tot : Nat} {at_ : Nat} {pl : Nat} {va : Nat} {fa : Nat} {fp : Nat} {sf : Nat} {sp : Nat} {no : Nat} {op : Nat} {K : Nat → Nat} {P : Nat → Nat} {V : Nat → Nat} {top : Nat} {hid : Nat} {lc : Nat} {slo : Nat} {own : Nat} {sk : Nat} {co : Nat → Nat} (hT : zq_T φ tot at_ 2 pl va fa fp sf sp no op K P V) (hE : zq_E φ 1 top hid lc slo own sk) (hC : zq_co φ co) (hS : x_sch φ) (hc0 : no < 500) (hc1 : top < 10800) (hc2 : at_ + 1 < tot ∧ tot ≤ 3002) (hc3 : va < 2147483648) (hc4 : K (at_ + 1) = 0) : x_f x_P (d + 6) 291 [(6, 232, 0), (11, 0, 0), (11, 0, 0), (11, 0, 0)] φ n sl (x_vR n sl (fun φ2 => zq_T φ2 tot (at_ + 1) 0 (P (at_ + 1)) (V (at_ + 1)) fa fp sf sp (no + 1) op K P V ∧ zq_E φ2 1 (top + 4) hid lc slo own sk ∧ zq_co φ2 (x_s (x_s (x_s (x_s (x_s co top 1) (top + 1) 0) (top + 1) 1) (top + 2) 3) (top + 3) va) ∧ ∀ j, j ≠ 2 → j ≠ 232 → j ≠ 450 → φ2 j = φ j)) := by
  refine x_f_of rfl ?_
  refine q_load (v := (6, 232, 0)) (p2 := 1) rfl rfl rfl rfl ?_
  refine q_getv (v := (0, top, 0)) (p2 := 2) rfl hE (by decide) rfl rfl ?_
  refine q_store (loc2 := [(6, 232, 0), (0, top, 0), (11, 0, 0), (11, 0, 0)]) (p2 := 3) rfl rfl rfl rfl rfl ?_
  refine q_load (v := (6, 232, 0)) (p2 := 4) rfl rfl rfl rfl ?_
  refine q_callvE (xs := [(6, 232, 0)]) (p2 := 5) rfl rfl rfl rfl (x_rcv_s 232 hE) rfl (zc_x_fact2_0 hT hE hC hS (by omega) (by omega) (by omega) (by omega) hc4) (Nat.le_refl _) (Nat.le_refl _) rfl (fun φ1 hR1 => ?_)
  obtain ⟨hs1_0, hs1_1, hs1_2, fr1⟩ := hR1
  refine q_const (p2 := 6) rfl rfl ?_
  refine q_store (loc2 := [(6, 232, 0), (0, top, 0), (0, 0, 0), (11, 0, 0)]) (p2 := 7) rfl rfl rfl rfl rfl ?_
  refine q_load (v := (0, 0, 0)) (p2 := 8) rfl rfl rfl rfl ?_
  refine q_const (p2 := 9) rfl rfl ?_
  refine q_icmp_s (p2 := 10) rfl (by decide) (by omega) (by omega) rfl (fun hb => absurd hb (show ¬ (¬ (0 < 1000000)) by omega)) (fun _ => ?_)
  refine q_load (v := (6, 232, 0)) (p2 := 11) rfl rfl rfl rfl ?_
  refine q_getv (v := (6, 2, 0)) (p2 := 12) rfl hs1_1 (by decide) rfl rfl ?_
  refine q_getv (v := (0, 0, 0)) (p2 := 13) rfl hs1_0.1 (by decide) rfl rfl ?_
  refine q_callr (xs := [(0, 0, 0)]) (p2 := 14) rfl rfl rfl rfl (fun _ _ => rfl) rfl (zc_a_319_0 ) (Nat.le_refl _) (Nat.le_refl _) rfl ?_
  refine q_if0_s (p2 := 15) rfl (by decide) (by omega) rfl (fun _ => ?_) (fun hb => absurd (show 0 = 0 by omega) hb)
  exact q_ret rfl (⟨rfl, rfl, rfl, hs1_0, hs1_1, hs1_2, fun j hj0 hj1 hj2 => (fr1 j (by omega) (by omega) (by omega))⟩)
theorem zc_x_sum2_0 {d n sl : Nat} {φ : FH} {tot : Nat} {at_ : Nat} {pl : Nat} {va : Nat} {fa : Nat} {fp : Nat} {sf : Nat} {sp : Nat} {no : Nat} {op : Nat} {K : Nat → Nat} {P : Nat → Nat} {V : Nat → Nat} {top : Nat} {hid : Nat} {lc : Nat} {slo : Nat} {own : Nat} {sk : Nat} {co : Nat → Nat} (hT : zq_T φ tot at_ 2 pl va fa fp sf sp no op K P V) (hE : zq_E φ 1 top hid lc slo own sk) (hC : zq_co φ co) (hS : x_sch φ) (hc0 : no < 500) (hc1 : top < 10700) (hc2 : at_ + 1 < tot ∧ tot ≤ 3002) (hc3 : va < 2147483648) (hc4 : K (at_ + 1) = 0) : x_f x_P (d + 7) 245 [(6, 232, 0), (11, 0, 0), (11, 0, 0), (11, 0, 0)] φ n sl (x_vR n sl (fun φ2 => zq_T φ2 tot (at_ + 1) 0 (P (at_ + 1)) (V (at_ + 1)) fa fp sf sp (no + 1) op K P V ∧ zq_E φ2 1 (top + 4) hid lc slo own sk ∧ zq_co φ2 (x_s (x_s (x_s (x_s (x_s co top 1) (top + 1) 0) (top + 1) 1) (top + 2) 3) (top + 3) va) ∧ ∀ j, j ≠ 2 → j ≠ 232 → j ≠ 450 → φ2 j = φ j)) := by
  refine x_f_of rfl ?_
  refine q_load (v := (6, 232, 0)) (p2 := 1) rfl rfl rfl rfl ?_
  refine q_getv (v := (0, top, 0)) (p2 := 2) rfl hE (by decide) rfl rfl ?_
  refine q_store (loc2 := [(6, 232, 0), (0, top, 0), (11, 0, 0), (11, 0, 0)]) (p2 := 3) rfl rfl rfl rfl rfl ?_
  refine q_load (v := (6, 232, 0)) (p2 := 4) rfl rfl rfl rfl ?_
  refine q_callvE (xs := [(6, 232, 0)]) (p2 := 5) rfl rfl rfl rfl (x_rcv_s 232 hE) rfl (zc_x_term2_0 hT hE hC hS (by omega) (by omega) (by omega) (by omega) hc4) (Nat.le_refl _) (Nat.le_refl _) rfl (fun φ1 hR1 => ?_)
  obtain ⟨hs1_0, hs1_1, hs1_2, fr1⟩ := hR1
  refine q_const (p2 := 6) rfl rfl ?_
  refine q_store (loc2 := [(6, 232, 0), (0, top, 0), (0, 0, 0), (11, 0, 0)]) (p2 := 7) rfl rfl rfl rfl rfl ?_
  refine q_load (v := (0, 0, 0)) (p2 := 8) rfl rfl rfl rfl ?_
  refine q_const (p2 := 9) rfl rfl ?_
  refine q_icmp_s (p2 := 10) rfl (by decide) (by omega) (by omega) rfl (fun hb => absurd hb (show ¬ (¬ (0 < 1000000)) by omega)) (fun _ => ?_)
  refine q_load (v := (6, 232, 0)) (p2 := 11) rfl rfl rfl rfl ?_
  refine q_getv (v := (6, 2, 0)) (p2 := 12) rfl hs1_1 (by decide) rfl rfl ?_
  refine q_getv (v := (0, 0, 0)) (p2 := 13) rfl hs1_0.1 (by decide) rfl rfl ?_
  refine q_callr (xs := [(0, 0, 0)]) (p2 := 14) rfl rfl rfl rfl (fun _ _ => rfl) rfl (zc_a_292_0 ) (Nat.le_refl _) (Nat.le_refl _) rfl ?_
  refine q_if0_s (p2 := 15) rfl (by decide) (by omega) rfl (fun _ => ?_) (fun hb => absurd (show 0 = 0 by omega) hb)
  exact q_ret rfl (⟨rfl, rfl, rfl, hs1_0, hs1_1, hs1_2, fun j hj0 hj1 hj2 => (fr1 j (by omega) (by omega) (by omega))⟩)
theorem zc_x_exp2_0 {d n sl : Nat} {φ : FH} {tot : Nat} {at_ : Nat} {pl : Nat} {va : Nat} {fa : Nat} {fp : Nat} {sf : Nat} {sp : Nat} {no : Nat} {op : Nat} {K : Nat → Nat} {P : Nat → Nat} {V : Nat → Nat} {top : Nat} {hid : Nat} {lc : Nat} {slo : Nat} {own : Nat} {sk : Nat} {co : Nat → Nat} (hT : zq_T φ tot at_ 2 pl va fa fp sf sp no op K P V) (hE : zq_E φ 1 top hid lc slo own sk) (hC : zq_co φ co) (hS : x_sch φ) (hc0 : no < 500) (hc1 : top < 10600) (hc2 : at_ + 1 < tot ∧ tot ≤ 3002) (hc3 : va < 2147483648) (hc4 : K (at_ + 1) = 0) : x_f x_P (d + 8) 177 [(6, 232, 0), (11, 0, 0), (11, 0, 0)] φ n sl (x_vR n sl (fun φ2 => zq_T φ2 tot (at_ + 1) 0 (P (at_ + 1)) (V (at_ + 1)) fa fp sf sp (no + 1) op K P V ∧ zq_E φ2 1 (top + 4) hid lc slo own sk ∧ zq_co φ2 (x_s (x_s (x_s (x_s (x_s co top 1) (top + 1) 0) (top + 1) 1) (top + 2) 3) (top + 3) va) ∧ ∀ j, j ≠ 2 → j ≠ 232 → j ≠ 450 → φ2 j = φ j)) := by
  refine x_f_of rfl ?_
  refine q_load (v := (6, 232, 0)) (p2 := 1) rfl rfl rfl rfl ?_
  refine q_getv (v := (0, top, 0)) (p2 := 2) rfl hE (by decide) rfl rfl ?_
  refine q_store (loc2 := [(6, 232, 0), (0, top, 0), (11, 0, 0)]) (p2 := 3) rfl rfl rfl rfl rfl ?_
  refine q_load (v := (6, 232, 0)) (p2 := 4) rfl rfl rfl rfl ?_
  refine q_callvE (xs := [(6, 232, 0)]) (p2 := 5) rfl rfl rfl rfl (x_rcv_s 232 hE) rfl (zc_x_sum2_0 hT hE hC hS (by omega) (by omega) (by omega) (by omega) hc4) (Nat.le_refl _) (Nat.le_refl _) rfl (fun φ1 hR1 => ?_)
  obtain ⟨hs1_0, hs1_1, hs1_2, fr1⟩ := hR1
  refine q_load (v := (6, 232, 0)) (p2 := 6) rfl rfl rfl rfl ?_
  refine q_getv (v := (6, 2, 0)) (p2 := 7) rfl hs1_1 (by decide) rfl rfl ?_
  refine q_getv (v := (0, 0, 0)) (p2 := 8) rfl hs1_0.1 (by decide) rfl rfl ?_
  refine q_store (loc2 := [(6, 232, 0), (0, top, 0), (0, 0, 0)]) (p2 := 9) rfl rfl rfl rfl rfl ?_
  refine q_load (v := (0, 0, 0)) (p2 := 10) rfl rfl rfl rfl ?_
  refine q_const (p2 := 11) rfl rfl ?_
  refine q_icmp_s (p2 := 12) rfl (by decide) (by omega) (by omega) rfl (fun _ => ?_) (fun hb => absurd (show 0 < 60 by omega) hb)
  refine q_load (v := (0, 0, 0)) (p2 := 16) rfl rfl rfl rfl ?_
  refine q_const (p2 := 17) rfl rfl ?_
  refine q_icmp_s (p2 := 18) rfl (by decide) (by omega) (by omega) rfl (fun _ => ?_) (fun hb => absurd (show ¬ (0 = 52) by omega) hb)
  exact q_ret rfl (⟨rfl, rfl, rfl, hs1_0, hs1_1, hs1_2, fun j hj0 hj1 hj2 => (fr1 j (by omega) (by omega) (by omega))⟩)
end FPOP41
