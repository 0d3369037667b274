section FPOP51
theorem q_max_t {P : List (List XI)} {d pc p2 n sl : Nat} {code : List XI} {t loc : List XV} {φ : FH} {Post : FP} {b x y : Nat} {tb : List (Nat × Nat)} (hc : x_nth code pc = some (36, 1, b, tb)) (h8 : Nat.ble (x_cats t) 8 = true) (hy : y < 2147483648) (hxy : x ≤ y) (hp : pc + 1 = p2) (kk : x_n P d code p2 ((0, y, 0) :: t) loc φ n sl Post) : x_n P d code pc ((0, y, 0) :: (0, x, 0) :: t) loc φ n sl Post := by
  refine q_imm (w := y) hc h8 (Or.inr ⟨rfl, ?_⟩) hp kk
  rw [x_m_s hy, x_m_s (by omega)]
  split <;> omega
theorem x_two2 {a b : Nat} {g : Nat → XV} (h0 : g 0 = (2, a, 0)) (h1 : g 1 = (2, b, 0)) : ∀ i, i < ([a, b] : List Nat).length → g i = (2, ([a, b] : List Nat).getD i 0, 0) := by
  intro i hi
  match i, hi with
  | 0, _ => exact h0
  | 1, _ => exact h1
theorem x_two2_lt {a b : Nat} (ha : a < 2147483648) (hb : b < 2147483648) (i : Nat) : ([a, b] : List Nat).getD i 0 < 2147483648 := by
  match i with
  | 0 => exact ha
  | 1 => exact hb
  | i + 2 => show 0 < _; decide
set_option maxHeartbeats 1000000 in
theorem zc_klist_55 {d n sl : Nat} {φ : FH} {fr pc_ mm mi : Nat} {st lo re rs fl se co : Nat → Nat} {vA vB vC vD a b : Nat} (hKS : x_KS φ 4 fr pc_ mm mi st lo re rs fl se co) (hN : x_mv φ 225 MV0) (hsA : st 0 = vA) (hsB : st 1 = vB) (hsC : st 2 = vC) (hsD : st 3 = vD) (hvA : x_mv φ vA (5, a, 0, 0, [])) (hvB : x_mv φ vB (1, 1, 0, 0, [])) (hvC : x_mv φ vC (5, b, 0, 0, [])) (hvD : x_mv φ vD (1, 1, 0, 0, [])) (ha : a < 2147483648) (hb : b < 2147483648) (hn0 : 486 ≤ n) : x_f x_P (d + 2) 184 [(6, 455, 0), (0, 2, 0), (11, 0, 0), (11, 0, 0), (11, 0, 0), (11, 0, 0), (11, 0, 0), (11, 0, 0), (11, 0, 0), (11, 0, 0), (11, 0, 0)] φ n sl (x_bV n sl 3 33 (fun φ2 => ∃ v, x_KS φ2 1 fr pc_ mm mi (x_s st 0 v) lo re rs fl se co ∧ x_mv φ2 v (6, 0, 1, 5, [a, b]) ∧ ∀ j, j < n → (j < 455 ∨ 466 ≤ j) → φ2 j = φ j)) := by
  refine x_f_of rfl ?_
  refine x_n_lt (fun hlt0 => ?_)
  have hz1 := x_mv_lt hvA hlt0
  have hy1 := hvA.1
  have hz2 := x_mv_lt hvB hlt0
  have hy2 := hvB.1
  have hz3 := x_mv_lt hvC hlt0
  have hy3 := hvC.1
  have hz4 := x_mv_lt hvD hlt0
  have hy4 := hvD.1
  refine q_const (p2 := 1) rfl rfl ?_
  refine q_newaE (p2 := 2) rfl (by omega) rfl (fun φ5 hh5 frn5 => ?_)
  refine q_store (loc2 := [(6, 455, 0), (0, 2, 0), (6, n, 0), (11, 0, 0), (11, 0, 0), (11, 0, 0), (11, 0, 0), (11, 0, 0), (11, 0, 0), (11, 0, 0), (11, 0, 0)]) (p2 := 3) rfl rfl rfl rfl rfl ?_
  refine q_const (p2 := 4) rfl rfl ?_
  refine q_store (loc2 := [(6, 455, 0), (0, 2, 0), (6, n, 0), (0, 0, 0), (11, 0, 0), (11, 0, 0), (11, 0, 0), (11, 0, 0), (11, 0, 0), (11, 0, 0), (11, 0, 0)]) (p2 := 5) rfl rfl rfl rfl rfl ?_
  refine q_const (p2 := 6) rfl rfl ?_
  refine q_store (loc2 := [(6, 455, 0), (0, 2, 0), (6, n, 0), (0, 0, 0), (0, 0, 0), (11, 0, 0), (11, 0, 0), (11, 0, 0), (11, 0, 0), (11, 0, 0), (11, 0, 0)]) (p2 := 7) rfl rfl rfl rfl rfl ?_
  refine q_const (p2 := 8) rfl rfl ?_
  refine q_store (loc2 := [(6, 455, 0), (0, 2, 0), (6, n, 0), (0, 0, 0), (0, 0, 0), (0, 1, 0), (11, 0, 0), (11, 0, 0), (11, 0, 0), (11, 0, 0), (11, 0, 0)]) (p2 := 9) rfl rfl rfl rfl rfl ?_
  refine q_load (v := (0, 2, 0)) (p2 := 10) rfl rfl rfl rfl ?_
  refine q_const (p2 := 11) rfl rfl ?_
  refine q_iop (w := 2 + (4294967296 - 1 % 4294967296)) (z := 1) (p2 := 12) rfl (xo_sub 2 1) (by decide) rfl ?_
  refine q_store (loc2 := [(6, 455, 0), (0, 2, 0), (6, n, 0), (0, 0, 0), (0, 0, 0), (0, 1, 0), (0, 1, 0), (11, 0, 0), (11, 0, 0), (11, 0, 0), (11, 0, 0)]) (p2 := 13) rfl rfl rfl rfl rfl ?_
  refine q_load (v := (0, 1, 0)) (p2 := 14) rfl rfl rfl rfl ?_
  refine q_if0_s (p2 := 15) rfl (by decide) (by omega) rfl (fun hb => absurd hb (show ¬ (1 < 0) by omega)) (fun _ => ?_)
  refine q_load (v := (6, 455, 0)) (p2 := 16) rfl rfl rfl rfl ?_
  refine q_const (p2 := 17) rfl rfl ?_
  refine q_load (v := (0, 1, 0)) (p2 := 18) rfl rfl rfl rfl ?_
  refine q_iop (w := 2 * 1) (z := 2) (p2 := 19) rfl (xo_mul 2 1) (by decide) rfl ?_
  have hm6 := (x_KS_at2 hKS (fun j h1 h2 h3 h4 => (frn5 j (by omega))))
  refine q_callr (xs := [(0, 2, 0), (6, 455, 0)]) (p2 := 20) rfl rfl rfl rfl (x_rcv_s 455 (x_KS_455 hm6)) rfl (e_below (k := 2) hm6.1.choose_spec hm6.2.1 (by omega) (by omega)) (Nat.le_refl _) (Nat.le_refl _) rfl ?_
  rw [show st (4 - 1 - 2) = vB from hsB]
  refine q_store (loc2 := [(6, 455, 0), (0, 2, 0), (6, n, 0), (0, 0, 0), (0, 0, 0), (0, 1, 0), (0, 1, 0), (6, vB, 0), (11, 0, 0), (11, 0, 0), (11, 0, 0)]) (p2 := 21) rfl rfl rfl rfl rfl ?_
  refine q_load (v := (6, 455, 0)) (p2 := 22) rfl rfl rfl rfl ?_
  refine q_const (p2 := 23) rfl rfl ?_
  refine q_load (v := (0, 1, 0)) (p2 := 24) rfl rfl rfl rfl ?_
  refine q_iop (w := 2 * 1) (z := 2) (p2 := 25) rfl (xo_mul 2 1) (by decide) rfl ?_
  refine q_const (p2 := 26) rfl rfl ?_
  refine q_iop (w := 2 + 1) (z := 3) (p2 := 27) rfl (xo_add 2 1) (by decide) rfl ?_
  refine q_callr (xs := [(0, 3, 0), (6, 455, 0)]) (p2 := 28) rfl rfl rfl rfl (x_rcv_s 455 (x_KS_455 hm6)) rfl (e_below (k := 3) hm6.1.choose_spec hm6.2.1 (by omega) (by omega)) (Nat.le_refl _) (Nat.le_refl _) rfl ?_
  rw [show st (4 - 1 - 3) = vA from hsA]
  refine q_store (loc2 := [(6, 455, 0), (0, 2, 0), (6, n, 0), (0, 0, 0), (0, 0, 0), (0, 1, 0), (0, 1, 0), (6, vB, 0), (6, vA, 0), (11, 0, 0), (11, 0, 0)]) (p2 := 29) rfl rfl rfl rfl rfl ?_
  refine q_load (v := (0, 1, 0)) (p2 := 30) rfl rfl rfl rfl ?_
  refine q_if0_s (p2 := 31) rfl (by decide) (by omega) rfl (fun hb => absurd hb (show ¬ (1 = 0) by omega)) (fun _ => ?_)
  refine q_load (v := (6, vB, 0)) (p2 := 32) rfl rfl rfl rfl ?_
  refine x_n_lt (fun hlt8 => ?_)
  have hv7 := x_mv_at hvB (fun j hj hne => by have hj2 := x_some_lt hlt0 hne; exact (frn5 j (by omega)))
  obtain ⟨fV9, hW9, hg9⟩ := x_mv_gS hv7 (by decide)
  have hl9 := hlt8 _ _ hW9
  have h6_9 := hv7.1
  refine q_getv (v := (0, 1, 0)) (p2 := 33) rfl hW9 (by decide) hg9.1 rfl ?_
  refine q_const (p2 := 34) rfl rfl ?_
  refine q_icmp_s (p2 := 35) rfl (by decide) (by omega) (by omega) rfl (fun hb => absurd hb (show ¬ (¬ (1 = 1)) by omega)) (fun _ => ?_)
  refine q_load (v := (6, vB, 0)) (p2 := 36) rfl rfl rfl rfl ?_
  refine q_getv (v := (2, 1, 0)) (p2 := 37) rfl hW9 (by decide) hg9.2.1 rfl ?_
  refine q_const (p2 := 38) rfl rfl ?_
  refine q_lcif (p2 := 40) rfl rfl (by decide) (by omega) (by omega) rfl (fun hb => absurd hb (show ¬ (1 < 0) by omega)) (fun _ => ?_)
  refine q_const (p2 := 41) rfl rfl ?_
  refine q_goto rfl ?_
  refine q_store (loc2 := [(6, 455, 0), (0, 2, 0), (6, n, 0), (0, 0, 0), (0, 0, 0), (0, 1, 0), (0, 1, 0), (6, vB, 0), (6, vA, 0), (11, 0, 0), (11, 0, 0)]) (p2 := 44) rfl rfl rfl rfl rfl ?_
  refine q_load (v := (0, 1, 0)) (p2 := 45) rfl rfl rfl rfl ?_
  refine q_if0_s (p2 := 46) rfl (by decide) (by omega) rfl (fun hb => absurd hb (show ¬ (1 = 0) by omega)) (fun _ => ?_)
  refine q_load (v := (6, vB, 0)) (p2 := 47) rfl rfl rfl rfl ?_
  refine q_getv (v := (2, 1, 0)) (p2 := 48) rfl hW9 (by decide) hg9.2.1 rfl ?_
  refine q_const (p2 := 49) rfl rfl ?_
  refine q_lcif (p2 := 51) rfl rfl (by decide) (by omega) (by omega) rfl (fun hb => absurd hb (show ¬ (¬ (0 < 1)) by omega)) (fun _ => ?_)
  refine q_load (v := (6, vA, 0)) (p2 := 52) rfl rfl rfl rfl ?_
  have hv10 := x_mv_at hvA (fun j hj hne => by have hj2 := x_some_lt hlt0 hne; exact (frn5 j (by omega)))
  obtain ⟨fV11, hW11, hg11⟩ := x_mv_gS hv10 (by decide)
  have hl11 := hlt8 _ _ hW11
  have h6_11 := hv10.1
  refine q_getv (v := (0, 5, 0)) (p2 := 53) rfl hW11 (by decide) hg11.1 rfl ?_
  refine q_if0_s (p2 := 54) rfl (by decide) (by omega) rfl (fun hb => absurd hb (show ¬ (5 = 0) by omega)) (fun _ => ?_)
  refine q_load (v := (6, vA, 0)) (p2 := 55) rfl rfl rfl rfl ?_
  refine q_getv (v := (0, 5, 0)) (p2 := 56) rfl hW11 (by decide) hg11.1 rfl ?_
  refine q_const (p2 := 57) rfl rfl ?_
  refine q_icmp_s (p2 := 58) rfl (by decide) (by omega) (by omega) rfl (fun hb => absurd hb (show ¬ (5 = 6) by omega)) (fun _ => ?_)
  refine q_load (v := (0, 0, 0)) (p2 := 59) rfl rfl rfl rfl ?_
  refine q_if0_s (p2 := 60) rfl (by decide) (by omega) rfl (fun _ => ?_) (fun hb => absurd (show 0 = 0 by omega) hb)
  refine q_load (v := (6, vB, 0)) (p2 := 65) rfl rfl rfl rfl ?_
  refine q_getv (v := (2, 1, 0)) (p2 := 66) rfl hW9 (by decide) hg9.2.1 rfl ?_
  refine q_load (v := (6, n, 0)) (p2 := 67) rfl rfl rfl rfl ?_
  refine q_alen (p2 := 68) rfl hh5 rfl (by omega) rfl ?_
  refine q_load (v := (0, 0, 0)) (p2 := 69) rfl rfl rfl rfl ?_
  refine q_iop (w := 24 + (4294967296 - 0 % 4294967296)) (z := 24) (p2 := 70) rfl (xo_sub 24 0) (by decide) rfl ?_
  refine q_i2l (p2 := 71) rfl (by omega) rfl ?_
  refine q_lcif (p2 := 73) rfl rfl (by decide) (by omega) (by omega) rfl (fun hb => absurd hb (show ¬ (24 < 1) by omega)) (fun _ => ?_)
  refine q_const (p2 := 74) rfl rfl ?_
  refine q_goto rfl ?_
  refine q_store (loc2 := [(6, 455, 0), (0, 2, 0), (6, n, 0), (0, 0, 0), (0, 0, 0), (0, 1, 0), (0, 1, 0), (6, vB, 0), (6, vA, 0), (11, 0, 0), (11, 0, 0)]) (p2 := 77) rfl rfl rfl rfl rfl ?_
  refine q_load (v := (6, vA, 0)) (p2 := 78) rfl rfl rfl rfl ?_
  refine q_getv (v := (0, 5, 0)) (p2 := 79) rfl hW11 (by decide) hg11.1 rfl ?_
  refine q_store (loc2 := [(6, 455, 0), (0, 2, 0), (6, n, 0), (0, 5, 0), (0, 0, 0), (0, 1, 0), (0, 1, 0), (6, vB, 0), (6, vA, 0), (11, 0, 0), (11, 0, 0)]) (p2 := 80) rfl rfl rfl rfl rfl ?_
  refine q_const (p2 := 81) rfl rfl ?_
  refine q_store2 (loc2 := [(6, 455, 0), (0, 2, 0), (6, n, 0), (0, 5, 0), (0, 0, 0), (0, 1, 0), (0, 1, 0), (6, vB, 0), (6, vA, 0), (2, 0, 0), (11, 0, 0)]) (p2 := 82) rfl rfl rfl rfl rfl ?_
  refine q_load (v := (0, 1, 0)) (p2 := 83) rfl rfl rfl rfl ?_
  refine q_if0_s (p2 := 84) rfl (by decide) (by omega) rfl (fun hb => absurd hb (show ¬ (1 = 0) by omega)) (fun _ => ?_)
  refine q_load (v := (2, 0, 0)) (p2 := 85) rfl rfl rfl rfl ?_
  refine q_load (v := (6, vB, 0)) (p2 := 86) rfl rfl rfl rfl ?_
  refine q_getv (v := (2, 1, 0)) (p2 := 87) rfl hW9 (by decide) hg9.2.1 rfl ?_
  refine q_lcif (p2 := 89) rfl rfl (by decide) (by omega) (by omega) rfl (fun hb => absurd hb (show ¬ (¬ (0 < 1)) by omega)) (fun _ => ?_)
  refine q_load (v := (0, 0, 0)) (p2 := 90) rfl rfl rfl rfl ?_
  refine q_load (v := (6, n, 0)) (p2 := 91) rfl rfl rfl rfl ?_
  refine q_alen (p2 := 92) rfl hh5 rfl (by omega) rfl ?_
  refine q_icmp_s (p2 := 93) rfl (by decide) (by omega) (by omega) rfl (fun hb => absurd hb (show ¬ (¬ (0 < 24)) by omega)) (fun _ => ?_)
  refine q_load (v := (6, n, 0)) (p2 := 94) rfl rfl rfl rfl ?_
  refine q_load (v := (0, 0, 0)) (p2 := 95) rfl rfl rfl rfl ?_
  refine q_load (v := (6, vA, 0)) (p2 := 96) rfl rfl rfl rfl ?_
  refine q_getv (v := (2, a, 0)) (p2 := 97) rfl hW11 (by decide) hg11.2.1 rfl ?_
  refine q_astE (v := (2, a, 0)) (w := (2, a, 0)) (p2 := 98) rfl hh5 (by omega) (by omega) (x_ok_0 rfl) (x_nv_same rfl (by decide)) rfl (fun φ12 f12 hh12 hg12 ho12 fr12 => ?_)
  have hs12 := hh12.trans (x_arf (t := 2) hg12 ho12)
  refine q_iinc (z := 1) (loc2 := [(6, 455, 0), (0, 2, 0), (6, n, 0), (0, 5, 0), (0, 1, 0), (0, 1, 0), (0, 1, 0), (6, vB, 0), (6, vA, 0), (2, 0, 0), (11, 0, 0)]) (p2 := 99) rfl rfl (by decide) rfl rfl ?_
  refine q_load (v := (2, 0, 0)) (p2 := 100) rfl rfl rfl rfl ?_
  refine q_const (p2 := 101) rfl rfl ?_
  refine q_laddz (z := 1) (p2 := 102) rfl (by omega) (by omega) rfl ?_
  refine q_store2 (loc2 := [(6, 455, 0), (0, 2, 0), (6, n, 0), (0, 5, 0), (0, 1, 0), (0, 1, 0), (0, 1, 0), (6, vB, 0), (6, vA, 0), (2, 1, 0), (11, 0, 0)]) (p2 := 103) rfl rfl rfl rfl rfl ?_
  refine q_goto rfl ?_
  refine q_load (v := (0, 1, 0)) (p2 := 83) rfl rfl rfl rfl ?_
  refine q_if0_s (p2 := 84) rfl (by decide) (by omega) rfl (fun hb => absurd hb (show ¬ (1 = 0) by omega)) (fun _ => ?_)
  refine q_load (v := (2, 1, 0)) (p2 := 85) rfl rfl rfl rfl ?_
  refine q_load (v := (6, vB, 0)) (p2 := 86) rfl rfl rfl rfl ?_
  refine q_getv (v := (2, 1, 0)) (p2 := 87) rfl ((fr12 vB (by omega)).trans hW9) (by decide) hg9.2.1 rfl ?_
  refine q_lcif (p2 := 89) rfl rfl (by decide) (by omega) (by omega) rfl (fun _ => ?_) (fun hb => absurd (show ¬ (1 < 1) by omega) hb)
  refine q_iinc (z := 0) (loc2 := [(6, 455, 0), (0, 2, 0), (6, n, 0), (0, 5, 0), (0, 1, 0), (0, 1, 0), (0, 0, 0), (6, vB, 0), (6, vA, 0), (2, 1, 0), (11, 0, 0)]) (p2 := 105) rfl rfl (by decide) rfl rfl ?_
  refine q_goto rfl ?_
  refine q_load (v := (0, 0, 0)) (p2 := 14) rfl rfl rfl rfl ?_
  refine q_if0_s (p2 := 15) rfl (by decide) (by omega) rfl (fun hb => absurd hb (show ¬ (0 < 0) by omega)) (fun _ => ?_)
  refine q_load (v := (6, 455, 0)) (p2 := 16) rfl rfl rfl rfl ?_
  refine q_const (p2 := 17) rfl rfl ?_
  refine q_load (v := (0, 0, 0)) (p2 := 18) rfl rfl rfl rfl ?_
  refine q_iop (w := 2 * 0) (z := 0) (p2 := 19) rfl (xo_mul 2 0) (by decide) rfl ?_
  have hm13 := (x_KS_at2 hm6 (fun j h1 h2 h3 h4 => (fr12 j (by omega))))
  refine q_callr (xs := [(0, 0, 0), (6, 455, 0)]) (p2 := 20) rfl rfl rfl rfl (x_rcv_s 455 (x_KS_455 hm13)) rfl (e_below (k := 0) hm13.1.choose_spec hm13.2.1 (by omega) (by omega)) (Nat.le_refl _) (Nat.le_refl _) rfl ?_
  rw [show st (4 - 1 - 0) = vD from hsD]
  refine q_store (loc2 := [(6, 455, 0), (0, 2, 0), (6, n, 0), (0, 5, 0), (0, 1, 0), (0, 1, 0), (0, 0, 0), (6, vD, 0), (6, vA, 0), (2, 1, 0), (11, 0, 0)]) (p2 := 21) rfl rfl rfl rfl rfl ?_
  refine q_load (v := (6, 455, 0)) (p2 := 22) rfl rfl rfl rfl ?_
  refine q_const (p2 := 23) rfl rfl ?_
  refine q_load (v := (0, 0, 0)) (p2 := 24) rfl rfl rfl rfl ?_
  refine q_iop (w := 2 * 0) (z := 0) (p2 := 25) rfl (xo_mul 2 0) (by decide) rfl ?_
  refine q_const (p2 := 26) rfl rfl ?_
  refine q_iop (w := 0 + 1) (z := 1) (p2 := 27) rfl (xo_add 0 1) (by decide) rfl ?_
  refine q_callr (xs := [(0, 1, 0), (6, 455, 0)]) (p2 := 28) rfl rfl rfl rfl (x_rcv_s 455 (x_KS_455 hm13)) rfl (e_below (k := 1) hm13.1.choose_spec hm13.2.1 (by omega) (by omega)) (Nat.le_refl _) (Nat.le_refl _) rfl ?_
  rw [show st (4 - 1 - 1) = vC from hsC]
  refine q_store (loc2 := [(6, 455, 0), (0, 2, 0), (6, n, 0), (0, 5, 0), (0, 1, 0), (0, 1, 0), (0, 0, 0), (6, vD, 0), (6, vC, 0), (2, 1, 0), (11, 0, 0)]) (p2 := 29) rfl rfl rfl rfl rfl ?_
  refine q_load (v := (0, 1, 0)) (p2 := 30) rfl rfl rfl rfl ?_
  refine q_if0_s (p2 := 31) rfl (by decide) (by omega) rfl (fun hb => absurd hb (show ¬ (1 = 0) by omega)) (fun _ => ?_)
  refine q_load (v := (6, vD, 0)) (p2 := 32) rfl rfl rfl rfl ?_
  refine x_n_lt (fun hlt15 => ?_)
  have hv14 := x_mv_at hvD (fun j hj hne => by have hj2 := x_some_lt hlt0 hne; exact ((fr12 j (by omega)).trans (frn5 j (by omega))))
  obtain ⟨fV16, hW16, hg16⟩ := x_mv_gS hv14 (by decide)
  have hl16 := hlt15 _ _ hW16
  have h6_16 := hv14.1
  refine q_getv (v := (0, 1, 0)) (p2 := 33) rfl hW16 (by decide) hg16.1 rfl ?_
  refine q_const (p2 := 34) rfl rfl ?_
  refine q_icmp_s (p2 := 35) rfl (by decide) (by omega) (by omega) rfl (fun hb => absurd hb (show ¬ (¬ (1 = 1)) by omega)) (fun _ => ?_)
  refine q_load (v := (6, vD, 0)) (p2 := 36) rfl rfl rfl rfl ?_
  refine q_getv (v := (2, 1, 0)) (p2 := 37) rfl hW16 (by decide) hg16.2.1 rfl ?_
  refine q_const (p2 := 38) rfl rfl ?_
  refine q_lcif (p2 := 40) rfl rfl (by decide) (by omega) (by omega) rfl (fun hb => absurd hb (show ¬ (1 < 0) by omega)) (fun _ => ?_)
  refine q_const (p2 := 41) rfl rfl ?_
  refine q_goto rfl ?_
  refine q_store (loc2 := [(6, 455, 0), (0, 2, 0), (6, n, 0), (0, 5, 0), (0, 1, 0), (0, 1, 0), (0, 0, 0), (6, vD, 0), (6, vC, 0), (2, 1, 0), (11, 0, 0)]) (p2 := 44) rfl rfl rfl rfl rfl ?_
  refine q_load (v := (0, 1, 0)) (p2 := 45) rfl rfl rfl rfl ?_
  refine q_if0_s (p2 := 46) rfl (by decide) (by omega) rfl (fun hb => absurd hb (show ¬ (1 = 0) by omega)) (fun _ => ?_)
  refine q_load (v := (6, vD, 0)) (p2 := 47) rfl rfl rfl rfl ?_
  refine q_getv (v := (2, 1, 0)) (p2 := 48) rfl hW16 (by decide) hg16.2.1 rfl ?_
  refine q_const (p2 := 49) rfl rfl ?_
  refine q_lcif (p2 := 51) rfl rfl (by decide) (by omega) (by omega) rfl (fun hb => absurd hb (show ¬ (¬ (0 < 1)) by omega)) (fun _ => ?_)
  refine q_load (v := (6, vC, 0)) (p2 := 52) rfl rfl rfl rfl ?_
  have hv17 := x_mv_at hvC (fun j hj hne => by have hj2 := x_some_lt hlt0 hne; exact ((fr12 j (by omega)).trans (frn5 j (by omega))))
  obtain ⟨fV18, hW18, hg18⟩ := x_mv_gS hv17 (by decide)
  have hl18 := hlt15 _ _ hW18
  have h6_18 := hv17.1
  refine q_getv (v := (0, 5, 0)) (p2 := 53) rfl hW18 (by decide) hg18.1 rfl ?_
  refine q_if0_s (p2 := 54) rfl (by decide) (by omega) rfl (fun hb => absurd hb (show ¬ (5 = 0) by omega)) (fun _ => ?_)
  refine q_load (v := (6, vC, 0)) (p2 := 55) rfl rfl rfl rfl ?_
  refine q_getv (v := (0, 5, 0)) (p2 := 56) rfl hW18 (by decide) hg18.1 rfl ?_
  refine q_const (p2 := 57) rfl rfl ?_
  refine q_icmp_s (p2 := 58) rfl (by decide) (by omega) (by omega) rfl (fun hb => absurd hb (show ¬ (5 = 6) by omega)) (fun _ => ?_)
  refine q_load (v := (0, 5, 0)) (p2 := 59) rfl rfl rfl rfl ?_
  refine q_if0_s (p2 := 60) rfl (by decide) (by omega) rfl (fun hb => absurd hb (show ¬ (5 = 0) by omega)) (fun _ => ?_)
  refine q_load (v := (0, 5, 0)) (p2 := 61) rfl rfl rfl rfl ?_
  refine q_load (v := (6, vC, 0)) (p2 := 62) rfl rfl rfl rfl ?_
  refine q_getv (v := (0, 5, 0)) (p2 := 63) rfl hW18 (by decide) hg18.1 rfl ?_
  refine q_icmp_s (p2 := 64) rfl (by decide) (by omega) (by omega) rfl (fun hb => absurd hb (show ¬ (¬ (5 = 5)) by omega)) (fun _ => ?_)
  refine q_load (v := (6, vD, 0)) (p2 := 65) rfl rfl rfl rfl ?_
  refine q_getv (v := (2, 1, 0)) (p2 := 66) rfl hW16 (by decide) hg16.2.1 rfl ?_
  refine q_load (v := (6, n, 0)) (p2 := 67) rfl rfl rfl rfl ?_
  refine q_alen (p2 := 68) rfl hs12 rfl (by omega) rfl ?_
  refine q_load (v := (0, 1, 0)) (p2 := 69) rfl rfl rfl rfl ?_
  refine q_iop (w := 24 + (4294967296 - 1 % 4294967296)) (z := 23) (p2 := 70) rfl (xo_sub 24 1) (by decide) rfl ?_
  refine q_i2l (p2 := 71) rfl (by omega) rfl ?_
  refine q_lcif (p2 := 73) rfl rfl (by decide) (by omega) (by omega) rfl (fun hb => absurd hb (show ¬ (23 < 1) by omega)) (fun _ => ?_)
  refine q_const (p2 := 74) rfl rfl ?_
  refine q_goto rfl ?_
  refine q_store (loc2 := [(6, 455, 0), (0, 2, 0), (6, n, 0), (0, 5, 0), (0, 1, 0), (0, 1, 0), (0, 0, 0), (6, vD, 0), (6, vC, 0), (2, 1, 0), (11, 0, 0)]) (p2 := 77) rfl rfl rfl rfl rfl ?_
  refine q_load (v := (6, vC, 0)) (p2 := 78) rfl rfl rfl rfl ?_
  refine q_getv (v := (0, 5, 0)) (p2 := 79) rfl hW18 (by decide) hg18.1 rfl ?_
  refine q_store (loc2 := [(6, 455, 0), (0, 2, 0), (6, n, 0), (0, 5, 0), (0, 1, 0), (0, 1, 0), (0, 0, 0), (6, vD, 0), (6, vC, 0), (2, 1, 0), (11, 0, 0)]) (p2 := 80) rfl rfl rfl rfl rfl ?_
  refine q_const (p2 := 81) rfl rfl ?_
  refine q_store2 (loc2 := [(6, 455, 0), (0, 2, 0), (6, n, 0), (0, 5, 0), (0, 1, 0), (0, 1, 0), (0, 0, 0), (6, vD, 0), (6, vC, 0), (2, 0, 0), (11, 0, 0)]) (p2 := 82) rfl rfl rfl rfl rfl ?_
  refine q_load (v := (0, 1, 0)) (p2 := 83) rfl rfl rfl rfl ?_
  refine q_if0_s (p2 := 84) rfl (by decide) (by omega) rfl (fun hb => absurd hb (show ¬ (1 = 0) by omega)) (fun _ => ?_)
  refine q_load (v := (2, 0, 0)) (p2 := 85) rfl rfl rfl rfl ?_
  refine q_load (v := (6, vD, 0)) (p2 := 86) rfl rfl rfl rfl ?_
  refine q_getv (v := (2, 1, 0)) (p2 := 87) rfl hW16 (by decide) hg16.2.1 rfl ?_
  refine q_lcif (p2 := 89) rfl rfl (by decide) (by omega) (by omega) rfl (fun hb => absurd hb (show ¬ (¬ (0 < 1)) by omega)) (fun _ => ?_)
  refine q_load (v := (0, 1, 0)) (p2 := 90) rfl rfl rfl rfl ?_
  refine q_load (v := (6, n, 0)) (p2 := 91) rfl rfl rfl rfl ?_
  refine q_alen (p2 := 92) rfl hs12 rfl (by omega) rfl ?_
  refine q_icmp_s (p2 := 93) rfl (by decide) (by omega) (by omega) rfl (fun hb => absurd hb (show ¬ (¬ (1 < 24)) by omega)) (fun _ => ?_)
  refine q_load (v := (6, n, 0)) (p2 := 94) rfl rfl rfl rfl ?_
  refine q_load (v := (0, 1, 0)) (p2 := 95) rfl rfl rfl rfl ?_
  refine q_load (v := (6, vC, 0)) (p2 := 96) rfl rfl rfl rfl ?_
  refine q_getv (v := (2, b, 0)) (p2 := 97) rfl hW18 (by decide) hg18.2.1 rfl ?_
  refine q_astE (v := (2, b, 0)) (w := (2, b, 0)) (p2 := 98) rfl hs12 (by omega) (by omega) (x_ok_0 rfl) (x_nv_same rfl (by decide)) rfl (fun φ19 f19 hh19 hg19 ho19 fr19 => ?_)
  have hs19 := hh19.trans (x_arf (t := 2) hg19 ho19)
  refine q_iinc (z := 2) (loc2 := [(6, 455, 0), (0, 2, 0), (6, n, 0), (0, 5, 0), (0, 2, 0), (0, 1, 0), (0, 0, 0), (6, vD, 0), (6, vC, 0), (2, 0, 0), (11, 0, 0)]) (p2 := 99) rfl rfl (by decide) rfl rfl ?_
  refine q_load (v := (2, 0, 0)) (p2 := 100) rfl rfl rfl rfl ?_
  refine q_const (p2 := 101) rfl rfl ?_
  refine q_laddz (z := 1) (p2 := 102) rfl (by omega) (by omega) rfl ?_
  refine q_store2 (loc2 := [(6, 455, 0), (0, 2, 0), (6, n, 0), (0, 5, 0), (0, 2, 0), (0, 1, 0), (0, 0, 0), (6, vD, 0), (6, vC, 0), (2, 1, 0), (11, 0, 0)]) (p2 := 103) rfl rfl rfl rfl rfl ?_
  refine q_goto rfl ?_
  refine q_load (v := (0, 1, 0)) (p2 := 83) rfl rfl rfl rfl ?_
  refine q_if0_s (p2 := 84) rfl (by decide) (by omega) rfl (fun hb => absurd hb (show ¬ (1 = 0) by omega)) (fun _ => ?_)
  refine q_load (v := (2, 1, 0)) (p2 := 85) rfl rfl rfl rfl ?_
  refine q_load (v := (6, vD, 0)) (p2 := 86) rfl rfl rfl rfl ?_
  refine q_getv (v := (2, 1, 0)) (p2 := 87) rfl ((fr19 vD (by omega)).trans hW16) (by decide) hg16.2.1 rfl ?_
  refine q_lcif (p2 := 89) rfl rfl (by decide) (by omega) (by omega) rfl (fun _ => ?_) (fun hb => absurd (show ¬ (1 < 1) by omega) hb)
  refine q_iinc (z := 4294967295) (loc2 := [(6, 455, 0), (0, 2, 0), (6, n, 0), (0, 5, 0), (0, 2, 0), (0, 1, 0), (0, 4294967295, 0), (6, vD, 0), (6, vC, 0), (2, 1, 0), (11, 0, 0)]) (p2 := 105) rfl rfl (by decide) rfl rfl ?_
  refine q_goto rfl ?_
  refine q_load (v := (0, 4294967295, 0)) (p2 := 14) rfl rfl rfl rfl ?_
  refine q_if0 (p2 := 15) rfl (by decide) rfl (fun _ => ?_) (fun hb => absurd (show 2147483647 < 2147483648 by decide) hb)
  refine q_load (v := (6, 455, 0)) (p2 := 107) rfl rfl rfl rfl ?_
  refine q_const (p2 := 108) rfl rfl ?_
  refine q_load (v := (6, 455, 0)) (p2 := 109) rfl rfl rfl rfl ?_
  have hm20 := (x_KS_at2 hm13 (fun j h1 h2 h3 h4 => (fr19 j (by omega))))
  refine q_getv (v := (0, 4, 0)) (p2 := 110) rfl (x_KS_455 hm20) (by decide) hm20.1.choose_spec.2.2.2.2.2.1 rfl ?_
  refine q_const (p2 := 111) rfl rfl ?_
  refine q_load (v := (0, 2, 0)) (p2 := 112) rfl rfl rfl rfl ?_
  refine q_iop (w := 2 * 2) (z := 4) (p2 := 113) rfl (xo_mul 2 2) (by decide) rfl ?_
  refine q_iop (w := 4 + (4294967296 - 4 % 4294967296)) (z := 0) (p2 := 114) rfl (xo_sub 4 4) (by decide) rfl ?_
  refine q_max_t (p2 := 115) rfl rfl (by omega) (by omega) rfl ?_
  refine q_putfE (v := (0, 0, 0)) (p2 := 116) rfl (x_KS_455 hm20) (by decide) rfl rfl (fun φ21 f21 hh21 hg21 ho21 fr21 => ?_)
  have hs21 := x_KS_put_4 hm20 hh21 hg21 ho21 fr21
  refine q_load (v := (6, 455, 0)) (p2 := 117) rfl rfl rfl rfl ?_
  refine q_load (v := (0, 1, 0)) (p2 := 118) rfl rfl rfl rfl ?_
  refine q_if0_s (p2 := 119) rfl (by decide) (by omega) rfl (fun hb => absurd hb (show ¬ (1 = 0) by omega)) (fun _ => ?_)
  refine q_newE (p2 := 120) (len := 7) (g := x_gV) rfl rfl x_gV_ok rfl (fun φ22 hh22 frn22 => ?_)
  refine q_dup (p2 := 121) rfl rfl rfl ?_
  refine q_const (p2 := 122) rfl rfl ?_
  refine q_const (p2 := 123) rfl rfl ?_
  refine q_load (v := (0, 5, 0)) (p2 := 124) rfl rfl rfl rfl ?_
  refine q_const (p2 := 125) rfl rfl ?_
  refine q_load (v := (6, n, 0)) (p2 := 126) rfl rfl rfl rfl ?_
  refine q_load (v := (0, 2, 0)) (p2 := 127) rfl rfl rfl rfl ?_
  refine q_callrE (xs := [(0, 2, 0), (6, n, 0)]) (p2 := 128) rfl rfl rfl rfl (fun _ _ => rfl) rfl (e_copyOf (((frn22 n (by omega)).trans (fr21 n (by omega))).trans hs19) (by omega) (by omega) (by omega)) (Nat.le_add_right _ _) (Nat.le_add_right _ _) rfl (fun φ23 hR23 => ?_)
  obtain ⟨gc23, hc23, hcg23, frn23⟩ := hR23
  refine q_callvE (xs := [(6, n + 2, 0), (0, 0, 0), (0, 5, 0), (0, 1, 0), (0, 1, 0), (6, n + 1, 0)]) (p2 := 129) rfl rfl rfl rfl (x_rcv_s (n + 1) ((frn23 (n + 1) (by omega)).trans hh22)) rfl (e_new5 ((frn23 (n + 1) (by omega)).trans hh22)) (Nat.le_refl _) (Nat.le_refl _) rfl (fun φ24 hR24 => ?_)
  obtain ⟨⟨fv24, hV24, hg24⟩, frn24⟩ := hR24
  refine x_n_lt (fun hlt25 => ?_)
  have hz26 := x_mv_lt (x_mv_agg (L := [a, b]) (by decide) (by omega) (by omega) hV24 hg24 ((frn24 (n + 2) (by omega)).trans hc23) (x_two2 ((hcg23 0 (by decide)).trans rfl) ((hcg23 1 (by decide)).trans rfl)) (x_two2_lt (by omega) (by omega)) (by show 2 ≤ 24; decide)) hlt25
  have hy26 := (x_mv_agg (L := [a, b]) (by decide) (by omega) (by omega) hV24 hg24 ((frn24 (n + 2) (by omega)).trans hc23) (x_two2 ((hcg23 0 (by decide)).trans rfl) ((hcg23 1 (by decide)).trans rfl)) (x_two2_lt (by omega) (by omega)) (by show 2 ≤ 24; decide)).1
  refine q_goto rfl ?_
  have hm27 := (x_KS_at2 hs21 (fun j h1 h2 h3 h4 => ((frn24 j (by omega)).trans ((frn23 j (by omega)).trans (frn22 j (by omega))))))
  refine q_callvE (xs := [(6, n + 1, 0), (6, 455, 0)]) (p2 := 133) rfl rfl rfl rfl (x_rcv_s 455 (x_KS_455 hm27)) rfl (k_push hm27 (x_mv_agg (L := [a, b]) (by decide) (by omega) (by omega) hV24 hg24 ((frn24 (n + 2) (by omega)).trans hc23) (x_two2 ((hcg23 0 (by decide)).trans rfl) ((hcg23 1 (by decide)).trans rfl)) (x_two2_lt (by omega) (by omega)) (by show 2 ≤ 24; decide)) (by omega)) (Nat.le_refl _) (Nat.le_refl _) rfl (fun φ28 hR28 => ?_)
  obtain ⟨hK28, frn28⟩ := hR28
  refine x_n_lt (fun hlt30 => ?_)
  have hv29 := x_mv_at (x_mv_agg (L := [a, b]) (by decide) (by omega) (by omega) hV24 hg24 ((frn24 (n + 2) (by omega)).trans hc23) (x_two2 ((hcg23 0 (by decide)).trans rfl) ((hcg23 1 (by decide)).trans rfl)) (x_two2_lt (by omega) (by omega)) (by show 2 ≤ 24; decide)) (fun j hj hne => by have hj2 := x_some_lt hlt25 hne; exact (frn28 j (by omega)))
  exact q_ret rfl (⟨rfl, ⟨by omega, by omega⟩, ⟨by omega, by omega⟩, n + 1, hK28, hv29, fun j hj1 hj2 => ((frn28 j (by omega)).trans ((frn24 j (by omega)).trans ((frn23 j (by omega)).trans ((frn22 j (by omega)).trans ((fr21 j (by omega)).trans ((fr19 j (by omega)).trans ((fr12 j (by omega)).trans (frn5 j (by omega)))))))))⟩)
set_option maxHeartbeats 1000000 in
theorem zc_klist_50 {d n sl : Nat} {φ : FH} {fr pc_ mm mi : Nat} {st lo re rs fl se co : Nat → Nat} {vA vB vC vD a b : Nat} (hKS : x_KS φ 4 fr pc_ mm mi st lo re rs fl se co) (hN : x_mv φ 225 MV0) (hsA : st 0 = vA) (hsB : st 1 = vB) (hsC : st 2 = vC) (hsD : st 3 = vD) (hvA : x_mv φ vA (5, a, 0, 0, [])) (hvB : x_mv φ vB (1, 1, 0, 0, [])) (hvC : x_mv φ vC MV0) (hvD : x_mv φ vD (1, 1, 0, 0, [])) (ha : a < 2147483648) (hb : b < 2147483648) (hn0 : 486 ≤ n) : x_f x_P (d + 2) 184 [(6, 455, 0), (0, 2, 0), (11, 0, 0), (11, 0, 0), (11, 0, 0), (11, 0, 0), (11, 0, 0), (11, 0, 0), (11, 0, 0), (11, 0, 0), (11, 0, 0)] φ n sl (x_bV n sl 1 24 (fun φ2 => ∃ v, x_KS φ2 1 fr pc_ mm mi (x_s st 0 v) lo re rs fl se co ∧ x_mv φ2 v MV0 ∧ ∀ j, j < n → (j < 455 ∨ 466 ≤ j) → φ2 j = φ j)) := by
  refine x_f_of rfl ?_
  refine x_n_lt (fun hlt0 => ?_)
  have hz1 := x_mv_lt hvA hlt0
  have hy1 := hvA.1
  have hz2 := x_mv_lt hvB hlt0
  have hy2 := hvB.1
  have hz3 := x_mv_lt hvC hlt0
  have hy3 := hvC.1
  have hz4 := x_mv_lt hvD hlt0
  have hy4 := hvD.1
  refine q_const (p2 := 1) rfl rfl ?_
  refine q_newaE (p2 := 2) rfl (by omega) rfl (fun φ5 hh5 frn5 => ?_)
  refine q_store (loc2 := [(6, 455, 0), (0, 2, 0), (6, n, 0), (11, 0, 0), (11, 0, 0), (11, 0, 0), (11, 0, 0), (11, 0, 0), (11, 0, 0), (11, 0, 0), (11, 0, 0)]) (p2 := 3) rfl rfl rfl rfl rfl ?_
  refine q_const (p2 := 4) rfl rfl ?_
  refine q_store (loc2 := [(6, 455, 0), (0, 2, 0), (6, n, 0), (0, 0, 0), (11, 0, 0), (11, 0, 0), (11, 0, 0), (11, 0, 0), (11, 0, 0), (11, 0, 0), (11, 0, 0)]) (p2 := 5) rfl rfl rfl rfl rfl ?_
  refine q_const (p2 := 6) rfl rfl ?_
  refine q_store (loc2 := [(6, 455, 0), (0, 2, 0), (6, n, 0), (0, 0, 0), (0, 0, 0), (11, 0, 0), (11, 0, 0), (11, 0, 0), (11, 0, 0), (11, 0, 0), (11, 0, 0)]) (p2 := 7) rfl rfl rfl rfl rfl ?_
  refine q_const (p2 := 8) rfl rfl ?_
  refine q_store (loc2 := [(6, 455, 0), (0, 2, 0), (6, n, 0), (0, 0, 0), (0, 0, 0), (0, 1, 0), (11, 0, 0), (11, 0, 0), (11, 0, 0), (11, 0, 0), (11, 0, 0)]) (p2 := 9) rfl rfl rfl rfl rfl ?_
  refine q_load (v := (0, 2, 0)) (p2 := 10) rfl rfl rfl rfl ?_
  refine q_const (p2 := 11) rfl rfl ?_
  refine q_iop (w := 2 + (4294967296 - 1 % 4294967296)) (z := 1) (p2 := 12) rfl (xo_sub 2 1) (by decide) rfl ?_
  refine q_store (loc2 := [(6, 455, 0), (0, 2, 0), (6, n, 0), (0, 0, 0), (0, 0, 0), (0, 1, 0), (0, 1, 0), (11, 0, 0), (11, 0, 0), (11, 0, 0), (11, 0, 0)]) (p2 := 13) rfl rfl rfl rfl rfl ?_
  refine q_load (v := (0, 1, 0)) (p2 := 14) rfl rfl rfl rfl ?_
  refine q_if0_s (p2 := 15) rfl (by decide) (by omega) rfl (fun hb => absurd hb (show ¬ (1 < 0) by omega)) (fun _ => ?_)
  refine q_load (v := (6, 455, 0)) (p2 := 16) rfl rfl rfl rfl ?_
  refine q_const (p2 := 17) rfl rfl ?_
  refine q_load (v := (0, 1, 0)) (p2 := 18) rfl rfl rfl rfl ?_
  refine q_iop (w := 2 * 1) (z := 2) (p2 := 19) rfl (xo_mul 2 1) (by decide) rfl ?_
  have hm6 := (x_KS_at2 hKS (fun j h1 h2 h3 h4 => (frn5 j (by omega))))
  refine q_callr (xs := [(0, 2, 0), (6, 455, 0)]) (p2 := 20) rfl rfl rfl rfl (x_rcv_s 455 (x_KS_455 hm6)) rfl (e_below (k := 2) hm6.1.choose_spec hm6.2.1 (by omega) (by omega)) (Nat.le_refl _) (Nat.le_refl _) rfl ?_
  rw [show st (4 - 1 - 2) = vB from hsB]
  refine q_store (loc2 := [(6, 455, 0), (0, 2, 0), (6, n, 0), (0, 0, 0), (0, 0, 0), (0, 1, 0), (0, 1, 0), (6, vB, 0), (11, 0, 0), (11, 0, 0), (11, 0, 0)]) (p2 := 21) rfl rfl rfl rfl rfl ?_
  refine q_load (v := (6, 455, 0)) (p2 := 22) rfl rfl rfl rfl ?_
  refine q_const (p2 := 23) rfl rfl ?_
  refine q_load (v := (0, 1, 0)) (p2 := 24) rfl rfl rfl rfl ?_
  refine q_iop (w := 2 * 1) (z := 2) (p2 := 25) rfl (xo_mul 2 1) (by decide) rfl ?_
  refine q_const (p2 := 26) rfl rfl ?_
  refine q_iop (w := 2 + 1) (z := 3) (p2 := 27) rfl (xo_add 2 1) (by decide) rfl ?_
  refine q_callr (xs := [(0, 3, 0), (6, 455, 0)]) (p2 := 28) rfl rfl rfl rfl (x_rcv_s 455 (x_KS_455 hm6)) rfl (e_below (k := 3) hm6.1.choose_spec hm6.2.1 (by omega) (by omega)) (Nat.le_refl _) (Nat.le_refl _) rfl ?_
  rw [show st (4 - 1 - 3) = vA from hsA]
  refine q_store (loc2 := [(6, 455, 0), (0, 2, 0), (6, n, 0), (0, 0, 0), (0, 0, 0), (0, 1, 0), (0, 1, 0), (6, vB, 0), (6, vA, 0), (11, 0, 0), (11, 0, 0)]) (p2 := 29) rfl rfl rfl rfl rfl ?_
  refine q_load (v := (0, 1, 0)) (p2 := 30) rfl rfl rfl rfl ?_
  refine q_if0_s (p2 := 31) rfl (by decide) (by omega) rfl (fun hb => absurd hb (show ¬ (1 = 0) by omega)) (fun _ => ?_)
  refine q_load (v := (6, vB, 0)) (p2 := 32) rfl rfl rfl rfl ?_
  refine x_n_lt (fun hlt8 => ?_)
  have hv7 := x_mv_at hvB (fun j hj hne => by have hj2 := x_some_lt hlt0 hne; exact (frn5 j (by omega)))
  obtain ⟨fV9, hW9, hg9⟩ := x_mv_gS hv7 (by decide)
  have hl9 := hlt8 _ _ hW9
  have h6_9 := hv7.1
  refine q_getv (v := (0, 1, 0)) (p2 := 33) rfl hW9 (by decide) hg9.1 rfl ?_
  refine q_const (p2 := 34) rfl rfl ?_
  refine q_icmp_s (p2 := 35) rfl (by decide) (by omega) (by omega) rfl (fun hb => absurd hb (show ¬ (¬ (1 = 1)) by omega)) (fun _ => ?_)
  refine q_load (v := (6, vB, 0)) (p2 := 36) rfl rfl rfl rfl ?_
  refine q_getv (v := (2, 1, 0)) (p2 := 37) rfl hW9 (by decide) hg9.2.1 rfl ?_
  refine q_const (p2 := 38) rfl rfl ?_
  refine q_lcif (p2 := 40) rfl rfl (by decide) (by omega) (by omega) rfl (fun hb => absurd hb (show ¬ (1 < 0) by omega)) (fun _ => ?_)
  refine q_const (p2 := 41) rfl rfl ?_
  refine q_goto rfl ?_
  refine q_store (loc2 := [(6, 455, 0), (0, 2, 0), (6, n, 0), (0, 0, 0), (0, 0, 0), (0, 1, 0), (0, 1, 0), (6, vB, 0), (6, vA, 0), (11, 0, 0), (11, 0, 0)]) (p2 := 44) rfl rfl rfl rfl rfl ?_
  refine q_load (v := (0, 1, 0)) (p2 := 45) rfl rfl rfl rfl ?_
  refine q_if0_s (p2 := 46) rfl (by decide) (by omega) rfl (fun hb => absurd hb (show ¬ (1 = 0) by omega)) (fun _ => ?_)
  refine q_load (v := (6, vB, 0)) (p2 := 47) rfl rfl rfl rfl ?_
  refine q_getv (v := (2, 1, 0)) (p2 := 48) rfl hW9 (by decide) hg9.2.1 rfl ?_
  refine q_const (p2 := 49) rfl rfl ?_
  refine q_lcif (p2 := 51) rfl rfl (by decide) (by omega) (by omega) rfl (fun hb => absurd hb (show ¬ (¬ (0 < 1)) by omega)) (fun _ => ?_)
  refine q_load (v := (6, vA, 0)) (p2 := 52) rfl rfl rfl rfl ?_
  have hv10 := x_mv_at hvA (fun j hj hne => by have hj2 := x_some_lt hlt0 hne; exact (frn5 j (by omega)))
  obtain ⟨fV11, hW11, hg11⟩ := x_mv_gS hv10 (by decide)
  have hl11 := hlt8 _ _ hW11
  have h6_11 := hv10.1
  refine q_getv (v := (0, 5, 0)) (p2 := 53) rfl hW11 (by decide) hg11.1 rfl ?_
  refine q_if0_s (p2 := 54) rfl (by decide) (by omega) rfl (fun hb => absurd hb (show ¬ (5 = 0) by omega)) (fun _ => ?_)
  refine q_load (v := (6, vA, 0)) (p2 := 55) rfl rfl rfl rfl ?_
  refine q_getv (v := (0, 5, 0)) (p2 := 56) rfl hW11 (by decide) hg11.1 rfl ?_
  refine q_const (p2 := 57) rfl rfl ?_
  refine q_icmp_s (p2 := 58) rfl (by decide) (by omega) (by omega) rfl (fun hb => absurd hb (show ¬ (5 = 6) by omega)) (fun _ => ?_)
  refine q_load (v := (0, 0, 0)) (p2 := 59) rfl rfl rfl rfl ?_
  refine q_if0_s (p2 := 60) rfl (by decide) (by omega) rfl (fun _ => ?_) (fun hb => absurd (show 0 = 0 by omega) hb)
  refine q_load (v := (6, vB, 0)) (p2 := 65) rfl rfl rfl rfl ?_
  refine q_getv (v := (2, 1, 0)) (p2 := 66) rfl hW9 (by decide) hg9.2.1 rfl ?_
  refine q_load (v := (6, n, 0)) (p2 := 67) rfl rfl rfl rfl ?_
  refine q_alen (p2 := 68) rfl hh5 rfl (by omega) rfl ?_
  refine q_load (v := (0, 0, 0)) (p2 := 69) rfl rfl rfl rfl ?_
  refine q_iop (w := 24 + (4294967296 - 0 % 4294967296)) (z := 24) (p2 := 70) rfl (xo_sub 24 0) (by decide) rfl ?_
  refine q_i2l (p2 := 71) rfl (by omega) rfl ?_
  refine q_lcif (p2 := 73) rfl rfl (by decide) (by omega) (by omega) rfl (fun hb => absurd hb (show ¬ (24 < 1) by omega)) (fun _ => ?_)
  refine q_const (p2 := 74) rfl rfl ?_
  refine q_goto rfl ?_
  refine q_store (loc2 := [(6, 455, 0), (0, 2, 0), (6, n, 0), (0, 0, 0), (0, 0, 0), (0, 1, 0), (0, 1, 0), (6, vB, 0), (6, vA, 0), (11, 0, 0), (11, 0, 0)]) (p2 := 77) rfl rfl rfl rfl rfl ?_
  refine q_load (v := (6, vA, 0)) (p2 := 78) rfl rfl rfl rfl ?_
  refine q_getv (v := (0, 5, 0)) (p2 := 79) rfl hW11 (by decide) hg11.1 rfl ?_
  refine q_store (loc2 := [(6, 455, 0), (0, 2, 0), (6, n, 0), (0, 5, 0), (0, 0, 0), (0, 1, 0), (0, 1, 0), (6, vB, 0), (6, vA, 0), (11, 0, 0), (11, 0, 0)]) (p2 := 80) rfl rfl rfl rfl rfl ?_
  refine q_const (p2 := 81) rfl rfl ?_
  refine q_store2 (loc2 := [(6, 455, 0), (0, 2, 0), (6, n, 0), (0, 5, 0), (0, 0, 0), (0, 1, 0), (0, 1, 0), (6, vB, 0), (6, vA, 0), (2, 0, 0), (11, 0, 0)]) (p2 := 82) rfl rfl rfl rfl rfl ?_
  refine q_load (v := (0, 1, 0)) (p2 := 83) rfl rfl rfl rfl ?_
  refine q_if0_s (p2 := 84) rfl (by decide) (by omega) rfl (fun hb => absurd hb (show ¬ (1 = 0) by omega)) (fun _ => ?_)
  refine q_load (v := (2, 0, 0)) (p2 := 85) rfl rfl rfl rfl ?_
  refine q_load (v := (6, vB, 0)) (p2 := 86) rfl rfl rfl rfl ?_
  refine q_getv (v := (2, 1, 0)) (p2 := 87) rfl hW9 (by decide) hg9.2.1 rfl ?_
  refine q_lcif (p2 := 89) rfl rfl (by decide) (by omega) (by omega) rfl (fun hb => absurd hb (show ¬ (¬ (0 < 1)) by omega)) (fun _ => ?_)
  refine q_load (v := (0, 0, 0)) (p2 := 90) rfl rfl rfl rfl ?_
  refine q_load (v := (6, n, 0)) (p2 := 91) rfl rfl rfl rfl ?_
  refine q_alen (p2 := 92) rfl hh5 rfl (by omega) rfl ?_
  refine q_icmp_s (p2 := 93) rfl (by decide) (by omega) (by omega) rfl (fun hb => absurd hb (show ¬ (¬ (0 < 24)) by omega)) (fun _ => ?_)
  refine q_load (v := (6, n, 0)) (p2 := 94) rfl rfl rfl rfl ?_
  refine q_load (v := (0, 0, 0)) (p2 := 95) rfl rfl rfl rfl ?_
  refine q_load (v := (6, vA, 0)) (p2 := 96) rfl rfl rfl rfl ?_
  refine q_getv (v := (2, a, 0)) (p2 := 97) rfl hW11 (by decide) hg11.2.1 rfl ?_
  refine q_astE (v := (2, a, 0)) (w := (2, a, 0)) (p2 := 98) rfl hh5 (by omega) (by omega) (x_ok_0 rfl) (x_nv_same rfl (by decide)) rfl (fun φ12 f12 hh12 hg12 ho12 fr12 => ?_)
  have hs12 := hh12.trans (x_arf (t := 2) hg12 ho12)
  refine q_iinc (z := 1) (loc2 := [(6, 455, 0), (0, 2, 0), (6, n, 0), (0, 5, 0), (0, 1, 0), (0, 1, 0), (0, 1, 0), (6, vB, 0), (6, vA, 0), (2, 0, 0), (11, 0, 0)]) (p2 := 99) rfl rfl (by decide) rfl rfl ?_
  refine q_load (v := (2, 0, 0)) (p2 := 100) rfl rfl rfl rfl ?_
  refine q_const (p2 := 101) rfl rfl ?_
  refine q_laddz (z := 1) (p2 := 102) rfl (by omega) (by omega) rfl ?_
  refine q_store2 (loc2 := [(6, 455, 0), (0, 2, 0), (6, n, 0), (0, 5, 0), (0, 1, 0), (0, 1, 0), (0, 1, 0), (6, vB, 0), (6, vA, 0), (2, 1, 0), (11, 0, 0)]) (p2 := 103) rfl rfl rfl rfl rfl ?_
  refine q_goto rfl ?_
  refine q_load (v := (0, 1, 0)) (p2 := 83) rfl rfl rfl rfl ?_
  refine q_if0_s (p2 := 84) rfl (by decide) (by omega) rfl (fun hb => absurd hb (show ¬ (1 = 0) by omega)) (fun _ => ?_)
  refine q_load (v := (2, 1, 0)) (p2 := 85) rfl rfl rfl rfl ?_
  refine q_load (v := (6, vB, 0)) (p2 := 86) rfl rfl rfl rfl ?_
  refine q_getv (v := (2, 1, 0)) (p2 := 87) rfl ((fr12 vB (by omega)).trans hW9) (by decide) hg9.2.1 rfl ?_
  refine q_lcif (p2 := 89) rfl rfl (by decide) (by omega) (by omega) rfl (fun _ => ?_) (fun hb => absurd (show ¬ (1 < 1) by omega) hb)
  refine q_iinc (z := 0) (loc2 := [(6, 455, 0), (0, 2, 0), (6, n, 0), (0, 5, 0), (0, 1, 0), (0, 1, 0), (0, 0, 0), (6, vB, 0), (6, vA, 0), (2, 1, 0), (11, 0, 0)]) (p2 := 105) rfl rfl (by decide) rfl rfl ?_
  refine q_goto rfl ?_
  refine q_load (v := (0, 0, 0)) (p2 := 14) rfl rfl rfl rfl ?_
  refine q_if0_s (p2 := 15) rfl (by decide) (by omega) rfl (fun hb => absurd hb (show ¬ (0 < 0) by omega)) (fun _ => ?_)
  refine q_load (v := (6, 455, 0)) (p2 := 16) rfl rfl rfl rfl ?_
  refine q_const (p2 := 17) rfl rfl ?_
  refine q_load (v := (0, 0, 0)) (p2 := 18) rfl rfl rfl rfl ?_
  refine q_iop (w := 2 * 0) (z := 0) (p2 := 19) rfl (xo_mul 2 0) (by decide) rfl ?_
  have hm13 := (x_KS_at2 hm6 (fun j h1 h2 h3 h4 => (fr12 j (by omega))))
  refine q_callr (xs := [(0, 0, 0), (6, 455, 0)]) (p2 := 20) rfl rfl rfl rfl (x_rcv_s 455 (x_KS_455 hm13)) rfl (e_below (k := 0) hm13.1.choose_spec hm13.2.1 (by omega) (by omega)) (Nat.le_refl _) (Nat.le_refl _) rfl ?_
  rw [show st (4 - 1 - 0) = vD from hsD]
  refine q_store (loc2 := [(6, 455, 0), (0, 2, 0), (6, n, 0), (0, 5, 0), (0, 1, 0), (0, 1, 0), (0, 0, 0), (6, vD, 0), (6, vA, 0), (2, 1, 0), (11, 0, 0)]) (p2 := 21) rfl rfl rfl rfl rfl ?_
  refine q_load (v := (6, 455, 0)) (p2 := 22) rfl rfl rfl rfl ?_
  refine q_const (p2 := 23) rfl rfl ?_
  refine q_load (v := (0, 0, 0)) (p2 := 24) rfl rfl rfl rfl ?_
  refine q_iop (w := 2 * 0) (z := 0) (p2 := 25) rfl (xo_mul 2 0) (by decide) rfl ?_
  refine q_const (p2 := 26) rfl rfl ?_
  refine q_iop (w := 0 + 1) (z := 1) (p2 := 27) rfl (xo_add 0 1) (by decide) rfl ?_
  refine q_callr (xs := [(0, 1, 0), (6, 455, 0)]) (p2 := 28) rfl rfl rfl rfl (x_rcv_s 455 (x_KS_455 hm13)) rfl (e_below (k := 1) hm13.1.choose_spec hm13.2.1 (by omega) (by omega)) (Nat.le_refl _) (Nat.le_refl _) rfl ?_
  rw [show st (4 - 1 - 1) = vC from hsC]
  refine q_store (loc2 := [(6, 455, 0), (0, 2, 0), (6, n, 0), (0, 5, 0), (0, 1, 0), (0, 1, 0), (0, 0, 0), (6, vD, 0), (6, vC, 0), (2, 1, 0), (11, 0, 0)]) (p2 := 29) rfl rfl rfl rfl rfl ?_
  refine q_load (v := (0, 1, 0)) (p2 := 30) rfl rfl rfl rfl ?_
  refine q_if0_s (p2 := 31) rfl (by decide) (by omega) rfl (fun hb => absurd hb (show ¬ (1 = 0) by omega)) (fun _ => ?_)
  refine q_load (v := (6, vD, 0)) (p2 := 32) rfl rfl rfl rfl ?_
  refine x_n_lt (fun hlt15 => ?_)
  have hv14 := x_mv_at hvD (fun j hj hne => by have hj2 := x_some_lt hlt0 hne; exact ((fr12 j (by omega)).trans (frn5 j (by omega))))
  obtain ⟨fV16, hW16, hg16⟩ := x_mv_gS hv14 (by decide)
  have hl16 := hlt15 _ _ hW16
  have h6_16 := hv14.1
  refine q_getv (v := (0, 1, 0)) (p2 := 33) rfl hW16 (by decide) hg16.1 rfl ?_
  refine q_const (p2 := 34) rfl rfl ?_
  refine q_icmp_s (p2 := 35) rfl (by decide) (by omega) (by omega) rfl (fun hb => absurd hb (show ¬ (¬ (1 = 1)) by omega)) (fun _ => ?_)
  refine q_load (v := (6, vD, 0)) (p2 := 36) rfl rfl rfl rfl ?_
  refine q_getv (v := (2, 1, 0)) (p2 := 37) rfl hW16 (by decide) hg16.2.1 rfl ?_
  refine q_const (p2 := 38) rfl rfl ?_
  refine q_lcif (p2 := 40) rfl rfl (by decide) (by omega) (by omega) rfl (fun hb => absurd hb (show ¬ (1 < 0) by omega)) (fun _ => ?_)
  refine q_const (p2 := 41) rfl rfl ?_
  refine q_goto rfl ?_
  refine q_store (loc2 := [(6, 455, 0), (0, 2, 0), (6, n, 0), (0, 5, 0), (0, 1, 0), (0, 1, 0), (0, 0, 0), (6, vD, 0), (6, vC, 0), (2, 1, 0), (11, 0, 0)]) (p2 := 44) rfl rfl rfl rfl rfl ?_
  refine q_load (v := (0, 1, 0)) (p2 := 45) rfl rfl rfl rfl ?_
  refine q_if0_s (p2 := 46) rfl (by decide) (by omega) rfl (fun hb => absurd hb (show ¬ (1 = 0) by omega)) (fun _ => ?_)
  refine q_load (v := (6, vD, 0)) (p2 := 47) rfl rfl rfl rfl ?_
  refine q_getv (v := (2, 1, 0)) (p2 := 48) rfl hW16 (by decide) hg16.2.1 rfl ?_
  refine q_const (p2 := 49) rfl rfl ?_
  refine q_lcif (p2 := 51) rfl rfl (by decide) (by omega) (by omega) rfl (fun hb => absurd hb (show ¬ (¬ (0 < 1)) by omega)) (fun _ => ?_)
  refine q_load (v := (6, vC, 0)) (p2 := 52) rfl rfl rfl rfl ?_
  have hv17 := x_mv_at hvC (fun j hj hne => by have hj2 := x_some_lt hlt0 hne; exact ((fr12 j (by omega)).trans (frn5 j (by omega))))
  obtain ⟨fV18, hW18, hg18⟩ := x_mv_gS hv17 (by decide)
  have hl18 := hlt15 _ _ hW18
  have h6_18 := hv17.1
  refine q_getv (v := (0, 0, 0)) (p2 := 53) rfl hW18 (by decide) hg18.1 rfl ?_
  refine q_if0_s (p2 := 54) rfl (by decide) (by omega) rfl (fun _ => ?_) (fun hb => absurd (show 0 = 0 by omega) hb)
  refine q_const (p2 := 76) rfl rfl ?_
  refine q_store (loc2 := [(6, 455, 0), (0, 2, 0), (6, n, 0), (0, 5, 0), (0, 1, 0), (0, 0, 0), (0, 0, 0), (6, vD, 0), (6, vC, 0), (2, 1, 0), (11, 0, 0)]) (p2 := 77) rfl rfl rfl rfl rfl ?_
  refine q_load (v := (6, vC, 0)) (p2 := 78) rfl rfl rfl rfl ?_
  refine q_getv (v := (0, 0, 0)) (p2 := 79) rfl hW18 (by decide) hg18.1 rfl ?_
  refine q_store (loc2 := [(6, 455, 0), (0, 2, 0), (6, n, 0), (0, 0, 0), (0, 1, 0), (0, 0, 0), (0, 0, 0), (6, vD, 0), (6, vC, 0), (2, 1, 0), (11, 0, 0)]) (p2 := 80) rfl rfl rfl rfl rfl ?_
  refine q_const (p2 := 81) rfl rfl ?_
  refine q_store2 (loc2 := [(6, 455, 0), (0, 2, 0), (6, n, 0), (0, 0, 0), (0, 1, 0), (0, 0, 0), (0, 0, 0), (6, vD, 0), (6, vC, 0), (2, 0, 0), (11, 0, 0)]) (p2 := 82) rfl rfl rfl rfl rfl ?_
  refine q_load (v := (0, 0, 0)) (p2 := 83) rfl rfl rfl rfl ?_
  refine q_if0_s (p2 := 84) rfl (by decide) (by omega) rfl (fun _ => ?_) (fun hb => absurd (show 0 = 0 by omega) hb)
  refine q_iinc (z := 4294967295) (loc2 := [(6, 455, 0), (0, 2, 0), (6, n, 0), (0, 0, 0), (0, 1, 0), (0, 0, 0), (0, 4294967295, 0), (6, vD, 0), (6, vC, 0), (2, 0, 0), (11, 0, 0)]) (p2 := 105) rfl rfl (by decide) rfl rfl ?_
  refine q_goto rfl ?_
  refine q_load (v := (0, 4294967295, 0)) (p2 := 14) rfl rfl rfl rfl ?_
  refine q_if0 (p2 := 15) rfl (by decide) rfl (fun _ => ?_) (fun hb => absurd (show 2147483647 < 2147483648 by decide) hb)
  refine q_load (v := (6, 455, 0)) (p2 := 107) rfl rfl rfl rfl ?_
  refine q_const (p2 := 108) rfl rfl ?_
  refine q_load (v := (6, 455, 0)) (p2 := 109) rfl rfl rfl rfl ?_
  refine q_getv (v := (0, 4, 0)) (p2 := 110) rfl (x_KS_455 hm13) (by decide) hm13.1.choose_spec.2.2.2.2.2.1 rfl ?_
  refine q_const (p2 := 111) rfl rfl ?_
  refine q_load (v := (0, 2, 0)) (p2 := 112) rfl rfl rfl rfl ?_
  refine q_iop (w := 2 * 2) (z := 4) (p2 := 113) rfl (xo_mul 2 2) (by decide) rfl ?_
  refine q_iop (w := 4 + (4294967296 - 4 % 4294967296)) (z := 0) (p2 := 114) rfl (xo_sub 4 4) (by decide) rfl ?_
  refine q_max_t (p2 := 115) rfl rfl (by omega) (by omega) rfl ?_
  refine q_putfE (v := (0, 0, 0)) (p2 := 116) rfl (x_KS_455 hm13) (by decide) rfl rfl (fun φ19 f19 hh19 hg19 ho19 fr19 => ?_)
  have hs19 := x_KS_put_4 hm13 hh19 hg19 ho19 fr19
  refine q_load (v := (6, 455, 0)) (p2 := 117) rfl rfl rfl rfl ?_
  refine q_load (v := (0, 0, 0)) (p2 := 118) rfl rfl rfl rfl ?_
  refine q_if0_s (p2 := 119) rfl (by decide) (by omega) rfl (fun _ => ?_) (fun hb => absurd (show 0 = 0 by omega) hb)
  refine q_load (v := (6, 455, 0)) (p2 := 131) rfl rfl rfl rfl ?_
  refine q_getv (v := (6, 225, 0)) (p2 := 132) rfl (x_KS_455 hs19) (by decide) hs19.1.choose_spec.2.2.2.1 rfl ?_
  refine x_n_lt (fun hlt21 => ?_)
  have hv20 := x_mv_at hN (fun j hj hne => by have hj2 := x_some_lt hlt0 hne; exact ((fr19 j (by omega)).trans ((fr12 j (by omega)).trans (frn5 j (by omega)))))
  refine q_callvE (xs := [(6, 225, 0), (6, 455, 0)]) (p2 := 133) rfl rfl rfl rfl (x_rcv_s 455 (x_KS_455 hs19)) rfl (k_push hs19 hv20 (by omega)) (Nat.le_refl _) (Nat.le_refl _) rfl (fun φ22 hR22 => ?_)
  obtain ⟨hK22, frn22⟩ := hR22
  refine x_n_lt (fun hlt24 => ?_)
  have hv23 := x_mv_at hv20 (fun j hj hne => by have hj2 := x_some_lt hlt21 hne; exact (frn22 j (by omega)))
  exact q_ret rfl (⟨rfl, ⟨by omega, by omega⟩, ⟨by omega, by omega⟩, 225, hK22, hv23, fun j hj1 hj2 => ((frn22 j (by omega)).trans ((fr19 j (by omega)).trans ((fr12 j (by omega)).trans (frn5 j (by omega)))))⟩)
set_option maxHeartbeats 1000000 in
theorem zc_klist_05 {d n sl : Nat} {φ : FH} {fr pc_ mm mi : Nat} {st lo re rs fl se co : Nat → Nat} {vA vB vC vD a b : Nat} (hKS : x_KS φ 4 fr pc_ mm mi st lo re rs fl se co) (hN : x_mv φ 225 MV0) (hsA : st 0 = vA) (hsB : st 1 = vB) (hsC : st 2 = vC) (hsD : st 3 = vD) (hvA : x_mv φ vA MV0) (hvB : x_mv φ vB (1, 1, 0, 0, [])) (hvC : x_mv φ vC (5, b, 0, 0, [])) (hvD : x_mv φ vD (1, 1, 0, 0, [])) (ha : a < 2147483648) (hb : b < 2147483648) (hn0 : 486 ≤ n) : x_f x_P (d + 2) 184 [(6, 455, 0), (0, 2, 0), (11, 0, 0), (11, 0, 0), (11, 0, 0), (11, 0, 0), (11, 0, 0), (11, 0, 0), (11, 0, 0), (11, 0, 0), (11, 0, 0)] φ n sl (x_bV n sl 1 24 (fun φ2 => ∃ v, x_KS φ2 1 fr pc_ mm mi (x_s st 0 v) lo re rs fl se co ∧ x_mv φ2 v MV0 ∧ ∀ j, j < n → (j < 455 ∨ 466 ≤ j) → φ2 j = φ j)) := by
  refine x_f_of rfl ?_
  refine x_n_lt (fun hlt0 => ?_)
  have hz1 := x_mv_lt hvA hlt0
  have hy1 := hvA.1
  have hz2 := x_mv_lt hvB hlt0
  have hy2 := hvB.1
  have hz3 := x_mv_lt hvC hlt0
  have hy3 := hvC.1
  have hz4 := x_mv_lt hvD hlt0
  have hy4 := hvD.1
  refine q_const (p2 := 1) rfl rfl ?_
  refine q_newaE (p2 := 2) rfl (by omega) rfl (fun φ5 hh5 frn5 => ?_)
  refine q_store (loc2 := [(6, 455, 0), (0, 2, 0), (6, n, 0), (11, 0, 0), (11, 0, 0), (11, 0, 0), (11, 0, 0), (11, 0, 0), (11, 0, 0), (11, 0, 0), (11, 0, 0)]) (p2 := 3) rfl rfl rfl rfl rfl ?_
  refine q_const (p2 := 4) rfl rfl ?_
  refine q_store (loc2 := [(6, 455, 0), (0, 2, 0), (6, n, 0), (0, 0, 0), (11, 0, 0), (11, 0, 0), (11, 0, 0), (11, 0, 0), (11, 0, 0), (11, 0, 0), (11, 0, 0)]) (p2 := 5) rfl rfl rfl rfl rfl ?_
  refine q_const (p2 := 6) rfl rfl ?_
  refine q_store (loc2 := [(6, 455, 0), (0, 2, 0), (6, n, 0), (0, 0, 0), (0, 0, 0), (11, 0, 0), (11, 0, 0), (11, 0, 0), (11, 0, 0), (11, 0, 0), (11, 0, 0)]) (p2 := 7) rfl rfl rfl rfl rfl ?_
  refine q_const (p2 := 8) rfl rfl ?_
  refine q_store (loc2 := [(6, 455, 0), (0, 2, 0), (6, n, 0), (0, 0, 0), (0, 0, 0), (0, 1, 0), (11, 0, 0), (11, 0, 0), (11, 0, 0), (11, 0, 0), (11, 0, 0)]) (p2 := 9) rfl rfl rfl rfl rfl ?_
  refine q_load (v := (0, 2, 0)) (p2 := 10) rfl rfl rfl rfl ?_
  refine q_const (p2 := 11) rfl rfl ?_
  refine q_iop (w := 2 + (4294967296 - 1 % 4294967296)) (z := 1) (p2 := 12) rfl (xo_sub 2 1) (by decide) rfl ?_
  refine q_store (loc2 := [(6, 455, 0), (0, 2, 0), (6, n, 0), (0, 0, 0), (0, 0, 0), (0, 1, 0), (0, 1, 0), (11, 0, 0), (11, 0, 0), (11, 0, 0), (11, 0, 0)]) (p2 := 13) rfl rfl rfl rfl rfl ?_
  refine q_load (v := (0, 1, 0)) (p2 := 14) rfl rfl rfl rfl ?_
  refine q_if0_s (p2 := 15) rfl (by decide) (by omega) rfl (fun hb => absurd hb (show ¬ (1 < 0) by omega)) (fun _ => ?_)
  refine q_load (v := (6, 455, 0)) (p2 := 16) rfl rfl rfl rfl ?_
  refine q_const (p2 := 17) rfl rfl ?_
  refine q_load (v := (0, 1, 0)) (p2 := 18) rfl rfl rfl rfl ?_
  refine q_iop (w := 2 * 1) (z := 2) (p2 := 19) rfl (xo_mul 2 1) (by decide) rfl ?_
  have hm6 := (x_KS_at2 hKS (fun j h1 h2 h3 h4 => (frn5 j (by omega))))
  refine q_callr (xs := [(0, 2, 0), (6, 455, 0)]) (p2 := 20) rfl rfl rfl rfl (x_rcv_s 455 (x_KS_455 hm6)) rfl (e_below (k := 2) hm6.1.choose_spec hm6.2.1 (by omega) (by omega)) (Nat.le_refl _) (Nat.le_refl _) rfl ?_
  rw [show st (4 - 1 - 2) = vB from hsB]
  refine q_store (loc2 := [(6, 455, 0), (0, 2, 0), (6, n, 0), (0, 0, 0), (0, 0, 0), (0, 1, 0), (0, 1, 0), (6, vB, 0), (11, 0, 0), (11, 0, 0), (11, 0, 0)]) (p2 := 21) rfl rfl rfl rfl rfl ?_
  refine q_load (v := (6, 455, 0)) (p2 := 22) rfl rfl rfl rfl ?_
  refine q_const (p2 := 23) rfl rfl ?_
  refine q_load (v := (0, 1, 0)) (p2 := 24) rfl rfl rfl rfl ?_
  refine q_iop (w := 2 * 1) (z := 2) (p2 := 25) rfl (xo_mul 2 1) (by decide) rfl ?_
  refine q_const (p2 := 26) rfl rfl ?_
  refine q_iop (w := 2 + 1) (z := 3) (p2 := 27) rfl (xo_add 2 1) (by decide) rfl ?_
  refine q_callr (xs := [(0, 3, 0), (6, 455, 0)]) (p2 := 28) rfl rfl rfl rfl (x_rcv_s 455 (x_KS_455 hm6)) rfl (e_below (k := 3) hm6.1.choose_spec hm6.2.1 (by omega) (by omega)) (Nat.le_refl _) (Nat.le_refl _) rfl ?_
  rw [show st (4 - 1 - 3) = vA from hsA]
  refine q_store (loc2 := [(6, 455, 0), (0, 2, 0), (6, n, 0), (0, 0, 0), (0, 0, 0), (0, 1, 0), (0, 1, 0), (6, vB, 0), (6, vA, 0), (11, 0, 0), (11, 0, 0)]) (p2 := 29) rfl rfl rfl rfl rfl ?_
  refine q_load (v := (0, 1, 0)) (p2 := 30) rfl rfl rfl rfl ?_
  refine q_if0_s (p2 := 31) rfl (by decide) (by omega) rfl (fun hb => absurd hb (show ¬ (1 = 0) by omega)) (fun _ => ?_)
  refine q_load (v := (6, vB, 0)) (p2 := 32) rfl rfl rfl rfl ?_
  refine x_n_lt (fun hlt8 => ?_)
  have hv7 := x_mv_at hvB (fun j hj hne => by have hj2 := x_some_lt hlt0 hne; exact (frn5 j (by omega)))
  obtain ⟨fV9, hW9, hg9⟩ := x_mv_gS hv7 (by decide)
  have hl9 := hlt8 _ _ hW9
  have h6_9 := hv7.1
  refine q_getv (v := (0, 1, 0)) (p2 := 33) rfl hW9 (by decide) hg9.1 rfl ?_
  refine q_const (p2 := 34) rfl rfl ?_
  refine q_icmp_s (p2 := 35) rfl (by decide) (by omega) (by omega) rfl (fun hb => absurd hb (show ¬ (¬ (1 = 1)) by omega)) (fun _ => ?_)
  refine q_load (v := (6, vB, 0)) (p2 := 36) rfl rfl rfl rfl ?_
  refine q_getv (v := (2, 1, 0)) (p2 := 37) rfl hW9 (by decide) hg9.2.1 rfl ?_
  refine q_const (p2 := 38) rfl rfl ?_
  refine q_lcif (p2 := 40) rfl rfl (by decide) (by omega) (by omega) rfl (fun hb => absurd hb (show ¬ (1 < 0) by omega)) (fun _ => ?_)
  refine q_const (p2 := 41) rfl rfl ?_
  refine q_goto rfl ?_
  refine q_store (loc2 := [(6, 455, 0), (0, 2, 0), (6, n, 0), (0, 0, 0), (0, 0, 0), (0, 1, 0), (0, 1, 0), (6, vB, 0), (6, vA, 0), (11, 0, 0), (11, 0, 0)]) (p2 := 44) rfl rfl rfl rfl rfl ?_
  refine q_load (v := (0, 1, 0)) (p2 := 45) rfl rfl rfl rfl ?_
  refine q_if0_s (p2 := 46) rfl (by decide) (by omega) rfl (fun hb => absurd hb (show ¬ (1 = 0) by omega)) (fun _ => ?_)
  refine q_load (v := (6, vB, 0)) (p2 := 47) rfl rfl rfl rfl ?_
  refine q_getv (v := (2, 1, 0)) (p2 := 48) rfl hW9 (by decide) hg9.2.1 rfl ?_
  refine q_const (p2 := 49) rfl rfl ?_
  refine q_lcif (p2 := 51) rfl rfl (by decide) (by omega) (by omega) rfl (fun hb => absurd hb (show ¬ (¬ (0 < 1)) by omega)) (fun _ => ?_)
  refine q_load (v := (6, vA, 0)) (p2 := 52) rfl rfl rfl rfl ?_
  have hv10 := x_mv_at hvA (fun j hj hne => by have hj2 := x_some_lt hlt0 hne; exact (frn5 j (by omega)))
  obtain ⟨fV11, hW11, hg11⟩ := x_mv_gS hv10 (by decide)
  have hl11 := hlt8 _ _ hW11
  have h6_11 := hv10.1
  refine q_getv (v := (0, 0, 0)) (p2 := 53) rfl hW11 (by decide) hg11.1 rfl ?_
  refine q_if0_s (p2 := 54) rfl (by decide) (by omega) rfl (fun _ => ?_) (fun hb => absurd (show 0 = 0 by omega) hb)
  refine q_const (p2 := 76) rfl rfl ?_
  refine q_store (loc2 := [(6, 455, 0), (0, 2, 0), (6, n, 0), (0, 0, 0), (0, 0, 0), (0, 0, 0), (0, 1, 0), (6, vB, 0), (6, vA, 0), (11, 0, 0), (11, 0, 0)]) (p2 := 77) rfl rfl rfl rfl rfl ?_
  refine q_load (v := (6, vA, 0)) (p2 := 78) rfl rfl rfl rfl ?_
  refine q_getv (v := (0, 0, 0)) (p2 := 79) rfl hW11 (by decide) hg11.1 rfl ?_
  refine q_store (loc2 := [(6, 455, 0), (0, 2, 0), (6, n, 0), (0, 0, 0), (0, 0, 0), (0, 0, 0), (0, 1, 0), (6, vB, 0), (6, vA, 0), (11, 0, 0), (11, 0, 0)]) (p2 := 80) rfl rfl rfl rfl rfl ?_
  refine q_const (p2 := 81) rfl rfl ?_
  refine q_store2 (loc2 := [(6, 455, 0), (0, 2, 0), (6, n, 0), (0, 0, 0), (0, 0, 0), (0, 0, 0), (0, 1, 0), (6, vB, 0), (6, vA, 0), (2, 0, 0), (11, 0, 0)]) (p2 := 82) rfl rfl rfl rfl rfl ?_
  refine q_load (v := (0, 0, 0)) (p2 := 83) rfl rfl rfl rfl ?_
  refine q_if0_s (p2 := 84) rfl (by decide) (by omega) rfl (fun _ => ?_) (fun hb => absurd (show 0 = 0 by omega) hb)
  refine q_iinc (z := 0) (loc2 := [(6, 455, 0), (0, 2, 0), (6, n, 0), (0, 0, 0), (0, 0, 0), (0, 0, 0), (0, 0, 0), (6, vB, 0), (6, vA, 0), (2, 0, 0), (11, 0, 0)]) (p2 := 105) rfl rfl (by decide) rfl rfl ?_
  refine q_goto rfl ?_
  refine q_load (v := (0, 0, 0)) (p2 := 14) rfl rfl rfl rfl ?_
  refine q_if0_s (p2 := 15) rfl (by decide) (by omega) rfl (fun hb => absurd hb (show ¬ (0 < 0) by omega)) (fun _ => ?_)
  refine q_load (v := (6, 455, 0)) (p2 := 16) rfl rfl rfl rfl ?_
  refine q_const (p2 := 17) rfl rfl ?_
  refine q_load (v := (0, 0, 0)) (p2 := 18) rfl rfl rfl rfl ?_
  refine q_iop (w := 2 * 0) (z := 0) (p2 := 19) rfl (xo_mul 2 0) (by decide) rfl ?_
  refine q_callr (xs := [(0, 0, 0), (6, 455, 0)]) (p2 := 20) rfl rfl rfl rfl (x_rcv_s 455 (x_KS_455 hm6)) rfl (e_below (k := 0) hm6.1.choose_spec hm6.2.1 (by omega) (by omega)) (Nat.le_refl _) (Nat.le_refl _) rfl ?_
  rw [show st (4 - 1 - 0) = vD from hsD]
  refine q_store (loc2 := [(6, 455, 0), (0, 2, 0), (6, n, 0), (0, 0, 0), (0, 0, 0), (0, 0, 0), (0, 0, 0), (6, vD, 0), (6, vA, 0), (2, 0, 0), (11, 0, 0)]) (p2 := 21) rfl rfl rfl rfl rfl ?_
  refine q_load (v := (6, 455, 0)) (p2 := 22) rfl rfl rfl rfl ?_
  refine q_const (p2 := 23) rfl rfl ?_
  refine q_load (v := (0, 0, 0)) (p2 := 24) rfl rfl rfl rfl ?_
  refine q_iop (w := 2 * 0) (z := 0) (p2 := 25) rfl (xo_mul 2 0) (by decide) rfl ?_
  refine q_const (p2 := 26) rfl rfl ?_
  refine q_iop (w := 0 + 1) (z := 1) (p2 := 27) rfl (xo_add 0 1) (by decide) rfl ?_
  refine q_callr (xs := [(0, 1, 0), (6, 455, 0)]) (p2 := 28) rfl rfl rfl rfl (x_rcv_s 455 (x_KS_455 hm6)) rfl (e_below (k := 1) hm6.1.choose_spec hm6.2.1 (by omega) (by omega)) (Nat.le_refl _) (Nat.le_refl _) rfl ?_
  rw [show st (4 - 1 - 1) = vC from hsC]
  refine q_store (loc2 := [(6, 455, 0), (0, 2, 0), (6, n, 0), (0, 0, 0), (0, 0, 0), (0, 0, 0), (0, 0, 0), (6, vD, 0), (6, vC, 0), (2, 0, 0), (11, 0, 0)]) (p2 := 29) rfl rfl rfl rfl rfl ?_
  refine q_load (v := (0, 0, 0)) (p2 := 30) rfl rfl rfl rfl ?_
  refine q_if0_s (p2 := 31) rfl (by decide) (by omega) rfl (fun _ => ?_) (fun hb => absurd (show 0 = 0 by omega) hb)
  refine q_const (p2 := 43) rfl rfl ?_
  refine q_store (loc2 := [(6, 455, 0), (0, 2, 0), (6, n, 0), (0, 0, 0), (0, 0, 0), (0, 0, 0), (0, 0, 0), (6, vD, 0), (6, vC, 0), (2, 0, 0), (11, 0, 0)]) (p2 := 44) rfl rfl rfl rfl rfl ?_
  refine q_load (v := (0, 0, 0)) (p2 := 45) rfl rfl rfl rfl ?_
  refine q_if0_s (p2 := 46) rfl (by decide) (by omega) rfl (fun _ => ?_) (fun hb => absurd (show 0 = 0 by omega) hb)
  refine q_iinc (z := 4294967295) (loc2 := [(6, 455, 0), (0, 2, 0), (6, n, 0), (0, 0, 0), (0, 0, 0), (0, 0, 0), (0, 4294967295, 0), (6, vD, 0), (6, vC, 0), (2, 0, 0), (11, 0, 0)]) (p2 := 105) rfl rfl (by decide) rfl rfl ?_
  refine q_goto rfl ?_
  refine q_load (v := (0, 4294967295, 0)) (p2 := 14) rfl rfl rfl rfl ?_
  refine q_if0 (p2 := 15) rfl (by decide) rfl (fun _ => ?_) (fun hb => absurd (show 2147483647 < 2147483648 by decide) hb)
  refine q_load (v := (6, 455, 0)) (p2 := 107) rfl rfl rfl rfl ?_
  refine q_const (p2 := 108) rfl rfl ?_
  refine q_load (v := (6, 455, 0)) (p2 := 109) rfl rfl rfl rfl ?_
  refine q_getv (v := (0, 4, 0)) (p2 := 110) rfl (x_KS_455 hm6) (by decide) hm6.1.choose_spec.2.2.2.2.2.1 rfl ?_
  refine q_const (p2 := 111) rfl rfl ?_
  refine q_load (v := (0, 2, 0)) (p2 := 112) rfl rfl rfl rfl ?_
  refine q_iop (w := 2 * 2) (z := 4) (p2 := 113) rfl (xo_mul 2 2) (by decide) rfl ?_
  refine q_iop (w := 4 + (4294967296 - 4 % 4294967296)) (z := 0) (p2 := 114) rfl (xo_sub 4 4) (by decide) rfl ?_
  refine q_max_t (p2 := 115) rfl rfl (by omega) (by omega) rfl ?_
  refine q_putfE (v := (0, 0, 0)) (p2 := 116) rfl (x_KS_455 hm6) (by decide) rfl rfl (fun φ12 f12 hh12 hg12 ho12 fr12 => ?_)
  have hs12 := x_KS_put_4 hm6 hh12 hg12 ho12 fr12
  refine q_load (v := (6, 455, 0)) (p2 := 117) rfl rfl rfl rfl ?_
  refine q_load (v := (0, 0, 0)) (p2 := 118) rfl rfl rfl rfl ?_
  refine q_if0_s (p2 := 119) rfl (by decide) (by omega) rfl (fun _ => ?_) (fun hb => absurd (show 0 = 0 by omega) hb)
  refine q_load (v := (6, 455, 0)) (p2 := 131) rfl rfl rfl rfl ?_
  refine q_getv (v := (6, 225, 0)) (p2 := 132) rfl (x_KS_455 hs12) (by decide) hs12.1.choose_spec.2.2.2.1 rfl ?_
  refine x_n_lt (fun hlt14 => ?_)
  have hv13 := x_mv_at hN (fun j hj hne => by have hj2 := x_some_lt hlt0 hne; exact ((fr12 j (by omega)).trans (frn5 j (by omega))))
  refine q_callvE (xs := [(6, 225, 0), (6, 455, 0)]) (p2 := 133) rfl rfl rfl rfl (x_rcv_s 455 (x_KS_455 hs12)) rfl (k_push hs12 hv13 (by omega)) (Nat.le_refl _) (Nat.le_refl _) rfl (fun φ15 hR15 => ?_)
  obtain ⟨hK15, frn15⟩ := hR15
  refine x_n_lt (fun hlt17 => ?_)
  have hv16 := x_mv_at hv13 (fun j hj hne => by have hj2 := x_some_lt hlt14 hne; exact (frn15 j (by omega)))
  exact q_ret rfl (⟨rfl, ⟨by omega, by omega⟩, ⟨by omega, by omega⟩, 225, hK15, hv16, fun j hj1 hj2 => ((frn15 j (by omega)).trans ((fr12 j (by omega)).trans (frn5 j (by omega))))⟩)
set_option maxHeartbeats 1000000 in
theorem zc_klist_00 {d n sl : Nat} {φ : FH} {fr pc_ mm mi : Nat} {st lo re rs fl se co : Nat → Nat} {vA vB vC vD a b : Nat} (hKS : x_KS φ 4 fr pc_ mm mi st lo re rs fl se co) (hN : x_mv φ 225 MV0) (hsA : st 0 = vA) (hsB : st 1 = vB) (hsC : st 2 = vC) (hsD : st 3 = vD) (hvA : x_mv φ vA MV0) (hvB : x_mv φ vB (1, 1, 0, 0, [])) (hvC : x_mv φ vC MV0) (hvD : x_mv φ vD (1, 1, 0, 0, [])) (ha : a < 2147483648) (hb : b < 2147483648) (hn0 : 486 ≤ n) : x_f x_P (d + 2) 184 [(6, 455, 0), (0, 2, 0), (11, 0, 0), (11, 0, 0), (11, 0, 0), (11, 0, 0), (11, 0, 0), (11, 0, 0), (11, 0, 0), (11, 0, 0), (11, 0, 0)] φ n sl (x_bV n sl 1 24 (fun φ2 => ∃ v, x_KS φ2 1 fr pc_ mm mi (x_s st 0 v) lo re rs fl se co ∧ x_mv φ2 v MV0 ∧ ∀ j, j < n → (j < 455 ∨ 466 ≤ j) → φ2 j = φ j)) := by
  refine x_f_of rfl ?_
  refine x_n_lt (fun hlt0 => ?_)
  have hz1 := x_mv_lt hvA hlt0
  have hy1 := hvA.1
  have hz2 := x_mv_lt hvB hlt0
  have hy2 := hvB.1
  have hz3 := x_mv_lt hvC hlt0
  have hy3 := hvC.1
  have hz4 := x_mv_lt hvD hlt0
  have hy4 := hvD.1
  refine q_const (p2 := 1) rfl rfl ?_
  refine q_newaE (p2 := 2) rfl (by omega) rfl (fun φ5 hh5 frn5 => ?_)
  refine q_store (loc2 := [(6, 455, 0), (0, 2, 0), (6, n, 0), (11, 0, 0), (11, 0, 0), (11, 0, 0), (11, 0, 0), (11, 0, 0), (11, 0, 0), (11, 0, 0), (11, 0, 0)]) (p2 := 3) rfl rfl rfl rfl rfl ?_
  refine q_const (p2 := 4) rfl rfl ?_
  refine q_store (loc2 := [(6, 455, 0), (0, 2, 0), (6, n, 0), (0, 0, 0), (11, 0, 0), (11, 0, 0), (11, 0, 0), (11, 0, 0), (11, 0, 0), (11, 0, 0), (11, 0, 0)]) (p2 := 5) rfl rfl rfl rfl rfl ?_
  refine q_const (p2 := 6) rfl rfl ?_
  refine q_store (loc2 := [(6, 455, 0), (0, 2, 0), (6, n, 0), (0, 0, 0), (0, 0, 0), (11, 0, 0), (11, 0, 0), (11, 0, 0), (11, 0, 0), (11, 0, 0), (11, 0, 0)]) (p2 := 7) rfl rfl rfl rfl rfl ?_
  refine q_const (p2 := 8) rfl rfl ?_
  refine q_store (loc2 := [(6, 455, 0), (0, 2, 0), (6, n, 0), (0, 0, 0), (0, 0, 0), (0, 1, 0), (11, 0, 0), (11, 0, 0), (11, 0, 0), (11, 0, 0), (11, 0, 0)]) (p2 := 9) rfl rfl rfl rfl rfl ?_
  refine q_load (v := (0, 2, 0)) (p2 := 10) rfl rfl rfl rfl ?_
  refine q_const (p2 := 11) rfl rfl ?_
  refine q_iop (w := 2 + (4294967296 - 1 % 4294967296)) (z := 1) (p2 := 12) rfl (xo_sub 2 1) (by decide) rfl ?_
  refine q_store (loc2 := [(6, 455, 0), (0, 2, 0), (6, n, 0), (0, 0, 0), (0, 0, 0), (0, 1, 0), (0, 1, 0), (11, 0, 0), (11, 0, 0), (11, 0, 0), (11, 0, 0)]) (p2 := 13) rfl rfl rfl rfl rfl ?_
  refine q_load (v := (0, 1, 0)) (p2 := 14) rfl rfl rfl rfl ?_
  refine q_if0_s (p2 := 15) rfl (by decide) (by omega) rfl (fun hb => absurd hb (show ¬ (1 < 0) by omega)) (fun _ => ?_)
  refine q_load (v := (6, 455, 0)) (p2 := 16) rfl rfl rfl rfl ?_
  refine q_const (p2 := 17) rfl rfl ?_
  refine q_load (v := (0, 1, 0)) (p2 := 18) rfl rfl rfl rfl ?_
  refine q_iop (w := 2 * 1) (z := 2) (p2 := 19) rfl (xo_mul 2 1) (by decide) rfl ?_
  have hm6 := (x_KS_at2 hKS (fun j h1 h2 h3 h4 => (frn5 j (by omega))))
  refine q_callr (xs := [(0, 2, 0), (6, 455, 0)]) (p2 := 20) rfl rfl rfl rfl (x_rcv_s 455 (x_KS_455 hm6)) rfl (e_below (k := 2) hm6.1.choose_spec hm6.2.1 (by omega) (by omega)) (Nat.le_refl _) (Nat.le_refl _) rfl ?_
  rw [show st (4 - 1 - 2) = vB from hsB]
  refine q_store (loc2 := [(6, 455, 0), (0, 2, 0), (6, n, 0), (0, 0, 0), (0, 0, 0), (0, 1, 0), (0, 1, 0), (6, vB, 0), (11, 0, 0), (11, 0, 0), (11, 0, 0)]) (p2 := 21) rfl rfl rfl rfl rfl ?_
  refine q_load (v := (6, 455, 0)) (p2 := 22) rfl rfl rfl rfl ?_
  refine q_const (p2 := 23) rfl rfl ?_
  refine q_load (v := (0, 1, 0)) (p2 := 24) rfl rfl rfl rfl ?_
  refine q_iop (w := 2 * 1) (z := 2) (p2 := 25) rfl (xo_mul 2 1) (by decide) rfl ?_
  refine q_const (p2 := 26) rfl rfl ?_
  refine q_iop (w := 2 + 1) (z := 3) (p2 := 27) rfl (xo_add 2 1) (by decide) rfl ?_
  refine q_callr (xs := [(0, 3, 0), (6, 455, 0)]) (p2 := 28) rfl rfl rfl rfl (x_rcv_s 455 (x_KS_455 hm6)) rfl (e_below (k := 3) hm6.1.choose_spec hm6.2.1 (by omega) (by omega)) (Nat.le_refl _) (Nat.le_refl _) rfl ?_
  rw [show st (4 - 1 - 3) = vA from hsA]
  refine q_store (loc2 := [(6, 455, 0), (0, 2, 0), (6, n, 0), (0, 0, 0), (0, 0, 0), (0, 1, 0), (0, 1, 0), (6, vB, 0), (6, vA, 0), (11, 0, 0), (11, 0, 0)]) (p2 := 29) rfl rfl rfl rfl rfl ?_
  refine q_load (v := (0, 1, 0)) (p2 := 30) rfl rfl rfl rfl ?_
  refine q_if0_s (p2 := 31) rfl (by decide) (by omega) rfl (fun hb => absurd hb (show ¬ (1 = 0) by omega)) (fun _ => ?_)
  refine q_load (v := (6, vB, 0)) (p2 := 32) rfl rfl rfl rfl ?_
  refine x_n_lt (fun hlt8 => ?_)
  have hv7 := x_mv_at hvB (fun j hj hne => by have hj2 := x_some_lt hlt0 hne; exact (frn5 j (by omega)))
  obtain ⟨fV9, hW9, hg9⟩ := x_mv_gS hv7 (by decide)
  have hl9 := hlt8 _ _ hW9
  have h6_9 := hv7.1
  refine q_getv (v := (0, 1, 0)) (p2 := 33) rfl hW9 (by decide) hg9.1 rfl ?_
  refine q_const (p2 := 34) rfl rfl ?_
  refine q_icmp_s (p2 := 35) rfl (by decide) (by omega) (by omega) rfl (fun hb => absurd hb (show ¬ (¬ (1 = 1)) by omega)) (fun _ => ?_)
  refine q_load (v := (6, vB, 0)) (p2 := 36) rfl rfl rfl rfl ?_
  refine q_getv (v := (2, 1, 0)) (p2 := 37) rfl hW9 (by decide) hg9.2.1 rfl ?_
  refine q_const (p2 := 38) rfl rfl ?_
  refine q_lcif (p2 := 40) rfl rfl (by decide) (by omega) (by omega) rfl (fun hb => absurd hb (show ¬ (1 < 0) by omega)) (fun _ => ?_)
  refine q_const (p2 := 41) rfl rfl ?_
  refine q_goto rfl ?_
  refine q_store (loc2 := [(6, 455, 0), (0, 2, 0), (6, n, 0), (0, 0, 0), (0, 0, 0), (0, 1, 0), (0, 1, 0), (6, vB, 0), (6, vA, 0), (11, 0, 0), (11, 0, 0)]) (p2 := 44) rfl rfl rfl rfl rfl ?_
  refine q_load (v := (0, 1, 0)) (p2 := 45) rfl rfl rfl rfl ?_
  refine q_if0_s (p2 := 46) rfl (by decide) (by omega) rfl (fun hb => absurd hb (show ¬ (1 = 0) by omega)) (fun _ => ?_)
  refine q_load (v := (6, vB, 0)) (p2 := 47) rfl rfl rfl rfl ?_
  refine q_getv (v := (2, 1, 0)) (p2 := 48) rfl hW9 (by decide) hg9.2.1 rfl ?_
  refine q_const (p2 := 49) rfl rfl ?_
  refine q_lcif (p2 := 51) rfl rfl (by decide) (by omega) (by omega) rfl (fun hb => absurd hb (show ¬ (¬ (0 < 1)) by omega)) (fun _ => ?_)
  refine q_load (v := (6, vA, 0)) (p2 := 52) rfl rfl rfl rfl ?_
  have hv10 := x_mv_at hvA (fun j hj hne => by have hj2 := x_some_lt hlt0 hne; exact (frn5 j (by omega)))
  obtain ⟨fV11, hW11, hg11⟩ := x_mv_gS hv10 (by decide)
  have hl11 := hlt8 _ _ hW11
  have h6_11 := hv10.1
  refine q_getv (v := (0, 0, 0)) (p2 := 53) rfl hW11 (by decide) hg11.1 rfl ?_
  refine q_if0_s (p2 := 54) rfl (by decide) (by omega) rfl (fun _ => ?_) (fun hb => absurd (show 0 = 0 by omega) hb)
  refine q_const (p2 := 76) rfl rfl ?_
  refine q_store (loc2 := [(6, 455, 0), (0, 2, 0), (6, n, 0), (0, 0, 0), (0, 0, 0), (0, 0, 0), (0, 1, 0), (6, vB, 0), (6, vA, 0), (11, 0, 0), (11, 0, 0)]) (p2 := 77) rfl rfl rfl rfl rfl ?_
  refine q_load (v := (6, vA, 0)) (p2 := 78) rfl rfl rfl rfl ?_
  refine q_getv (v := (0, 0, 0)) (p2 := 79) rfl hW11 (by decide) hg11.1 rfl ?_
  refine q_store (loc2 := [(6, 455, 0), (0, 2, 0), (6, n, 0), (0, 0, 0), (0, 0, 0), (0, 0, 0), (0, 1, 0), (6, vB, 0), (6, vA, 0), (11, 0, 0), (11, 0, 0)]) (p2 := 80) rfl rfl rfl rfl rfl ?_
  refine q_const (p2 := 81) rfl rfl ?_
  refine q_store2 (loc2 := [(6, 455, 0), (0, 2, 0), (6, n, 0), (0, 0, 0), (0, 0, 0), (0, 0, 0), (0, 1, 0), (6, vB, 0), (6, vA, 0), (2, 0, 0), (11, 0, 0)]) (p2 := 82) rfl rfl rfl rfl rfl ?_
  refine q_load (v := (0, 0, 0)) (p2 := 83) rfl rfl rfl rfl ?_
  refine q_if0_s (p2 := 84) rfl (by decide) (by omega) rfl (fun _ => ?_) (fun hb => absurd (show 0 = 0 by omega) hb)
  refine q_iinc (z := 0) (loc2 := [(6, 455, 0), (0, 2, 0), (6, n, 0), (0, 0, 0), (0, 0, 0), (0, 0, 0), (0, 0, 0), (6, vB, 0), (6, vA, 0), (2, 0, 0), (11, 0, 0)]) (p2 := 105) rfl rfl (by decide) rfl rfl ?_
  refine q_goto rfl ?_
  refine q_load (v := (0, 0, 0)) (p2 := 14) rfl rfl rfl rfl ?_
  refine q_if0_s (p2 := 15) rfl (by decide) (by omega) rfl (fun hb => absurd hb (show ¬ (0 < 0) by omega)) (fun _ => ?_)
  refine q_load (v := (6, 455, 0)) (p2 := 16) rfl rfl rfl rfl ?_
  refine q_const (p2 := 17) rfl rfl ?_
  refine q_load (v := (0, 0, 0)) (p2 := 18) rfl rfl rfl rfl ?_
  refine q_iop (w := 2 * 0) (z := 0) (p2 := 19) rfl (xo_mul 2 0) (by decide) rfl ?_
  refine q_callr (xs := [(0, 0, 0), (6, 455, 0)]) (p2 := 20) rfl rfl rfl rfl (x_rcv_s 455 (x_KS_455 hm6)) rfl (e_below (k := 0) hm6.1.choose_spec hm6.2.1 (by omega) (by omega)) (Nat.le_refl _) (Nat.le_refl _) rfl ?_
  rw [show st (4 - 1 - 0) = vD from hsD]
  refine q_store (loc2 := [(6, 455, 0), (0, 2, 0), (6, n, 0), (0, 0, 0), (0, 0, 0), (0, 0, 0), (0, 0, 0), (6, vD, 0), (6, vA, 0), (2, 0, 0), (11, 0, 0)]) (p2 := 21) rfl rfl rfl rfl rfl ?_
  refine q_load (v := (6, 455, 0)) (p2 := 22) rfl rfl rfl rfl ?_
  refine q_const (p2 := 23) rfl rfl ?_
  refine q_load (v := (0, 0, 0)) (p2 := 24) rfl rfl rfl rfl ?_
  refine q_iop (w := 2 * 0) (z := 0) (p2 := 25) rfl (xo_mul 2 0) (by decide) rfl ?_
  refine q_const (p2 := 26) rfl rfl ?_
  refine q_iop (w := 0 + 1) (z := 1) (p2 := 27) rfl (xo_add 0 1) (by decide) rfl ?_
  refine q_callr (xs := [(0, 1, 0), (6, 455, 0)]) (p2 := 28) rfl rfl rfl rfl (x_rcv_s 455 (x_KS_455 hm6)) rfl (e_below (k := 1) hm6.1.choose_spec hm6.2.1 (by omega) (by omega)) (Nat.le_refl _) (Nat.le_refl _) rfl ?_
  rw [show st (4 - 1 - 1) = vC from hsC]
  refine q_store (loc2 := [(6, 455, 0), (0, 2, 0), (6, n, 0), (0, 0, 0), (0, 0, 0), (0, 0, 0), (0, 0, 0), (6, vD, 0), (6, vC, 0), (2, 0, 0), (11, 0, 0)]) (p2 := 29) rfl rfl rfl rfl rfl ?_
  refine q_load (v := (0, 0, 0)) (p2 := 30) rfl rfl rfl rfl ?_
  refine q_if0_s (p2 := 31) rfl (by decide) (by omega) rfl (fun _ => ?_) (fun hb => absurd (show 0 = 0 by omega) hb)
  refine q_const (p2 := 43) rfl rfl ?_
  refine q_store (loc2 := [(6, 455, 0), (0, 2, 0), (6, n, 0), (0, 0, 0), (0, 0, 0), (0, 0, 0), (0, 0, 0), (6, vD, 0), (6, vC, 0), (2, 0, 0), (11, 0, 0)]) (p2 := 44) rfl rfl rfl rfl rfl ?_
  refine q_load (v := (0, 0, 0)) (p2 := 45) rfl rfl rfl rfl ?_
  refine q_if0_s (p2 := 46) rfl (by decide) (by omega) rfl (fun _ => ?_) (fun hb => absurd (show 0 = 0 by omega) hb)
  refine q_iinc (z := 4294967295) (loc2 := [(6, 455, 0), (0, 2, 0), (6, n, 0), (0, 0, 0), (0, 0, 0), (0, 0, 0), (0, 4294967295, 0), (6, vD, 0), (6, vC, 0), (2, 0, 0), (11, 0, 0)]) (p2 := 105) rfl rfl (by decide) rfl rfl ?_
  refine q_goto rfl ?_
  refine q_load (v := (0, 4294967295, 0)) (p2 := 14) rfl rfl rfl rfl ?_
  refine q_if0 (p2 := 15) rfl (by decide) rfl (fun _ => ?_) (fun hb => absurd (show 2147483647 < 2147483648 by decide) hb)
  refine q_load (v := (6, 455, 0)) (p2 := 107) rfl rfl rfl rfl ?_
  refine q_const (p2 := 108) rfl rfl ?_
  refine q_load (v := (6, 455, 0)) (p2 := 109) rfl rfl rfl rfl ?_
  refine q_getv (v := (0, 4, 0)) (p2 := 110) rfl (x_KS_455 hm6) (by decide) hm6.1.choose_spec.2.2.2.2.2.1 rfl ?_
  refine q_const (p2 := 111) rfl rfl ?_
  refine q_load (v := (0, 2, 0)) (p2 := 112) rfl rfl rfl rfl ?_
  refine q_iop (w := 2 * 2) (z := 4) (p2 := 113) rfl (xo_mul 2 2) (by decide) rfl ?_
  refine q_iop (w := 4 + (4294967296 - 4 % 4294967296)) (z := 0) (p2 := 114) rfl (xo_sub 4 4) (by decide) rfl ?_
  refine q_max_t (p2 := 115) rfl rfl (by omega) (by omega) rfl ?_
  refine q_putfE (v := (0, 0, 0)) (p2 := 116) rfl (x_KS_455 hm6) (by decide) rfl rfl (fun φ12 f12 hh12 hg12 ho12 fr12 => ?_)
  have hs12 := x_KS_put_4 hm6 hh12 hg12 ho12 fr12
  refine q_load (v := (6, 455, 0)) (p2 := 117) rfl rfl rfl rfl ?_
  refine q_load (v := (0, 0, 0)) (p2 := 118) rfl rfl rfl rfl ?_
  refine q_if0_s (p2 := 119) rfl (by decide) (by omega) rfl (fun _ => ?_) (fun hb => absurd (show 0 = 0 by omega) hb)
  refine q_load (v := (6, 455, 0)) (p2 := 131) rfl rfl rfl rfl ?_
  refine q_getv (v := (6, 225, 0)) (p2 := 132) rfl (x_KS_455 hs12) (by decide) hs12.1.choose_spec.2.2.2.1 rfl ?_
  refine x_n_lt (fun hlt14 => ?_)
  have hv13 := x_mv_at hN (fun j hj hne => by have hj2 := x_some_lt hlt0 hne; exact ((fr12 j (by omega)).trans (frn5 j (by omega))))
  refine q_callvE (xs := [(6, 225, 0), (6, 455, 0)]) (p2 := 133) rfl rfl rfl rfl (x_rcv_s 455 (x_KS_455 hs12)) rfl (k_push hs12 hv13 (by omega)) (Nat.le_refl _) (Nat.le_refl _) rfl (fun φ15 hR15 => ?_)
  obtain ⟨hK15, frn15⟩ := hR15
  refine x_n_lt (fun hlt17 => ?_)
  have hv16 := x_mv_at hv13 (fun j hj hne => by have hj2 := x_some_lt hlt14 hne; exact (frn15 j (by omega)))
  exact q_ret rfl (⟨rfl, ⟨by omega, by omega⟩, ⟨by omega, by omega⟩, 225, hK15, hv16, fun j hj1 hj2 => ((frn15 j (by omega)).trans ((fr12 j (by omega)).trans (frn5 j (by omega))))⟩)
set_option maxHeartbeats 1000000 in
theorem zc_kcall_5 {d n sl : Nat} {φ : FH} {A : Nat} {B : Nat} {made : Nat} {sv : Nat} {svm : Nat} {s9 : Nat} {comb : Nat → Nat} {hm : Nat → MV} {pc_ : Nat} {mm : Nat} {mi : Nat} {st : Nat → Nat} {lo : Nat → Nat} {re : Nat → Nat} {rs : Nat → Nat} {fl : Nat → Nat} {se : Nat → Nat} {co : Nat → Nat} {w vA : Nat} (hPS : x_PS φ A B made sv svm s9 comb hm) (hKS : x_KS φ 1 1 pc_ mm mi st lo re rs fl se co) (hn0 : 486 ≤ n) (hvA : x_mv φ vA (5, w, 0, 0, [])) (hf0 : st 0 = vA) (hbit : 1 &&& comb w ≠ 0) (hw : w < 512) : x_f x_P (d + 4) 193 [(6, 455, 0), (0, 0, 0), (11, 0, 0), (11, 0, 0), (11, 0, 0), (11, 0, 0), (11, 0, 0), (11, 0, 0)] φ n sl (x_vR n sl (fun φ2 => x_KS φ2 0 2 30 mm mi (x_s st 0 vA) (x_s (x_lo lo 1 32) 32 vA) (x_s re 1 pc_) (x_s rs 1 6) (x_s fl 1 0) (x_s se 1 225) co ∧ x_kf φ φ2)) := by
  refine x_f_of rfl ?_
  refine x_n_lt (fun hlt0 => ?_)
  have hz1 := x_mv_lt hvA hlt0
  have hy1 := hvA.1
  refine q_load (v := (0, 0, 0)) (p2 := 1) rfl rfl rfl rfl ?_
  refine q_if0_s (p2 := 2) rfl (by decide) (by omega) rfl (fun hb => absurd hb (show ¬ (0 < 0) by omega)) (fun _ => ?_)
  refine q_load (v := (0, 0, 0)) (p2 := 3) rfl rfl rfl rfl ?_
  refine q_load (v := (6, 455, 0)) (p2 := 4) rfl rfl rfl rfl ?_
  refine q_getv (v := (6, 7, 0)) (p2 := 5) rfl (x_KS_455 hKS) (by decide) hKS.1.choose_spec.2.1 rfl ?_
  refine q_getv (v := (6, 237, 0)) (p2 := 6) rfl hPS.1.choose_spec.1 (by decide) hPS.1.choose_spec.2.1 rfl ?_
  refine q_getv (v := (6, 441, 0)) (p2 := 7) rfl hKS.2.2.2.2.2.2.2.2.2.1.choose_spec.1 (by decide) hKS.2.2.2.2.2.2.2.2.2.1.choose_spec.2.2.2.2.2.2.2.2.2.2.1 rfl ?_
  refine q_alen (p2 := 8) rfl (x_sc_441 hKS.2.2.2.2.2.2.2.2.2) rfl (by omega) rfl ?_
  refine q_icmp_s (p2 := 9) rfl (by decide) (by omega) (by omega) rfl (fun _ => ?_) (fun hb => absurd (show 0 < 6 by omega) hb)
  refine q_load (v := (6, 455, 0)) (p2 := 15) rfl rfl rfl rfl ?_
  refine q_getv (v := (6, 7, 0)) (p2 := 16) rfl (x_KS_455 hKS) (by decide) hKS.1.choose_spec.2.1 rfl ?_
  refine q_getv (v := (6, 237, 0)) (p2 := 17) rfl hPS.1.choose_spec.1 (by decide) hPS.1.choose_spec.2.1 rfl ?_
  refine q_getv (v := (6, 441, 0)) (p2 := 18) rfl hKS.2.2.2.2.2.2.2.2.2.1.choose_spec.1 (by decide) hKS.2.2.2.2.2.2.2.2.2.1.choose_spec.2.2.2.2.2.2.2.2.2.2.1 rfl ?_
  refine q_load (v := (0, 0, 0)) (p2 := 19) rfl rfl rfl rfl ?_
  refine q_aldv (v := (6, 442, 0)) (p2 := 20) rfl (x_sc_441 hKS.2.2.2.2.2.2.2.2.2) (by omega) (by omega) rfl rfl ?_
  refine q_store (loc2 := [(6, 455, 0), (0, 0, 0), (6, 442, 0), (11, 0, 0), (11, 0, 0), (11, 0, 0), (11, 0, 0), (11, 0, 0)]) (p2 := 21) rfl rfl rfl rfl rfl ?_
  refine q_load (v := (6, 442, 0)) (p2 := 22) rfl rfl rfl rfl ?_
  refine q_const (p2 := 23) rfl rfl ?_
  refine q_aldv (v := (0, 1, 0)) (p2 := 24) rfl (x_sc_442 hKS.2.2.2.2.2.2.2.2.2) (by omega) (by omega) rfl rfl ?_
  refine q_store (loc2 := [(6, 455, 0), (0, 0, 0), (6, 442, 0), (0, 1, 0), (11, 0, 0), (11, 0, 0), (11, 0, 0), (11, 0, 0)]) (p2 := 25) rfl rfl rfl rfl rfl ?_
  refine q_const (p2 := 26) rfl rfl ?_
  refine q_store (loc2 := [(6, 455, 0), (0, 0, 0), (6, 442, 0), (0, 1, 0), (0, 1, 0), (11, 0, 0), (11, 0, 0), (11, 0, 0)]) (p2 := 27) rfl rfl rfl rfl rfl ?_
  refine q_const (p2 := 28) rfl rfl ?_
  refine q_store (loc2 := [(6, 455, 0), (0, 0, 0), (6, 442, 0), (0, 1, 0), (0, 1, 0), (0, 0, 0), (11, 0, 0), (11, 0, 0)]) (p2 := 29) rfl rfl rfl rfl rfl ?_
  refine q_load (v := (0, 0, 0)) (p2 := 30) rfl rfl rfl rfl ?_
  refine q_load (v := (0, 1, 0)) (p2 := 31) rfl rfl rfl rfl ?_
  refine q_icmp_s (p2 := 32) rfl (by decide) (by omega) (by omega) rfl (fun hb => absurd hb (show ¬ (¬ (0 < 1)) by omega)) (fun _ => ?_)
  refine q_load (v := (6, 455, 0)) (p2 := 33) rfl rfl rfl rfl ?_
  refine q_getv (v := (0, 1, 0)) (p2 := 34) rfl (x_KS_455 hKS) (by decide) hKS.1.choose_spec.2.2.2.2.2.1 rfl ?_
  refine q_load (v := (0, 1, 0)) (p2 := 35) rfl rfl rfl rfl ?_
  refine q_iop (w := 1 + (4294967296 - 1 % 4294967296)) (z := 0) (p2 := 36) rfl (xo_sub 1 1) (by decide) rfl ?_
  refine q_load (v := (0, 0, 0)) (p2 := 37) rfl rfl rfl rfl ?_
  refine q_iop (w := 0 + 0) (z := 0) (p2 := 38) rfl (xo_add 0 0) (by decide) rfl ?_
  refine q_store (loc2 := [(6, 455, 0), (0, 0, 0), (6, 442, 0), (0, 1, 0), (0, 1, 0), (0, 0, 0), (0, 0, 0), (11, 0, 0)]) (p2 := 39) rfl rfl rfl rfl rfl ?_
  refine q_load (v := (6, 442, 0)) (p2 := 40) rfl rfl rfl rfl ?_
  refine q_const (p2 := 41) rfl rfl ?_
  refine q_load (v := (0, 0, 0)) (p2 := 42) rfl rfl rfl rfl ?_
  refine q_iop (w := 3 + 0) (z := 3) (p2 := 43) rfl (xo_add 3 0) (by decide) rfl ?_
  refine q_aldv (v := (0, 5, 0)) (p2 := 44) rfl (x_sc_442 hKS.2.2.2.2.2.2.2.2.2) (by omega) (by omega) rfl rfl ?_
  refine q_store (loc2 := [(6, 455, 0), (0, 0, 0), (6, 442, 0), (0, 1, 0), (0, 1, 0), (0, 0, 0), (0, 0, 0), (0, 5, 0)]) (p2 := 45) rfl rfl rfl rfl rfl ?_
  refine q_load (v := (0, 0, 0)) (p2 := 46) rfl rfl rfl rfl ?_
  refine q_if0_s (p2 := 47) rfl (by decide) (by omega) rfl (fun hb => absurd hb (show ¬ (0 < 0) by omega)) (fun _ => ?_)
  refine q_load (v := (0, 0, 0)) (p2 := 48) rfl rfl rfl rfl ?_
  refine q_load (v := (6, 455, 0)) (p2 := 49) rfl rfl rfl rfl ?_
  refine q_getv (v := (6, 456, 0)) (p2 := 50) rfl (x_KS_455 hKS) (by decide) hKS.1.choose_spec.2.2.2.2.1 rfl ?_
  refine q_alen (p2 := 51) rfl hKS.2.1 rfl (by omega) rfl ?_
  refine q_icmp_s (p2 := 52) rfl (by decide) (by omega) (by omega) rfl (fun hb => absurd hb (show ¬ (¬ (0 < 4096)) by omega)) (fun _ => ?_)
  refine q_load (v := (6, 455, 0)) (p2 := 53) rfl rfl rfl rfl ?_
  refine q_getv (v := (6, 456, 0)) (p2 := 54) rfl (x_KS_455 hKS) (by decide) hKS.1.choose_spec.2.2.2.2.1 rfl ?_
  refine q_load (v := (0, 0, 0)) (p2 := 55) rfl rfl rfl rfl ?_
  refine q_load (v := (6, 455, 0)) (p2 := 56) rfl rfl rfl rfl ?_
  refine q_getv (v := (6, 7, 0)) (p2 := 57) rfl (x_KS_455 hKS) (by decide) hKS.1.choose_spec.2.1 rfl ?_
  refine q_load (v := (6, 455, 0)) (p2 := 58) rfl rfl rfl rfl ?_
  refine q_getv (v := (6, 456, 0)) (p2 := 59) rfl (x_KS_455 hKS) (by decide) hKS.1.choose_spec.2.2.2.2.1 rfl ?_
  refine q_load (v := (0, 0, 0)) (p2 := 60) rfl rfl rfl rfl ?_
  refine q_aldT (tag := 6) (v := vA) (p2 := 61) rfl hKS.2.1 (by omega) (by omega) hf0 rfl ?_
  refine q_load (v := (0, 5, 0)) (p2 := 62) rfl rfl rfl rfl ?_
  obtain ⟨fV2, hW2, hg2⟩ := x_mv_gS hvA (by decide)
  have hl2 := hlt0 _ _ hW2
  have h6_2 := hvA.1
  refine q_callr (xs := [(0, 5, 0), (6, vA, 0), (6, 7, 0)]) (p2 := 63) rfl rfl rfl rfl (x_rcv_s 7 hPS.1.choose_spec.1) rfl (e_conv_5 hPS.1.choose_spec hW2 hg2 (by decide) (by omega) hKS.2.2.2.2.2.2.2.2.2) (Nat.le_refl _) (Nat.le_refl _) rfl ?_
  refine q_astE (v := (6, vA, 0)) (w := (6, vA, 0)) (p2 := 64) rfl hKS.2.1 (by omega) (by omega) (x_ok_r hW2 rfl) (x_nv_same rfl (by decide)) rfl (fun φ3 f3 hh3 hg3 ho3 fr3 => ?_)
  have hs3 := x_KS_st_456 hKS hh3 hg3 ho3 fr3
  refine q_load (v := (0, 1, 0)) (p2 := 65) rfl rfl rfl rfl ?_
  refine q_if0_s (p2 := 66) rfl (by decide) (by omega) rfl (fun hb => absurd hb (show ¬ (1 = 0) by omega)) (fun _ => ?_)
  refine q_load (v := (6, 455, 0)) (p2 := 67) rfl rfl rfl rfl ?_
  refine q_getv (v := (6, 7, 0)) (p2 := 68) rfl (x_KS_455 hs3) (by decide) hs3.1.choose_spec.2.1 rfl ?_
  refine q_load (v := (6, 455, 0)) (p2 := 69) rfl rfl rfl rfl ?_
  refine q_getv (v := (6, 456, 0)) (p2 := 70) rfl (x_KS_455 hs3) (by decide) hs3.1.choose_spec.2.2.2.2.1 rfl ?_
  refine q_load (v := (0, 0, 0)) (p2 := 71) rfl rfl rfl rfl ?_
  refine q_aldT (tag := 6) (v := vA) (p2 := 72) rfl hs3.2.1 (by omega) (by omega) (x_s_eq) rfl ?_
  refine q_load (v := (0, 5, 0)) (p2 := 73) rfl rfl rfl rfl ?_
  refine x_n_lt (fun hlt5 => ?_)
  have hm4 := (x_PS_at hPS (fun j hj hne => by have hj2 := x_some_lt hlt0 hne; exact (fr3 j (by omega))))
  refine q_callr (xs := [(0, 5, 0), (6, vA, 0), (6, 7, 0)]) (p2 := 74) rfl rfl rfl rfl (x_rcv_s 7 hm4.1.choose_spec.1) rfl (x_r_yes (e_fits_5 hm4.1.choose_spec hm4.2.1 ((fr3 vA (by omega)).trans hW2) hg2 (by decide) (by omega) hs3.2.2.2.2.2.2.2.2.2 (Or.inr rfl) (by omega)) (Or.inr hbit)) (Nat.le_refl _) (Nat.le_refl _) rfl ?_
  refine q_if0_s (p2 := 75) rfl (by decide) (by omega) rfl (fun hb => absurd hb (show ¬ (1 = 0) by omega)) (fun _ => ?_)
  refine q_const (p2 := 76) rfl rfl ?_
  refine q_goto rfl ?_
  refine q_store (loc2 := [(6, 455, 0), (0, 0, 0), (6, 442, 0), (0, 1, 0), (0, 1, 0), (0, 0, 0), (0, 0, 0), (0, 5, 0)]) (p2 := 79) rfl rfl rfl rfl rfl ?_
  refine q_iinc (z := 1) (loc2 := [(6, 455, 0), (0, 0, 0), (6, 442, 0), (0, 1, 0), (0, 1, 0), (0, 1, 0), (0, 0, 0), (0, 5, 0)]) (p2 := 80) rfl rfl (by decide) rfl rfl ?_
  refine q_goto rfl ?_
  refine q_load (v := (0, 1, 0)) (p2 := 30) rfl rfl rfl rfl ?_
  refine q_load (v := (0, 1, 0)) (p2 := 31) rfl rfl rfl rfl ?_
  refine q_icmp_s (p2 := 32) rfl (by decide) (by omega) (by omega) rfl (fun _ => ?_) (fun hb => absurd (show ¬ (1 < 1) by omega) hb)
  refine q_load (v := (6, 455, 0)) (p2 := 82) rfl rfl rfl rfl ?_
  refine q_const (p2 := 83) rfl rfl ?_
  refine q_load (v := (6, 455, 0)) (p2 := 84) rfl rfl rfl rfl ?_
  refine q_getv (v := (0, 1, 0)) (p2 := 85) rfl (x_KS_455 hs3) (by decide) hs3.1.choose_spec.2.2.2.2.2.1 rfl ?_
  refine q_load (v := (0, 1, 0)) (p2 := 86) rfl rfl rfl rfl ?_
  refine q_iop (w := 1 + (4294967296 - 1 % 4294967296)) (z := 0) (p2 := 87) rfl (xo_sub 1 1) (by decide) rfl ?_
  refine q_max_t (p2 := 88) rfl rfl (by omega) (by omega) rfl ?_
  refine q_putfE (v := (0, 0, 0)) (p2 := 89) rfl (x_KS_455 hs3) (by decide) rfl rfl (fun φ6 f6 hh6 hg6 ho6 fr6 => ?_)
  have hs6 := x_KS_put_4 hs3 hh6 hg6 ho6 fr6
  refine q_load (v := (0, 1, 0)) (p2 := 90) rfl rfl rfl rfl ?_
  refine q_if0_s (p2 := 91) rfl (by decide) (by omega) rfl (fun _ => ?_) (fun hb => absurd (show ¬ (1 = 0) by omega) hb)
  refine q_load (v := (6, 455, 0)) (p2 := 97) rfl rfl rfl rfl ?_
  refine q_load (v := (6, 442, 0)) (p2 := 98) rfl rfl rfl rfl ?_
  refine q_const (p2 := 99) rfl rfl ?_
  refine q_aldv (v := (0, 30, 0)) (p2 := 100) rfl (x_sc_442 hs6.2.2.2.2.2.2.2.2.2) (by omega) (by omega) rfl rfl ?_
  refine q_load (v := (6, 442, 0)) (p2 := 101) rfl rfl rfl rfl ?_
  refine q_const (p2 := 102) rfl rfl ?_
  refine q_aldv (v := (0, 6, 0)) (p2 := 103) rfl (x_sc_442 hs6.2.2.2.2.2.2.2.2.2) (by omega) (by omega) rfl rfl ?_
  refine q_load (v := (6, 455, 0)) (p2 := 104) rfl rfl rfl rfl ?_
  refine q_getv (v := (6, 225, 0)) (p2 := 105) rfl (x_KS_455 hs6) (by decide) hs6.1.choose_spec.2.2.2.1 rfl ?_
  refine x_n_lt (fun hlt8 => ?_)
  have hm7 := (x_PS_at hm4 (fun j hj hne => by have hj2 := x_some_lt hlt5 hne; exact (fr6 j (by omega))))
  have hv9 := x_mv_at (x_PS_N hPS) (fun j hj hne => by have hj2 := x_some_lt hlt0 hne; exact ((fr6 j (by omega)).trans (fr3 j (by omega))))
  refine q_callvE (xs := [(6, 225, 0), (0, 6, 0), (0, 30, 0), (6, 455, 0)]) (p2 := 106) rfl rfl rfl rfl (x_rcv_s 455 (x_KS_455 hs6)) rfl (k_open hs6 (x_PS_N hm7) hv9 (by omega)) (Nat.le_refl _) (Nat.le_refl _) rfl (fun φ10 hR10 => ?_)
  obtain ⟨hK10, frn10⟩ := hR10
  refine q_const (p2 := 107) rfl rfl ?_
  refine q_store (loc2 := [(6, 455, 0), (0, 0, 0), (6, 442, 0), (0, 1, 0), (0, 1, 0), (0, 0, 0), (0, 0, 0), (0, 5, 0)]) (p2 := 108) rfl rfl rfl rfl rfl ?_
  refine q_load (v := (0, 0, 0)) (p2 := 109) rfl rfl rfl rfl ?_
  refine q_load (v := (0, 1, 0)) (p2 := 110) rfl rfl rfl rfl ?_
  refine q_icmp_s (p2 := 111) rfl (by decide) (by omega) (by omega) rfl (fun hb => absurd hb (show ¬ (¬ (0 < 1)) by omega)) (fun _ => ?_)
  refine q_load (v := (6, 455, 0)) (p2 := 112) rfl rfl rfl rfl ?_
  refine q_getv (v := (0, 0, 0)) (p2 := 113) rfl (x_KS_455 hK10) (by decide) hK10.1.choose_spec.2.2.2.2.2.2.2.2.2.2.2.2.2.2.2.2.2.1 rfl ?_
  refine q_if0_s (p2 := 114) rfl (by decide) (by omega) rfl (fun hb => absurd hb (show ¬ (¬ (0 = 0)) by omega)) (fun _ => ?_)
  refine q_load (v := (6, 455, 0)) (p2 := 115) rfl rfl rfl rfl ?_
  refine q_getv (v := (0, 0, 0)) (p2 := 116) rfl (x_KS_455 hK10) (by decide) hK10.1.choose_spec.2.2.2.2.2.1 rfl ?_
  refine q_load (v := (0, 0, 0)) (p2 := 117) rfl rfl rfl rfl ?_
  refine q_iop (w := 0 + 0) (z := 0) (p2 := 118) rfl (xo_add 0 0) (by decide) rfl ?_
  refine q_load (v := (6, 455, 0)) (p2 := 119) rfl rfl rfl rfl ?_
  refine q_getv (v := (6, 456, 0)) (p2 := 120) rfl (x_KS_455 hK10) (by decide) hK10.1.choose_spec.2.2.2.2.1 rfl ?_
  refine q_alen (p2 := 121) rfl hK10.2.1 rfl (by omega) rfl ?_
  refine q_icmp_s (p2 := 122) rfl (by decide) (by omega) (by omega) rfl (fun hb => absurd hb (show ¬ (¬ (0 < 4096)) by omega)) (fun _ => ?_)
  refine q_load (v := (6, 455, 0)) (p2 := 123) rfl rfl rfl rfl ?_
  refine q_getv (v := (6, 457, 0)) (p2 := 124) rfl (x_KS_455 hK10) (by decide) hK10.1.choose_spec.2.2.2.2.2.2.1 rfl ?_
  refine q_load (v := (6, 455, 0)) (p2 := 125) rfl rfl rfl rfl ?_
  refine q_load (v := (0, 0, 0)) (p2 := 126) rfl rfl rfl rfl ?_
  refine q_callr (xs := [(0, 0, 0), (6, 455, 0)]) (p2 := 127) rfl rfl rfl rfl (x_rcv_s 455 (x_KS_455 hK10)) rfl (e_slotAt hK10.1.choose_spec (by omega) (by omega)) (Nat.le_refl _) (Nat.le_refl _) rfl ?_
  refine q_load (v := (6, 455, 0)) (p2 := 128) rfl rfl rfl rfl ?_
  refine q_getv (v := (6, 456, 0)) (p2 := 129) rfl (x_KS_455 hK10) (by decide) hK10.1.choose_spec.2.2.2.2.1 rfl ?_
  refine q_load (v := (6, 455, 0)) (p2 := 130) rfl rfl rfl rfl ?_
  refine q_getv (v := (0, 0, 0)) (p2 := 131) rfl (x_KS_455 hK10) (by decide) hK10.1.choose_spec.2.2.2.2.2.1 rfl ?_
  refine q_load (v := (0, 0, 0)) (p2 := 132) rfl rfl rfl rfl ?_
  refine q_iop (w := 0 + 0) (z := 0) (p2 := 133) rfl (xo_add 0 0) (by decide) rfl ?_
  refine q_aldT (tag := 6) (v := vA) (p2 := 134) rfl hK10.2.1 (by omega) (by omega) (x_s_eq) rfl ?_
  refine q_astE (v := (6, vA, 0)) (w := (6, vA, 0)) (p2 := 135) rfl hK10.2.2.1 (by omega) (by omega) (x_ok_r (((frn10 vA (by omega)).trans ((fr6 vA (by omega)).trans (fr3 vA (by omega)))).trans hW2) rfl) (x_nv_same rfl (by decide)) rfl (fun φ11 f11 hh11 hg11 ho11 fr11 => ?_)
  have hs11 := x_KS_st_457 hK10 hh11 hg11 ho11 fr11
  refine q_iinc (z := 1) (loc2 := [(6, 455, 0), (0, 0, 0), (6, 442, 0), (0, 1, 0), (0, 1, 0), (0, 1, 0), (0, 0, 0), (0, 5, 0)]) (p2 := 136) rfl rfl (by decide) rfl rfl ?_
  refine q_goto rfl ?_
  refine q_load (v := (0, 1, 0)) (p2 := 109) rfl rfl rfl rfl ?_
  refine q_load (v := (0, 1, 0)) (p2 := 110) rfl rfl rfl rfl ?_
  refine q_icmp_s (p2 := 111) rfl (by decide) (by omega) (by omega) rfl (fun _ => ?_) (fun hb => absurd (show ¬ (1 < 1) by omega) hb)
  exact q_ret rfl (⟨rfl, rfl, rfl, hs11, fun j hj1 => ((fr11 j (by omega)).trans ((frn10 j (by omega)).trans ((fr6 j (by omega)).trans (fr3 j (by omega)))))⟩)
set_option maxHeartbeats 1000000 in
theorem zc_kcall_0 {d n sl : Nat} {φ : FH} {A : Nat} {B : Nat} {made : Nat} {sv : Nat} {svm : Nat} {s9 : Nat} {comb : Nat → Nat} {hm : Nat → MV} {pc_ : Nat} {mm : Nat} {mi : Nat} {st : Nat → Nat} {lo : Nat → Nat} {re : Nat → Nat} {rs : Nat → Nat} {fl : Nat → Nat} {se : Nat → Nat} {co : Nat → Nat} {vA : Nat} (hPS : x_PS φ A B made sv svm s9 comb hm) (hKS : x_KS φ 1 1 pc_ mm mi st lo re rs fl se co) (hn0 : 486 ≤ n) (hvA : x_mv φ vA MV0) (hf0 : st 0 = vA)  : x_f x_P (d + 4) 193 [(6, 455, 0), (0, 0, 0), (11, 0, 0), (11, 0, 0), (11, 0, 0), (11, 0, 0), (11, 0, 0), (11, 0, 0)] φ n sl (x_vR n sl (fun φ2 => x_KS φ2 0 2 30 mm mi (x_s st 0 vA) (x_s (x_lo lo 1 32) 32 vA) (x_s re 1 pc_) (x_s rs 1 6) (x_s fl 1 0) (x_s se 1 225) co ∧ x_kf φ φ2)) := by
  refine x_f_of rfl ?_
  refine x_n_lt (fun hlt0 => ?_)
  have hz1 := x_mv_lt hvA hlt0
  have hy1 := hvA.1
  refine q_load (v := (0, 0, 0)) (p2 := 1) rfl rfl rfl rfl ?_
  refine q_if0_s (p2 := 2) rfl (by decide) (by omega) rfl (fun hb => absurd hb (show ¬ (0 < 0) by omega)) (fun _ => ?_)
  refine q_load (v := (0, 0, 0)) (p2 := 3) rfl rfl rfl rfl ?_
  refine q_load (v := (6, 455, 0)) (p2 := 4) rfl rfl rfl rfl ?_
  refine q_getv (v := (6, 7, 0)) (p2 := 5) rfl (x_KS_455 hKS) (by decide) hKS.1.choose_spec.2.1 rfl ?_
  refine q_getv (v := (6, 237, 0)) (p2 := 6) rfl hPS.1.choose_spec.1 (by decide) hPS.1.choose_spec.2.1 rfl ?_
  refine q_getv (v := (6, 441, 0)) (p2 := 7) rfl hKS.2.2.2.2.2.2.2.2.2.1.choose_spec.1 (by decide) hKS.2.2.2.2.2.2.2.2.2.1.choose_spec.2.2.2.2.2.2.2.2.2.2.1 rfl ?_
  refine q_alen (p2 := 8) rfl (x_sc_441 hKS.2.2.2.2.2.2.2.2.2) rfl (by omega) rfl ?_
  refine q_icmp_s (p2 := 9) rfl (by decide) (by omega) (by omega) rfl (fun _ => ?_) (fun hb => absurd (show 0 < 6 by omega) hb)
  refine q_load (v := (6, 455, 0)) (p2 := 15) rfl rfl rfl rfl ?_
  refine q_getv (v := (6, 7, 0)) (p2 := 16) rfl (x_KS_455 hKS) (by decide) hKS.1.choose_spec.2.1 rfl ?_
  refine q_getv (v := (6, 237, 0)) (p2 := 17) rfl hPS.1.choose_spec.1 (by decide) hPS.1.choose_spec.2.1 rfl ?_
  refine q_getv (v := (6, 441, 0)) (p2 := 18) rfl hKS.2.2.2.2.2.2.2.2.2.1.choose_spec.1 (by decide) hKS.2.2.2.2.2.2.2.2.2.1.choose_spec.2.2.2.2.2.2.2.2.2.2.1 rfl ?_
  refine q_load (v := (0, 0, 0)) (p2 := 19) rfl rfl rfl rfl ?_
  refine q_aldv (v := (6, 442, 0)) (p2 := 20) rfl (x_sc_441 hKS.2.2.2.2.2.2.2.2.2) (by omega) (by omega) rfl rfl ?_
  refine q_store (loc2 := [(6, 455, 0), (0, 0, 0), (6, 442, 0), (11, 0, 0), (11, 0, 0), (11, 0, 0), (11, 0, 0), (11, 0, 0)]) (p2 := 21) rfl rfl rfl rfl rfl ?_
  refine q_load (v := (6, 442, 0)) (p2 := 22) rfl rfl rfl rfl ?_
  refine q_const (p2 := 23) rfl rfl ?_
  refine q_aldv (v := (0, 1, 0)) (p2 := 24) rfl (x_sc_442 hKS.2.2.2.2.2.2.2.2.2) (by omega) (by omega) rfl rfl ?_
  refine q_store (loc2 := [(6, 455, 0), (0, 0, 0), (6, 442, 0), (0, 1, 0), (11, 0, 0), (11, 0, 0), (11, 0, 0), (11, 0, 0)]) (p2 := 25) rfl rfl rfl rfl rfl ?_
  refine q_const (p2 := 26) rfl rfl ?_
  refine q_store (loc2 := [(6, 455, 0), (0, 0, 0), (6, 442, 0), (0, 1, 0), (0, 1, 0), (11, 0, 0), (11, 0, 0), (11, 0, 0)]) (p2 := 27) rfl rfl rfl rfl rfl ?_
  refine q_const (p2 := 28) rfl rfl ?_
  refine q_store (loc2 := [(6, 455, 0), (0, 0, 0), (6, 442, 0), (0, 1, 0), (0, 1, 0), (0, 0, 0), (11, 0, 0), (11, 0, 0)]) (p2 := 29) rfl rfl rfl rfl rfl ?_
  refine q_load (v := (0, 0, 0)) (p2 := 30) rfl rfl rfl rfl ?_
  refine q_load (v := (0, 1, 0)) (p2 := 31) rfl rfl rfl rfl ?_
  refine q_icmp_s (p2 := 32) rfl (by decide) (by omega) (by omega) rfl (fun hb => absurd hb (show ¬ (¬ (0 < 1)) by omega)) (fun _ => ?_)
  refine q_load (v := (6, 455, 0)) (p2 := 33) rfl rfl rfl rfl ?_
  refine q_getv (v := (0, 1, 0)) (p2 := 34) rfl (x_KS_455 hKS) (by decide) hKS.1.choose_spec.2.2.2.2.2.1 rfl ?_
  refine q_load (v := (0, 1, 0)) (p2 := 35) rfl rfl rfl rfl ?_
  refine q_iop (w := 1 + (4294967296 - 1 % 4294967296)) (z := 0) (p2 := 36) rfl (xo_sub 1 1) (by decide) rfl ?_
  refine q_load (v := (0, 0, 0)) (p2 := 37) rfl rfl rfl rfl ?_
  refine q_iop (w := 0 + 0) (z := 0) (p2 := 38) rfl (xo_add 0 0) (by decide) rfl ?_
  refine q_store (loc2 := [(6, 455, 0), (0, 0, 0), (6, 442, 0), (0, 1, 0), (0, 1, 0), (0, 0, 0), (0, 0, 0), (11, 0, 0)]) (p2 := 39) rfl rfl rfl rfl rfl ?_
  refine q_load (v := (6, 442, 0)) (p2 := 40) rfl rfl rfl rfl ?_
  refine q_const (p2 := 41) rfl rfl ?_
  refine q_load (v := (0, 0, 0)) (p2 := 42) rfl rfl rfl rfl ?_
  refine q_iop (w := 3 + 0) (z := 3) (p2 := 43) rfl (xo_add 3 0) (by decide) rfl ?_
  refine q_aldv (v := (0, 5, 0)) (p2 := 44) rfl (x_sc_442 hKS.2.2.2.2.2.2.2.2.2) (by omega) (by omega) rfl rfl ?_
  refine q_store (loc2 := [(6, 455, 0), (0, 0, 0), (6, 442, 0), (0, 1, 0), (0, 1, 0), (0, 0, 0), (0, 0, 0), (0, 5, 0)]) (p2 := 45) rfl rfl rfl rfl rfl ?_
  refine q_load (v := (0, 0, 0)) (p2 := 46) rfl rfl rfl rfl ?_
  refine q_if0_s (p2 := 47) rfl (by decide) (by omega) rfl (fun hb => absurd hb (show ¬ (0 < 0) by omega)) (fun _ => ?_)
  refine q_load (v := (0, 0, 0)) (p2 := 48) rfl rfl rfl rfl ?_
  refine q_load (v := (6, 455, 0)) (p2 := 49) rfl rfl rfl rfl ?_
  refine q_getv (v := (6, 456, 0)) (p2 := 50) rfl (x_KS_455 hKS) (by decide) hKS.1.choose_spec.2.2.2.2.1 rfl ?_
  refine q_alen (p2 := 51) rfl hKS.2.1 rfl (by omega) rfl ?_
  refine q_icmp_s (p2 := 52) rfl (by decide) (by omega) (by omega) rfl (fun hb => absurd hb (show ¬ (¬ (0 < 4096)) by omega)) (fun _ => ?_)
  refine q_load (v := (6, 455, 0)) (p2 := 53) rfl rfl rfl rfl ?_
  refine q_getv (v := (6, 456, 0)) (p2 := 54) rfl (x_KS_455 hKS) (by decide) hKS.1.choose_spec.2.2.2.2.1 rfl ?_
  refine q_load (v := (0, 0, 0)) (p2 := 55) rfl rfl rfl rfl ?_
  refine q_load (v := (6, 455, 0)) (p2 := 56) rfl rfl rfl rfl ?_
  refine q_getv (v := (6, 7, 0)) (p2 := 57) rfl (x_KS_455 hKS) (by decide) hKS.1.choose_spec.2.1 rfl ?_
  refine q_load (v := (6, 455, 0)) (p2 := 58) rfl rfl rfl rfl ?_
  refine q_getv (v := (6, 456, 0)) (p2 := 59) rfl (x_KS_455 hKS) (by decide) hKS.1.choose_spec.2.2.2.2.1 rfl ?_
  refine q_load (v := (0, 0, 0)) (p2 := 60) rfl rfl rfl rfl ?_
  refine q_aldT (tag := 6) (v := vA) (p2 := 61) rfl hKS.2.1 (by omega) (by omega) hf0 rfl ?_
  refine q_load (v := (0, 5, 0)) (p2 := 62) rfl rfl rfl rfl ?_
  obtain ⟨fV2, hW2, hg2⟩ := x_mv_gS hvA (by decide)
  have hl2 := hlt0 _ _ hW2
  have h6_2 := hvA.1
  refine q_callr (xs := [(0, 5, 0), (6, vA, 0), (6, 7, 0)]) (p2 := 63) rfl rfl rfl rfl (x_rcv_s 7 hPS.1.choose_spec.1) rfl (e_conv_5 hPS.1.choose_spec hW2 hg2 (by decide) (by omega) hKS.2.2.2.2.2.2.2.2.2) (Nat.le_refl _) (Nat.le_refl _) rfl ?_
  refine q_astE (v := (6, vA, 0)) (w := (6, vA, 0)) (p2 := 64) rfl hKS.2.1 (by omega) (by omega) (x_ok_r hW2 rfl) (x_nv_same rfl (by decide)) rfl (fun φ3 f3 hh3 hg3 ho3 fr3 => ?_)
  have hs3 := x_KS_st_456 hKS hh3 hg3 ho3 fr3
  refine q_load (v := (0, 1, 0)) (p2 := 65) rfl rfl rfl rfl ?_
  refine q_if0_s (p2 := 66) rfl (by decide) (by omega) rfl (fun hb => absurd hb (show ¬ (1 = 0) by omega)) (fun _ => ?_)
  refine q_load (v := (6, 455, 0)) (p2 := 67) rfl rfl rfl rfl ?_
  refine q_getv (v := (6, 7, 0)) (p2 := 68) rfl (x_KS_455 hs3) (by decide) hs3.1.choose_spec.2.1 rfl ?_
  refine q_load (v := (6, 455, 0)) (p2 := 69) rfl rfl rfl rfl ?_
  refine q_getv (v := (6, 456, 0)) (p2 := 70) rfl (x_KS_455 hs3) (by decide) hs3.1.choose_spec.2.2.2.2.1 rfl ?_
  refine q_load (v := (0, 0, 0)) (p2 := 71) rfl rfl rfl rfl ?_
  refine q_aldT (tag := 6) (v := vA) (p2 := 72) rfl hs3.2.1 (by omega) (by omega) (x_s_eq) rfl ?_
  refine q_load (v := (0, 5, 0)) (p2 := 73) rfl rfl rfl rfl ?_
  refine x_n_lt (fun hlt5 => ?_)
  have hm4 := (x_PS_at hPS (fun j hj hne => by have hj2 := x_some_lt hlt0 hne; exact (fr3 j (by omega))))
  refine q_callr (xs := [(0, 5, 0), (6, vA, 0), (6, 7, 0)]) (p2 := 74) rfl rfl rfl rfl (x_rcv_s 7 hm4.1.choose_spec.1) rfl (x_r_yes (e_fits_5 hm4.1.choose_spec hm4.2.1 ((fr3 vA (by omega)).trans hW2) hg2 (by decide) (by omega) hs3.2.2.2.2.2.2.2.2.2 (Or.inl rfl) (by omega)) (Or.inl rfl)) (Nat.le_refl _) (Nat.le_refl _) rfl ?_
  refine q_if0_s (p2 := 75) rfl (by decide) (by omega) rfl (fun hb => absurd hb (show ¬ (1 = 0) by omega)) (fun _ => ?_)
  refine q_const (p2 := 76) rfl rfl ?_
  refine q_goto rfl ?_
  refine q_store (loc2 := [(6, 455, 0), (0, 0, 0), (6, 442, 0), (0, 1, 0), (0, 1, 0), (0, 0, 0), (0, 0, 0), (0, 5, 0)]) (p2 := 79) rfl rfl rfl rfl rfl ?_
  refine q_iinc (z := 1) (loc2 := [(6, 455, 0), (0, 0, 0), (6, 442, 0), (0, 1, 0), (0, 1, 0), (0, 1, 0), (0, 0, 0), (0, 5, 0)]) (p2 := 80) rfl rfl (by decide) rfl rfl ?_
  refine q_goto rfl ?_
  refine q_load (v := (0, 1, 0)) (p2 := 30) rfl rfl rfl rfl ?_
  refine q_load (v := (0, 1, 0)) (p2 := 31) rfl rfl rfl rfl ?_
  refine q_icmp_s (p2 := 32) rfl (by decide) (by omega) (by omega) rfl (fun _ => ?_) (fun hb => absurd (show ¬ (1 < 1) by omega) hb)
  refine q_load (v := (6, 455, 0)) (p2 := 82) rfl rfl rfl rfl ?_
  refine q_const (p2 := 83) rfl rfl ?_
  refine q_load (v := (6, 455, 0)) (p2 := 84) rfl rfl rfl rfl ?_
  refine q_getv (v := (0, 1, 0)) (p2 := 85) rfl (x_KS_455 hs3) (by decide) hs3.1.choose_spec.2.2.2.2.2.1 rfl ?_
  refine q_load (v := (0, 1, 0)) (p2 := 86) rfl rfl rfl rfl ?_
  refine q_iop (w := 1 + (4294967296 - 1 % 4294967296)) (z := 0) (p2 := 87) rfl (xo_sub 1 1) (by decide) rfl ?_
  refine q_max_t (p2 := 88) rfl rfl (by omega) (by omega) rfl ?_
  refine q_putfE (v := (0, 0, 0)) (p2 := 89) rfl (x_KS_455 hs3) (by decide) rfl rfl (fun φ6 f6 hh6 hg6 ho6 fr6 => ?_)
  have hs6 := x_KS_put_4 hs3 hh6 hg6 ho6 fr6
  refine q_load (v := (0, 1, 0)) (p2 := 90) rfl rfl rfl rfl ?_
  refine q_if0_s (p2 := 91) rfl (by decide) (by omega) rfl (fun _ => ?_) (fun hb => absurd (show ¬ (1 = 0) by omega) hb)
  refine q_load (v := (6, 455, 0)) (p2 := 97) rfl rfl rfl rfl ?_
  refine q_load (v := (6, 442, 0)) (p2 := 98) rfl rfl rfl rfl ?_
  refine q_const (p2 := 99) rfl rfl ?_
  refine q_aldv (v := (0, 30, 0)) (p2 := 100) rfl (x_sc_442 hs6.2.2.2.2.2.2.2.2.2) (by omega) (by omega) rfl rfl ?_
  refine q_load (v := (6, 442, 0)) (p2 := 101) rfl rfl rfl rfl ?_
  refine q_const (p2 := 102) rfl rfl ?_
  refine q_aldv (v := (0, 6, 0)) (p2 := 103) rfl (x_sc_442 hs6.2.2.2.2.2.2.2.2.2) (by omega) (by omega) rfl rfl ?_
  refine q_load (v := (6, 455, 0)) (p2 := 104) rfl rfl rfl rfl ?_
  refine q_getv (v := (6, 225, 0)) (p2 := 105) rfl (x_KS_455 hs6) (by decide) hs6.1.choose_spec.2.2.2.1 rfl ?_
  refine x_n_lt (fun hlt8 => ?_)
  have hm7 := (x_PS_at hm4 (fun j hj hne => by have hj2 := x_some_lt hlt5 hne; exact (fr6 j (by omega))))
  have hv9 := x_mv_at (x_PS_N hPS) (fun j hj hne => by have hj2 := x_some_lt hlt0 hne; exact ((fr6 j (by omega)).trans (fr3 j (by omega))))
  refine q_callvE (xs := [(6, 225, 0), (0, 6, 0), (0, 30, 0), (6, 455, 0)]) (p2 := 106) rfl rfl rfl rfl (x_rcv_s 455 (x_KS_455 hs6)) rfl (k_open hs6 (x_PS_N hm7) hv9 (by omega)) (Nat.le_refl _) (Nat.le_refl _) rfl (fun φ10 hR10 => ?_)
  obtain ⟨hK10, frn10⟩ := hR10
  refine q_const (p2 := 107) rfl rfl ?_
  refine q_store (loc2 := [(6, 455, 0), (0, 0, 0), (6, 442, 0), (0, 1, 0), (0, 1, 0), (0, 0, 0), (0, 0, 0), (0, 5, 0)]) (p2 := 108) rfl rfl rfl rfl rfl ?_
  refine q_load (v := (0, 0, 0)) (p2 := 109) rfl rfl rfl rfl ?_
  refine q_load (v := (0, 1, 0)) (p2 := 110) rfl rfl rfl rfl ?_
  refine q_icmp_s (p2 := 111) rfl (by decide) (by omega) (by omega) rfl (fun hb => absurd hb (show ¬ (¬ (0 < 1)) by omega)) (fun _ => ?_)
  refine q_load (v := (6, 455, 0)) (p2 := 112) rfl rfl rfl rfl ?_
  refine q_getv (v := (0, 0, 0)) (p2 := 113) rfl (x_KS_455 hK10) (by decide) hK10.1.choose_spec.2.2.2.2.2.2.2.2.2.2.2.2.2.2.2.2.2.1 rfl ?_
  refine q_if0_s (p2 := 114) rfl (by decide) (by omega) rfl (fun hb => absurd hb (show ¬ (¬ (0 = 0)) by omega)) (fun _ => ?_)
  refine q_load (v := (6, 455, 0)) (p2 := 115) rfl rfl rfl rfl ?_
  refine q_getv (v := (0, 0, 0)) (p2 := 116) rfl (x_KS_455 hK10) (by decide) hK10.1.choose_spec.2.2.2.2.2.1 rfl ?_
  refine q_load (v := (0, 0, 0)) (p2 := 117) rfl rfl rfl rfl ?_
  refine q_iop (w := 0 + 0) (z := 0) (p2 := 118) rfl (xo_add 0 0) (by decide) rfl ?_
  refine q_load (v := (6, 455, 0)) (p2 := 119) rfl rfl rfl rfl ?_
  refine q_getv (v := (6, 456, 0)) (p2 := 120) rfl (x_KS_455 hK10) (by decide) hK10.1.choose_spec.2.2.2.2.1 rfl ?_
  refine q_alen (p2 := 121) rfl hK10.2.1 rfl (by omega) rfl ?_
  refine q_icmp_s (p2 := 122) rfl (by decide) (by omega) (by omega) rfl (fun hb => absurd hb (show ¬ (¬ (0 < 4096)) by omega)) (fun _ => ?_)
  refine q_load (v := (6, 455, 0)) (p2 := 123) rfl rfl rfl rfl ?_
  refine q_getv (v := (6, 457, 0)) (p2 := 124) rfl (x_KS_455 hK10) (by decide) hK10.1.choose_spec.2.2.2.2.2.2.1 rfl ?_
  refine q_load (v := (6, 455, 0)) (p2 := 125) rfl rfl rfl rfl ?_
  refine q_load (v := (0, 0, 0)) (p2 := 126) rfl rfl rfl rfl ?_
  refine q_callr (xs := [(0, 0, 0), (6, 455, 0)]) (p2 := 127) rfl rfl rfl rfl (x_rcv_s 455 (x_KS_455 hK10)) rfl (e_slotAt hK10.1.choose_spec (by omega) (by omega)) (Nat.le_refl _) (Nat.le_refl _) rfl ?_
  refine q_load (v := (6, 455, 0)) (p2 := 128) rfl rfl rfl rfl ?_
  refine q_getv (v := (6, 456, 0)) (p2 := 129) rfl (x_KS_455 hK10) (by decide) hK10.1.choose_spec.2.2.2.2.1 rfl ?_
  refine q_load (v := (6, 455, 0)) (p2 := 130) rfl rfl rfl rfl ?_
  refine q_getv (v := (0, 0, 0)) (p2 := 131) rfl (x_KS_455 hK10) (by decide) hK10.1.choose_spec.2.2.2.2.2.1 rfl ?_
  refine q_load (v := (0, 0, 0)) (p2 := 132) rfl rfl rfl rfl ?_
  refine q_iop (w := 0 + 0) (z := 0) (p2 := 133) rfl (xo_add 0 0) (by decide) rfl ?_
  refine q_aldT (tag := 6) (v := vA) (p2 := 134) rfl hK10.2.1 (by omega) (by omega) (x_s_eq) rfl ?_
  refine q_astE (v := (6, vA, 0)) (w := (6, vA, 0)) (p2 := 135) rfl hK10.2.2.1 (by omega) (by omega) (x_ok_r (((frn10 vA (by omega)).trans ((fr6 vA (by omega)).trans (fr3 vA (by omega)))).trans hW2) rfl) (x_nv_same rfl (by decide)) rfl (fun φ11 f11 hh11 hg11 ho11 fr11 => ?_)
  have hs11 := x_KS_st_457 hK10 hh11 hg11 ho11 fr11
  refine q_iinc (z := 1) (loc2 := [(6, 455, 0), (0, 0, 0), (6, 442, 0), (0, 1, 0), (0, 1, 0), (0, 1, 0), (0, 0, 0), (0, 5, 0)]) (p2 := 136) rfl rfl (by decide) rfl rfl ?_
  refine q_goto rfl ?_
  refine q_load (v := (0, 1, 0)) (p2 := 109) rfl rfl rfl rfl ?_
  refine q_load (v := (0, 1, 0)) (p2 := 110) rfl rfl rfl rfl ?_
  refine q_icmp_s (p2 := 111) rfl (by decide) (by omega) (by omega) rfl (fun _ => ?_) (fun hb => absurd (show ¬ (1 < 1) by omega) hb)
  exact q_ret rfl (⟨rfl, rfl, rfl, hs11, fun j hj1 => ((fr11 j (by omega)).trans ((frn10 j (by omega)).trans ((fr6 j (by omega)).trans (fr3 j (by omega)))))⟩)
set_option maxHeartbeats 1000000 in
theorem zc_klead20_5 {d n sl : Nat} {φ : FH} {A : Nat} {B : Nat} {made : Nat} {sv : Nat} {svm : Nat} {s9 : Nat} {comb : Nat → Nat} {hm : Nat → MV} {pc_ : Nat} {mm : Nat} {mi : Nat} {st : Nat → Nat} {lo : Nat → Nat} {re : Nat → Nat} {rs : Nat → Nat} {fl : Nat → Nat} {se : Nat → Nat} {co : Nat → Nat} {w vA : Nat} (hPS : x_PS φ A B made sv svm s9 comb hm) (hKS : x_KS φ 1 1 pc_ mm mi st lo re rs fl se co) (hn0 : 486 ≤ n) (hvA : x_mv φ vA (5, w, 0, 0, [])) (hc0 : co pc_ = 0) (hf0 : st 0 = vA) (hbit : 1 &&& comb w ≠ 0) (hw : w < 512) (hpc : pc_ < 1000) : x_f x_P (d + 5) 111 [(6, 455, 0), (0, 20, 0), (11, 0, 0), (11, 0, 0)] φ n sl (x_vR n sl (fun φ2 => x_KS φ2 0 2 30 mm mi (x_s st 0 vA) (x_s (x_lo lo 1 32) 32 vA) (x_s re 1 (pc_ + 1)) (x_s rs 1 6) (x_s fl 1 0) (x_s se 1 225) co ∧ x_kf φ φ2)) := by
  refine x_f_of rfl ?_
  refine x_n_lt (fun hlt0 => ?_)
  have hz1 := x_mv_lt hvA hlt0
  have hy1 := hvA.1
  refine q_load (v := (0, 20, 0)) (p2 := 1) rfl rfl rfl rfl ?_
  refine q_switch (tgt := 2) rfl (by decide) rfl ?_
  refine q_load (v := (6, 455, 0)) (p2 := 3) rfl rfl rfl rfl ?_
  refine q_load (v := (6, 455, 0)) (p2 := 4) rfl rfl rfl rfl ?_
  refine q_callrE (xs := [(6, 455, 0)]) (p2 := 5) rfl rfl rfl rfl (x_rcv_s 455 (x_KS_455 hKS)) rfl (k_fetchw hc0 hPS.1.choose_spec hKS (by omega)) (Nat.le_refl _) (Nat.le_refl _) rfl (fun φ2 hR2 => ?_)
  obtain ⟨hK2, frn2⟩ := hR2
  refine x_n_lt (fun hlt4 => ?_)
  have hv3 := x_mv_at hvA (fun j hj hne => by have hj2 := x_some_lt hlt0 hne; exact (frn2 j (by omega)))
  have hm5 := (x_PS_at hPS (fun j hj hne => by have hj2 := x_some_lt hlt0 hne; exact (frn2 j (by omega))))
  refine q_callvE (xs := [(0, 0, 0), (6, 455, 0)]) (p2 := 6) rfl rfl rfl rfl (x_rcv_s 455 (x_KS_455 hK2)) rfl (zc_kcall_5 hm5 hK2 (by omega) hv3 hf0 hbit (by omega)) (Nat.le_refl _) (Nat.le_refl _) rfl (fun φ6 hR6 => ?_)
  obtain ⟨hK6, frn6⟩ := hR6
  refine q_goto rfl ?_
  exact q_ret rfl (⟨rfl, rfl, rfl, hK6, fun j hj1 => ((frn6 j (by omega)).trans (frn2 j (by omega)))⟩)
set_option maxHeartbeats 1000000 in
theorem zc_klead20_0 {d n sl : Nat} {φ : FH} {A : Nat} {B : Nat} {made : Nat} {sv : Nat} {svm : Nat} {s9 : Nat} {comb : Nat → Nat} {hm : Nat → MV} {pc_ : Nat} {mm : Nat} {mi : Nat} {st : Nat → Nat} {lo : Nat → Nat} {re : Nat → Nat} {rs : Nat → Nat} {fl : Nat → Nat} {se : Nat → Nat} {co : Nat → Nat} {vA : Nat} (hPS : x_PS φ A B made sv svm s9 comb hm) (hKS : x_KS φ 1 1 pc_ mm mi st lo re rs fl se co) (hn0 : 486 ≤ n) (hvA : x_mv φ vA MV0) (hc0 : co pc_ = 0) (hf0 : st 0 = vA) (hpc : pc_ < 1000) : x_f x_P (d + 5) 111 [(6, 455, 0), (0, 20, 0), (11, 0, 0), (11, 0, 0)] φ n sl (x_vR n sl (fun φ2 => x_KS φ2 0 2 30 mm mi (x_s st 0 vA) (x_s (x_lo lo 1 32) 32 vA) (x_s re 1 (pc_ + 1)) (x_s rs 1 6) (x_s fl 1 0) (x_s se 1 225) co ∧ x_kf φ φ2)) := by
  refine x_f_of rfl ?_
  refine x_n_lt (fun hlt0 => ?_)
  have hz1 := x_mv_lt hvA hlt0
  have hy1 := hvA.1
  refine q_load (v := (0, 20, 0)) (p2 := 1) rfl rfl rfl rfl ?_
  refine q_switch (tgt := 2) rfl (by decide) rfl ?_
  refine q_load (v := (6, 455, 0)) (p2 := 3) rfl rfl rfl rfl ?_
  refine q_load (v := (6, 455, 0)) (p2 := 4) rfl rfl rfl rfl ?_
  refine q_callrE (xs := [(6, 455, 0)]) (p2 := 5) rfl rfl rfl rfl (x_rcv_s 455 (x_KS_455 hKS)) rfl (k_fetchw hc0 hPS.1.choose_spec hKS (by omega)) (Nat.le_refl _) (Nat.le_refl _) rfl (fun φ2 hR2 => ?_)
  obtain ⟨hK2, frn2⟩ := hR2
  refine x_n_lt (fun hlt4 => ?_)
  have hv3 := x_mv_at hvA (fun j hj hne => by have hj2 := x_some_lt hlt0 hne; exact (frn2 j (by omega)))
  have hm5 := (x_PS_at hPS (fun j hj hne => by have hj2 := x_some_lt hlt0 hne; exact (frn2 j (by omega))))
  refine q_callvE (xs := [(0, 0, 0), (6, 455, 0)]) (p2 := 6) rfl rfl rfl rfl (x_rcv_s 455 (x_KS_455 hK2)) rfl (zc_kcall_0 hm5 hK2 (by omega) hv3 hf0 ) (Nat.le_refl _) (Nat.le_refl _) rfl (fun φ6 hR6 => ?_)
  obtain ⟨hK6, frn6⟩ := hR6
  refine q_goto rfl ?_
  exact q_ret rfl (⟨rfl, rfl, rfl, hK6, fun j hj1 => ((frn6 j (by omega)).trans (frn2 j (by omega)))⟩)
end FPOP51
