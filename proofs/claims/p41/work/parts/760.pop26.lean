section FPOP26
variable {d n sl top fr pc_ mm mi A B made sv svm s9 : Nat} {st lo re rs fl se co comb : Nat → Nat} {φ : FH} {fP : Nat → XV}
theorem x_KS_455 {φ : FH} {top fr pc_ mm mi : Nat} {st lo re rs fl se co : Nat → Nat} (h : x_KS φ top fr pc_ mm mi st lo re rs fl se co) : φ 455 = some (0, 6, 20, h.1.choose) := h.1.choose_spec.1
theorem k_plain_1 (hP : x_pop φ A B made sv svm s9 fP) (hK : x_KS φ top fr pc_ mm mi st lo re rs fl se co) (hpc : pc_ + 8 < 12288) (ht : top < 4096) (hc1 : mm + co pc_ ≤ 1000) (hc2 : mi + co pc_ ≤ 20000) : x_f x_P (d + 2) 109 [(6, 455, 0), (0, 1, 0), (11, 0, 0), (11, 0, 0), (11, 0, 0)] φ n sl (x_bV n sl 0 0 (fun φ2 => x_KS φ2 top fr (pc_ + 1) (mm + co pc_) (mi + co pc_) st lo re rs fl se co ∧ x_kf φ φ2)) := by
  refine x_f_of rfl ?_
  refine q_load (p2 := 1) rfl rfl rfl rfl ?_
  refine q_switch (tgt := 2) rfl (by decide) rfl ?_
  refine q_load (p2 := 3) rfl rfl rfl rfl ?_
  refine q_load (p2 := 4) rfl rfl rfl rfl ?_
  refine q_callrE (xs := [(6, 455, 0)]) (p2 := 5) rfl rfl rfl rfl (x_rcv_s 455 (x_KS_455 hK)) rfl (k_fetch (x_pop_at hP rfl) hK (by omega)) (Nat.le_refl _) (Nat.le_refl _) rfl (fun φ1 hR1 => ?_)
  obtain ⟨hK1, hf1⟩ := hR1
  refine q_callvE (xs := [(0, (co pc_), 0), (6, 455, 0)]) (p2 := 6) rfl rfl rfl rfl (x_rcv_s 455 (x_KS_455 hK1)) rfl (k_step hK1 hc1 hc2) (Nat.le_refl _) (Nat.le_refl _) rfl (fun φ2 hR2 => ?_)
  obtain ⟨hK2, hf2⟩ := hR2
  refine q_goto rfl ?_
  exact q_ret rfl (⟨rfl, ⟨Nat.le_refl _, Nat.le_refl _⟩, ⟨Nat.le_refl _, Nat.le_refl _⟩, hK2, fun j hj => ((hf2 j hj).trans ((hf1 j hj).trans rfl))⟩)
theorem k_plain_3 (hP : x_pop φ A B made sv svm s9 fP) (hK : x_KS φ top fr pc_ mm mi st lo re rs fl se co) (hpc : pc_ + 8 < 12288) (ht : top < 4096) (hn : 486 ≤ n) (hbits : co pc_ < 2147483648) : x_f x_P (d + 2) 109 [(6, 455, 0), (0, 3, 0), (11, 0, 0), (11, 0, 0), (11, 0, 0)] φ n sl (x_bV n sl 1 7 (fun φ2 => ∃ v, x_KS φ2 (top + 1) fr (pc_ + 1) mm mi (fun i => if i = top then v else st i) lo re rs fl se co ∧ x_mv φ2 v (1, co pc_, 0, 0, []) ∧ ∀ j, j < n → (j < 455 ∨ 466 ≤ j) → φ2 j = φ j)) := by
  refine x_f_of rfl ?_
  refine x_n_lt (fun hlt => ?_)
  refine q_load (p2 := 1) rfl rfl rfl rfl ?_
  refine q_switch (tgt := 7) rfl (by decide) rfl ?_
  refine q_load (p2 := 8) rfl rfl rfl rfl ?_
  refine q_newE (p2 := 9) (len := 7) (g := x_gV) rfl rfl x_gV_ok rfl (fun φ1 hh1 fr1 => ?_)
  refine q_dup (p2 := 10) rfl rfl rfl ?_
  refine q_const (p2 := 11) rfl rfl ?_
  refine q_load (p2 := 12) rfl rfl rfl rfl ?_
  refine q_callrE (xs := [(6, 455, 0)]) (p2 := 13) rfl rfl rfl rfl (x_rcv_s 455 (x_KS_455 (x_KS_at hK (fun j h1 h2 => fr1 j (by omega))))) rfl (k_fetch (x_pop_at hP ((fr1 7 (by omega)).trans rfl)) (x_KS_at hK (fun j h1 h2 => fr1 j (by omega))) (by omega)) (Nat.le_refl _) (Nat.le_refl _) rfl (fun φ2 hR2 => ?_)
  obtain ⟨hK2, hf2⟩ := hR2
  refine q_i2l (p2 := 14) rfl (by omega) rfl ?_
  refine q_callvE (xs := [(2, (co pc_), 0), (0, 1, 0), (6, n, 0)]) (p2 := 15) rfl rfl rfl rfl (x_rcv_s n ((hf2 n (by omega)).trans hh1)) rfl (e_new2 ((hf2 n (by omega)).trans hh1)) (Nat.le_refl _) (Nat.le_refl _) rfl (fun φ3 hR3 => ?_)
  obtain ⟨⟨fv3, hv3, gv3⟩, fr3⟩ := hR3
  refine q_callvE (xs := [(6, n, 0), (6, 455, 0)]) (p2 := 16) rfl rfl rfl rfl (x_rcv_s 455 (x_KS_455 (x_KS_at hK2 (fun j h1 h2 => fr3 j (by omega))))) rfl (k_push (x_KS_at hK2 (fun j h1 h2 => fr3 j (by omega))) (x_mv_sc hn hbits (by decide) hv3 gv3) ht) (Nat.le_refl _) (Nat.le_refl _) rfl (fun φ4 hR4 => ?_)
  obtain ⟨hK4, hf4⟩ := hR4
  refine q_goto rfl ?_
  exact q_ret rfl (⟨rfl, ⟨by omega, by omega⟩, ⟨by omega, by omega⟩, n, hK4, (x_mv_sc hn hbits (by decide) ((hf4 n (by omega)).trans hv3) gv3), fun j hj1 hj2 => ((hf4 j (by omega)).trans ((fr3 j (by omega)).trans ((hf2 j (by omega)).trans ((fr1 j (by omega)).trans rfl))))⟩)
theorem k_plain_7 (hP : x_pop φ A B made sv svm s9 fP) (hK : x_KS φ top fr pc_ mm mi st lo re rs fl se co) (hpc : pc_ + 8 < 12288) (ht : top < 4096) (hC : x_comb φ 226 comb) (hN : x_mv φ 225 MV0) (hn : 486 ≤ n) (hbits : co pc_ < 2147483648) : x_f x_P (d + 2) 109 [(6, 455, 0), (0, 7, 0), (11, 0, 0), (11, 0, 0), (11, 0, 0)] φ n sl (x_bV n sl 1 7 (fun φ2 => ∃ v, x_KS φ2 (top + 1) fr (pc_ + 1) mm mi (fun i => if i = top then v else st i) lo re rs fl se co ∧ x_mv φ2 v (if co pc_ < made ∧ comb (co pc_) ≠ 0 then (5, co pc_, 0, 0, []) else MV0) ∧ ∀ j, j < n → (j < 455 ∨ 466 ≤ j) → φ2 j = φ j)) := by
  refine x_f_of rfl ?_
  refine x_n_lt (fun hlt => ?_)
  refine q_load (p2 := 1) rfl rfl rfl rfl ?_
  refine q_switch (tgt := 57) rfl (by decide) rfl ?_
  refine q_load (p2 := 58) rfl rfl rfl rfl ?_
  refine q_callrE (xs := [(6, 455, 0)]) (p2 := 59) rfl rfl rfl rfl (x_rcv_s 455 (x_KS_455 hK)) rfl (k_fetch (x_pop_at hP rfl) hK (by omega)) (Nat.le_refl _) (Nat.le_refl _) rfl (fun φ1 hR1 => ?_)
  obtain ⟨hK1, hf1⟩ := hR1
  refine q_store (p2 := 60) rfl rfl rfl rfl rfl ?_
  refine q_load (p2 := 61) rfl rfl rfl rfl ?_
  refine q_load (p2 := 62) rfl rfl rfl rfl ?_
  refine q_getv (p2 := 63) rfl hK1.1.choose_spec.1 (by decide) hK1.1.choose_spec.2.1 rfl ?_
  refine q_load (p2 := 64) rfl rfl rfl rfl ?_
  refine q_callr (xs := [(0, (co pc_), 0), (6, 7, 0)]) (p2 := 65) rfl rfl rfl rfl (x_rcv_s 7 (x_pop_at hP ((hf1 7 (by omega)).trans rfl)).1) rfl (e_exists (x_pop_at hP ((hf1 7 (by omega)).trans rfl)) (x_comb_at hC ((hf1 226 (by omega)).trans rfl)) (x := co pc_) hbits) (Nat.le_refl _) (Nat.le_refl _) rfl ?_
  by_cases hb2 : co pc_ < made ∧ comb (co pc_) ≠ 0
  · rw [if_pos hb2]
    refine q_if0_s (p2 := 66) rfl (by decide) (by omega) rfl (fun hb => absurd hb (show ¬ (1 = 0) by omega)) (fun _ => ?_)
    refine q_newE (p2 := 67) (len := 7) (g := x_gV) rfl rfl x_gV_ok rfl (fun φ3 hh3 fr3 => ?_)
    refine q_dup (p2 := 68) rfl rfl rfl ?_
    refine q_const (p2 := 69) rfl rfl ?_
    refine q_load (p2 := 70) rfl rfl rfl rfl ?_
    refine q_i2l (p2 := 71) rfl (by omega) rfl ?_
    refine q_callvE (xs := [(2, (co pc_), 0), (0, 5, 0), (6, n, 0)]) (p2 := 72) rfl rfl rfl rfl (x_rcv_s n hh3) rfl (e_new2 hh3) (Nat.le_refl _) (Nat.le_refl _) rfl (fun φ4 hR4 => ?_)
    obtain ⟨⟨fv4, hv4, gv4⟩, fr4⟩ := hR4
    refine q_goto rfl ?_
    refine q_callvE (xs := [(6, n, 0), (6, 455, 0)]) (p2 := 76) rfl rfl rfl rfl (x_rcv_s 455 (x_KS_455 (x_KS_at (x_KS_at hK1 (fun j h1 h2 => fr3 j (by omega))) (fun j h1 h2 => fr4 j (by omega))))) rfl (k_push (x_KS_at (x_KS_at hK1 (fun j h1 h2 => fr3 j (by omega))) (fun j h1 h2 => fr4 j (by omega))) (x_mv_sc hn hbits (by decide) hv4 gv4) ht) (Nat.le_refl _) (Nat.le_refl _) rfl (fun φ5 hR5 => ?_)
    obtain ⟨hK5, hf5⟩ := hR5
    refine q_goto rfl ?_
    exact q_ret rfl (⟨rfl, ⟨by omega, by omega⟩, ⟨by omega, by omega⟩, n, hK5, by rw [if_pos hb2]; exact (x_mv_sc hn hbits (by decide) ((hf5 n (by omega)).trans hv4) gv4), fun j hj1 hj2 => ((hf5 j (by omega)).trans ((fr4 j (by omega)).trans ((fr3 j (by omega)).trans ((hf1 j (by omega)).trans rfl))))⟩)
  · rw [if_neg hb2]
    refine q_if0_s (p2 := 66) rfl (by decide) (by omega) rfl (fun _ => ?_) (fun hb => absurd (show 0 = 0 by omega) hb)
    refine q_load (p2 := 74) rfl rfl rfl rfl ?_
    refine q_getv (p2 := 75) rfl hK1.1.choose_spec.1 (by decide) hK1.1.choose_spec.2.2.2.1 rfl ?_
    refine q_callvE (xs := [(6, 225, 0), (6, 455, 0)]) (p2 := 76) rfl rfl rfl rfl (x_rcv_s 455 (x_KS_455 hK1)) rfl (k_push hK1 (x_mv_at hN (fun j hj hne => ((hf1 j (by omega)).trans rfl))) ht) (Nat.le_refl _) (Nat.le_refl _) rfl (fun φ6 hR6 => ?_)
    obtain ⟨hK6, hf6⟩ := hR6
    refine q_goto rfl ?_
    exact q_ret rfl (⟨rfl, ⟨by omega, by omega⟩, ⟨by omega, by omega⟩, 225, hK6, by rw [if_neg hb2]; exact (x_mv_at hN (fun j hj hne => ((hf6 j (by omega)).trans ((hf1 j (by omega)).trans rfl)))), fun j hj1 hj2 => ((hf6 j (by omega)).trans ((hf1 j (by omega)).trans rfl))⟩)
theorem k_plain_9 (hP : x_pop φ A B made sv svm s9 fP) (hK : x_KS φ top (fr + 1) pc_ mm mi st lo re rs fl se co) (hpc : pc_ + 8 < 12288) (ht : top < 4096) {m : MV} (hv : x_mv φ (se fr) m) (hf8 : fr < 8) : x_f x_P (d + 2) 109 [(6, 455, 0), (0, 9, 0), (11, 0, 0), (11, 0, 0), (11, 0, 0)] φ n sl (x_bV n sl 0 0 (fun φ2 => x_KS φ2 (top + 1) (fr + 1) pc_ mm mi (fun i => if i = top then (se fr) else st i) lo re rs fl se co ∧ x_kf φ φ2)) := by
  refine x_f_of rfl ?_
  refine x_n_lt (fun hlt => ?_)
  refine q_load (p2 := 1) rfl rfl rfl rfl ?_
  refine q_switch (tgt := 85) rfl (by decide) rfl ?_
  refine q_load (p2 := 86) rfl rfl rfl rfl ?_
  refine q_load (p2 := 87) rfl rfl rfl rfl ?_
  refine q_getv (p2 := 88) rfl hK.1.choose_spec.1 (by decide) hK.1.choose_spec.2.2.2.2.2.2.2.2.2.2.2.1 rfl ?_
  refine q_if0_s (p2 := 89) rfl (by decide) (by first | omega | (rw [show fr + 1 - 1 = fr from rfl]; omega)) rfl (fun hb => absurd hb (show ¬ (¬ (0 < (fr + 1))) by first | omega | (rw [show fr + 1 - 1 = fr from rfl]; omega))) (fun _ => ?_)
  refine q_load (p2 := 90) rfl rfl rfl rfl ?_
  refine q_getv (p2 := 91) rfl hK.1.choose_spec.1 (by decide) hK.1.choose_spec.2.2.2.2.2.2.2.2.2.2.2.2.2.2.2.1 rfl ?_
  refine q_load (p2 := 92) rfl rfl rfl rfl ?_
  refine q_getv (p2 := 93) rfl hK.1.choose_spec.1 (by decide) hK.1.choose_spec.2.2.2.2.2.2.2.2.2.2.2.1 rfl ?_
  refine q_const (p2 := 94) rfl rfl ?_
  refine q_isub (p2 := 95) rfl (by first | omega | (rw [show fr + 1 - 1 = fr from rfl]; omega)) (by first | omega | (rw [show fr + 1 - 1 = fr from rfl]; omega)) rfl ?_
  refine q_aldv (v := (6, (se fr), 0)) (p2 := 96) rfl (hK.2.2.2.2.2.2.1) (by first | omega | (rw [show fr + 1 - 1 = fr from rfl]; omega)) (by first | omega | (rw [show fr + 1 - 1 = fr from rfl]; omega)) rfl rfl ?_
  refine q_goto rfl ?_
  refine q_callvE (xs := [(6, (se fr), 0), (6, 455, 0)]) (p2 := 100) rfl rfl rfl rfl (x_rcv_s 455 (x_KS_455 hK)) rfl (k_push hK hv ht) (Nat.le_refl _) (Nat.le_refl _) rfl (fun φ1 hR1 => ?_)
  obtain ⟨hK1, hf1⟩ := hR1
  refine q_goto rfl ?_
  exact q_ret rfl (⟨rfl, ⟨Nat.le_refl _, Nat.le_refl _⟩, ⟨Nat.le_refl _, Nat.le_refl _⟩, hK1, fun j hj => ((hf1 j hj).trans rfl)⟩)
theorem k_plain_10 (hP : x_pop φ A B made sv svm s9 fP) (hK : x_KS φ top (fr + 1) pc_ mm mi st lo re rs fl se co) (hpc : pc_ + 8 < 12288) (ht : top < 4096) {m : MV} (hv : x_mv φ (lo (fr * 32 + co pc_)) m) (hf8 : fr < 8) (hs : co pc_ < 32) : x_f x_P (d + 2) 109 [(6, 455, 0), (0, 10, 0), (11, 0, 0), (11, 0, 0), (11, 0, 0)] φ n sl (x_bV n sl 0 0 (fun φ2 => x_KS φ2 (top + 1) (fr + 1) (pc_ + 1) mm mi (fun i => if i = top then (lo (fr * 32 + co pc_)) else st i) lo re rs fl se co ∧ x_kf φ φ2)) := by
  refine x_f_of rfl ?_
  refine x_n_lt (fun hlt => ?_)
  refine q_load (p2 := 1) rfl rfl rfl rfl ?_
  refine q_switch (tgt := 101) rfl (by decide) rfl ?_
  refine q_load (p2 := 102) rfl rfl rfl rfl ?_
  refine q_load (p2 := 103) rfl rfl rfl rfl ?_
  refine q_getv (p2 := 104) rfl hK.1.choose_spec.1 (by decide) hK.1.choose_spec.2.2.2.2.2.2.1 rfl ?_
  refine q_load (p2 := 105) rfl rfl rfl rfl ?_
  refine q_load (p2 := 106) rfl rfl rfl rfl ?_
  refine q_callrE (xs := [(6, 455, 0)]) (p2 := 107) rfl rfl rfl rfl (x_rcv_s 455 (x_KS_455 hK)) rfl (k_fetch (x_pop_at hP rfl) hK (by omega)) (Nat.le_refl _) (Nat.le_refl _) rfl (fun φ1 hR1 => ?_)
  obtain ⟨hK1, hf1⟩ := hR1
  refine q_callr (xs := [(0, (co pc_), 0), (6, 455, 0)]) (p2 := 108) rfl rfl rfl rfl (x_rcv_s 455 (x_KS_455 hK1)) rfl (e_slotAt hK1.1.choose_spec (by omega) hf8) (Nat.le_refl _) (Nat.le_refl _) rfl ?_
  refine q_aldv (v := (6, (lo (fr * 32 + co pc_)), 0)) (p2 := 109) rfl (hK1.2.2.1) (by first | omega | (rw [show fr + 1 - 1 = fr from rfl]; omega)) (by first | omega | (rw [show fr + 1 - 1 = fr from rfl]; omega)) rfl rfl ?_
  refine q_callvE (xs := [(6, (lo (fr * 32 + co pc_)), 0), (6, 455, 0)]) (p2 := 110) rfl rfl rfl rfl (x_rcv_s 455 (x_KS_455 hK1)) rfl (k_push hK1 (x_mv_at hv (fun j hj hne => ((hf1 j (by omega)).trans rfl))) ht) (Nat.le_refl _) (Nat.le_refl _) rfl (fun φ2 hR2 => ?_)
  obtain ⟨hK2, hf2⟩ := hR2
  refine q_goto rfl ?_
  exact q_ret rfl (⟨rfl, ⟨Nat.le_refl _, Nat.le_refl _⟩, ⟨Nat.le_refl _, Nat.le_refl _⟩, hK2, fun j hj => ((hf2 j hj).trans ((hf1 j hj).trans rfl))⟩)
end FPOP26
