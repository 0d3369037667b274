section FPOP28
variable {d n sl top fr pc_ mm mi A B made sv svm s9 : Nat} {st lo re rs fl se co comb : Nat → Nat} {hm : Nat → MV} {φ : FH} {fP : Nat → XV}
theorem k_op_19_8 (hP : x_pop φ A B made sv svm s9 fP) (hK : x_KS φ (top + 1) fr pc_ mm mi st lo re rs fl se co) (hpc : pc_ + 8 < 12288) (ht : top < 4096) {m : MV} (hv : x_mv φ (st top) m) (hw : co pc_ = 8) (hn : 486 ≤ n) : x_f x_P (d + 4) 110 [(6, 455, 0), (0, 19, 0), (11, 0, 0), (11, 0, 0), (11, 0, 0), (11, 0, 0), (11, 0, 0), (11, 0, 0), (11, 0, 0)] φ n sl (x_bV n sl 1 7 (fun φ2 => ∃ v, x_KS φ2 (top + 1) fr (pc_ + 1) mm mi (fun i => if i = top then v else st i) lo re rs fl se co ∧ x_mv φ2 v (if m.1 = 0 then (3, 0, 0, 0, []) else (3, 2, 0, 0, [])) ∧ ∀ j, j < n → (j < 455 ∨ 466 ≤ j) → φ2 j = φ j)) := by
  refine x_f_of rfl ?_
  refine x_n_lt (fun hlt => ?_)
  refine q_load (p2 := 1) rfl rfl rfl rfl ?_
  refine q_switch (tgt := 28) rfl (by decide) rfl ?_
  refine q_load (p2 := 29) rfl rfl rfl rfl ?_
  refine q_callrE (xs := [(6, 455, 0)]) (p2 := 30) rfl rfl rfl rfl (x_rcv_s 455 (x_KS_455 hK)) rfl ((hw ▸ k_fetch (x_pop_at hP rfl) hK (by omega))) (Nat.le_refl _) (Nat.le_refl _) rfl (fun φ1 hR1 => ?_)
  obtain ⟨hK1, hf1⟩ := hR1
  refine q_store (p2 := 31) rfl rfl rfl rfl rfl ?_
  refine q_load (p2 := 32) rfl rfl rfl rfl ?_
  refine q_const (p2 := 33) rfl rfl ?_
  refine q_icmp_s (p2 := 34) rfl (by decide) (by omega) (by omega) rfl (fun hb => absurd hb (show ¬ (¬ (8 < 11)) by omega)) (fun _ => ?_)
  refine q_load (p2 := 35) rfl rfl rfl rfl ?_
  refine q_getv (p2 := 36) rfl hK1.1.choose_spec.1 (by decide) hK1.1.choose_spec.2.2.2.1 rfl ?_
  refine q_goto rfl ?_
  refine q_store (p2 := 40) rfl rfl rfl rfl rfl ?_
  refine q_load (p2 := 41) rfl rfl rfl rfl ?_
  refine q_load (p2 := 42) rfl rfl rfl rfl ?_
  refine q_getv (p2 := 43) rfl hK1.1.choose_spec.1 (by decide) hK1.1.choose_spec.2.2.1 rfl ?_
  refine q_load (p2 := 44) rfl rfl rfl rfl ?_
  refine q_load (p2 := 45) rfl rfl rfl rfl ?_
  refine q_callrE (xs := [(6, 455, 0)]) (p2 := 46) rfl rfl rfl rfl (x_rcv_s 455 (x_KS_455 hK1)) rfl (k_pop hK1 ht) (Nat.le_refl _) (Nat.le_refl _) rfl (fun φ2 hR2 => ?_)
  obtain ⟨hK2, hf2⟩ := hR2
  refine q_load (p2 := 47) rfl rfl rfl rfl ?_
  refine q_callrE (xs := [(6, 225, 0), (6, (st top), 0), (0, 8, 0), (6, 466, 0)]) (p2 := 48) rfl rfl rfl rfl (x_rcv_s 466 hK2.2.2.2.2.2.2.2.2.1.choose_spec.1) rfl (e_builtIn_8 hK2.2.2.2.2.2.2.2.2.1 (x_mv_at hv (fun j hj hne => ((hf2 j (by omega)).trans ((hf1 j (by omega)).trans rfl)))) hn) (by omega) (by omega) rfl (fun φ3 hR3 => ?_)
  obtain ⟨hv3, hf3⟩ := hR3
  refine q_callvE (xs := [(6, n, 0), (6, 455, 0)]) (p2 := 49) rfl rfl rfl rfl (x_rcv_s 455 (x_KS_455 (x_KS_at hK2 (fun j h1 h2 => hf3 j (by omega))))) rfl (k_push (x_KS_at hK2 (fun j h1 h2 => hf3 j (by omega))) hv3 ht) (Nat.le_refl _) (Nat.le_refl _) rfl (fun φ4 hR4 => ?_)
  obtain ⟨hK4, hf4⟩ := hR4
  refine q_goto rfl ?_
  exact q_ret rfl (⟨rfl, ⟨by omega, by omega⟩, ⟨by omega, by omega⟩, n, hK4, (x_mv_at hv3 (fun j hj hne => ((hf4 j (by omega)).trans rfl))), fun j hj1 hj2 => ((hf4 j (by omega)).trans ((hf3 j (by omega)).trans ((hf2 j (by omega)).trans ((hf1 j (by omega)).trans rfl))))⟩)
theorem k_op_19_9 (hP : x_pop φ A B made sv svm s9 fP) (hK : x_KS φ (top + 1) fr pc_ mm mi st lo re rs fl se co) (hpc : pc_ + 8 < 12288) (ht : top < 4096) (hS : x_PS φ A B made sv svm s9 comb hm) (hN : x_mv φ 225 MV0) {m : MV} (hv : x_mv φ (st top) m) (hw : co pc_ = 9) (hn : 486 ≤ n) : x_f x_P (d + 5) 110 [(6, 455, 0), (0, 19, 0), (11, 0, 0), (11, 0, 0), (11, 0, 0), (11, 0, 0), (11, 0, 0), (11, 0, 0), (11, 0, 0)] φ n sl (x_bV n sl 3 55 (fun φ2 => ∃ v, x_KS φ2 (top + 1) fr (pc_ + 1) mm mi (fun i => if i = top then v else st i) lo re rs fl se co ∧ x_mv φ2 v (if m.1 = 5 then (if (x_al comb hm m.2.1 (made * 40)).length ≤ 24 then (6, 0, 2, 5, (x_al comb hm m.2.1 (made * 40))) else MV0) else MV0) ∧ ∀ j, j < n → (j < 455 ∨ 466 ≤ j) → φ2 j = φ j)) := by
  refine x_f_of rfl ?_
  refine x_n_lt (fun hlt => ?_)
  refine q_load (p2 := 1) rfl rfl rfl rfl ?_
  refine q_switch (tgt := 28) rfl (by decide) rfl ?_
  refine q_load (p2 := 29) rfl rfl rfl rfl ?_
  refine q_callrE (xs := [(6, 455, 0)]) (p2 := 30) rfl rfl rfl rfl (x_rcv_s 455 (x_KS_455 hK)) rfl ((hw ▸ k_fetch (x_pop_at hP rfl) hK (by omega))) (Nat.le_refl _) (Nat.le_refl _) rfl (fun φ1 hR1 => ?_)
  obtain ⟨hK1, hf1⟩ := hR1
  refine q_store (p2 := 31) rfl rfl rfl rfl rfl ?_
  refine q_load (p2 := 32) rfl rfl rfl rfl ?_
  refine q_const (p2 := 33) rfl rfl ?_
  refine q_icmp_s (p2 := 34) rfl (by decide) (by omega) (by omega) rfl (fun hb => absurd hb (show ¬ (¬ (9 < 11)) by omega)) (fun _ => ?_)
  refine q_load (p2 := 35) rfl rfl rfl rfl ?_
  refine q_getv (p2 := 36) rfl hK1.1.choose_spec.1 (by decide) hK1.1.choose_spec.2.2.2.1 rfl ?_
  refine q_goto rfl ?_
  refine q_store (p2 := 40) rfl rfl rfl rfl rfl ?_
  refine q_load (p2 := 41) rfl rfl rfl rfl ?_
  refine q_load (p2 := 42) rfl rfl rfl rfl ?_
  refine q_getv (p2 := 43) rfl hK1.1.choose_spec.1 (by decide) hK1.1.choose_spec.2.2.1 rfl ?_
  refine q_load (p2 := 44) rfl rfl rfl rfl ?_
  refine q_load (p2 := 45) rfl rfl rfl rfl ?_
  refine q_callrE (xs := [(6, 455, 0)]) (p2 := 46) rfl rfl rfl rfl (x_rcv_s 455 (x_KS_455 hK1)) rfl (k_pop hK1 ht) (Nat.le_refl _) (Nat.le_refl _) rfl (fun φ2 hR2 => ?_)
  obtain ⟨hK2, hf2⟩ := hR2
  refine q_load (p2 := 47) rfl rfl rfl rfl ?_
  refine q_callrB (xs := [(6, 225, 0), (6, (st top), 0), (0, 9, 0), (6, 466, 0)]) (p2 := 48) rfl rfl rfl rfl (x_rcv_s 466 hK2.2.2.2.2.2.2.2.2.1.choose_spec.1) rfl (e_builtIn_9 hK2.2.2.2.2.2.2.2.2.1 (x_PS_at hS (fun j hj hne => ((hf2 j (by have := x_some_lt hlt hne; omega)).trans ((hf1 j (by have := x_some_lt hlt hne; omega)).trans rfl)))) (x_mv_at hN (fun j hj hne => ((hf2 j (by omega)).trans ((hf1 j (by omega)).trans rfl)))) (x_mv_at hv (fun j hj hne => ((hf2 j (by omega)).trans ((hf1 j (by omega)).trans rfl)))) hn) rfl (fun w3 φ3 n3 sl3 hn3 hN3 hs3 hT3 hR3 => ?_)
  obtain ⟨v9, rfl, hv3, hf3⟩ := hR3
  refine q_callvE (xs := [(6, v9, 0), (6, 455, 0)]) (p2 := 49) rfl rfl rfl rfl (x_rcv_s 455 (x_KS_455 (x_KS_at hK2 (fun j h1 h2 => hf3 j (by omega))))) rfl (k_push (x_KS_at hK2 (fun j h1 h2 => hf3 j (by omega))) hv3 ht) (Nat.le_refl _) (Nat.le_refl _) rfl (fun φ4 hR4 => ?_)
  obtain ⟨hK4, hf4⟩ := hR4
  refine q_goto rfl ?_
  exact q_ret rfl (⟨rfl, ⟨by omega, by omega⟩, ⟨by omega, by omega⟩, v9, hK4, (x_mv_at hv3 (fun j hj hne => ((hf4 j (by omega)).trans rfl))), fun j hj1 hj2 => ((hf4 j (by omega)).trans ((hf3 j (by omega)).trans ((hf2 j (by omega)).trans ((hf1 j (by omega)).trans rfl))))⟩)
theorem k_op_13_69 (hP : x_pop φ A B made sv svm s9 fP) (hK : x_KS φ (top + 1 + 1) fr pc_ mm mi st lo re rs fl se co) (hpc : pc_ + 8 < 12288) (ht2 : top + 1 < 4096) (ht : top < 4096) (hN : x_mv φ 225 MV0) {m m2 : MV} (hv : x_mv φ (st top) m) (hw2 : x_mv φ (st (top + 1)) m2) (hw : co pc_ = 69) (hn6 : ¬ (m.1 = 6 ∧ m2.1 = 6)) (hA2 : m.1 ≠ 2) (hB2 : m2.1 ≠ 2) (hab : m.2.1 + m2.2.1 < 2147483648) (hn : 486 ≤ n) : x_f x_P (d + 4) 110 [(6, 455, 0), (0, 13, 0), (11, 0, 0), (11, 0, 0), (11, 0, 0), (11, 0, 0), (11, 0, 0), (11, 0, 0), (11, 0, 0)] φ n sl (x_bV n sl 1 7 (fun φ2 => ∃ v, x_KS φ2 (top + 1) fr (pc_ + 1) mm mi (fun i => if i = top then v else st i) lo re rs fl se co ∧ x_mv φ2 v (if m.1 = 1 ∧ m2.1 = 1 then (1, m.2.1 + m2.2.1, 0, 0, []) else MV0) ∧ ∀ j, j < n → (j < 455 ∨ 466 ≤ j) → φ2 j = φ j)) := by
  refine x_f_of rfl ?_
  refine x_n_lt (fun hlt => ?_)
  obtain ⟨fV, s1, l1, la1, h1, c1, hV, hg, hA⟩ := x_mv_g hv
  have ha := hv.2.1
  obtain ⟨fW, s2, l2, la2, h2, c2, hW, hgw, hB⟩ := x_mv_g hw2
  have hb := hw2.2.1
  have hv486 := hv.1
  have hw486 := hw2.1
  refine q_load (p2 := 1) rfl rfl rfl rfl ?_
  refine q_switch (tgt := 94) rfl (by decide) rfl ?_
  refine q_load (p2 := 95) rfl rfl rfl rfl ?_
  refine q_callrE (xs := [(6, 455, 0)]) (p2 := 96) rfl rfl rfl rfl (x_rcv_s 455 (x_KS_455 hK)) rfl ((hw ▸ k_fetch (x_pop_at hP rfl) hK (by omega))) (Nat.le_refl _) (Nat.le_refl _) rfl (fun φ1 hR1 => ?_)
  obtain ⟨hK1, hf1⟩ := hR1
  refine q_store (p2 := 97) rfl rfl rfl rfl rfl ?_
  refine q_load (p2 := 98) rfl rfl rfl rfl ?_
  refine q_callrE (xs := [(6, 455, 0)]) (p2 := 99) rfl rfl rfl rfl (x_rcv_s 455 (x_KS_455 hK1)) rfl (k_pop (top := top + 1) hK1 (by omega)) (Nat.le_refl _) (Nat.le_refl _) rfl (fun φ2 hR2 => ?_)
  obtain ⟨hK2, hf2⟩ := hR2
  refine q_store (p2 := 100) rfl rfl rfl rfl rfl ?_
  refine q_load (p2 := 101) rfl rfl rfl rfl ?_
  refine q_callrE (xs := [(6, 455, 0)]) (p2 := 102) rfl rfl rfl rfl (x_rcv_s 455 (x_KS_455 hK2)) rfl (k_pop (top := top) hK2 (by omega)) (Nat.le_refl _) (Nat.le_refl _) rfl (fun φ3 hR3 => ?_)
  obtain ⟨hK3, hf3⟩ := hR3
  refine q_store (p2 := 103) rfl rfl rfl rfl rfl ?_
  refine q_load (p2 := 104) rfl rfl rfl rfl ?_
  refine q_getv (p2 := 105) rfl (((hf3 (st top) (by omega)).trans ((hf2 (st top) (by omega)).trans ((hf1 (st top) (by omega)).trans rfl))).trans hV) (by decide) hg.1 rfl ?_
  refine q_const (p2 := 106) rfl rfl ?_
  refine q_icmp_s (p2 := 107) rfl (by decide) (by first | omega | (have := hv.1; have := hw2.1; omega)) (by first | omega | (have := hv.1; have := hw2.1; omega)) rfl (fun hb4 => ?_) (fun hb4 => ?_)
  · have hb4 : ¬ (m.1 = 6) := hb4
    refine q_const (p2 := 114) rfl rfl ?_
    refine q_store (p2 := 115) rfl rfl rfl rfl rfl ?_
    refine q_load (p2 := 116) rfl rfl rfl rfl ?_
    refine q_load (p2 := 117) rfl rfl rfl rfl ?_
    refine q_if0_s (p2 := 118) rfl (by decide) (by first | omega | (have := hv.1; have := hw2.1; omega)) rfl (fun _ => ?_) (fun hb => absurd (show 0 = 0 by first | omega | (have := hv.1; have := hw2.1; omega)) hb)
    refine q_load (p2 := 126) rfl rfl rfl rfl ?_
    refine q_getv (p2 := 127) rfl hK3.1.choose_spec.1 (by decide) hK3.1.choose_spec.2.2.1 rfl ?_
    refine q_load (p2 := 128) rfl rfl rfl rfl ?_
    refine q_load (p2 := 129) rfl rfl rfl rfl ?_
    refine q_load (p2 := 130) rfl rfl rfl rfl ?_
    refine q_callrB (xs := [(6, (st (top + 1)), 0), (6, (st top), 0), (0, 69, 0), (6, 466, 0)]) (p2 := 131) rfl rfl rfl rfl (x_rcv_s 466 hK3.2.2.2.2.2.2.2.2.1.choose_spec.1) rfl (e_numbers_69 hK3.2.2.2.2.2.2.2.2.1 (x_mv_at hN (fun j hj hne => ((hf3 j (by omega)).trans ((hf2 j (by omega)).trans ((hf1 j (by omega)).trans rfl))))) (((hf3 (st top) (by omega)).trans ((hf2 (st top) (by omega)).trans ((hf1 (st top) (by omega)).trans rfl))).trans hV) hg (((hf3 (st (top + 1)) (by omega)).trans ((hf2 (st (top + 1)) (by omega)).trans ((hf1 (st (top + 1)) (by omega)).trans rfl))).trans hW) hgw hA hB ha hb hA2 hB2 hab hn) rfl (fun w5 φ5 n5 sl5 hn5 hN5 hs5 hT5 hR5 => ?_)
    obtain ⟨v9, rfl, hv5, hf5⟩ := hR5
    refine q_callvE (xs := [(6, v9, 0), (6, 455, 0)]) (p2 := 132) rfl rfl rfl rfl (x_rcv_s 455 (x_KS_455 (x_KS_at hK3 (fun j h1 h2 => hf5 j (by omega))))) rfl (k_push (x_KS_at hK3 (fun j h1 h2 => hf5 j (by omega))) hv5 ht) (Nat.le_refl _) (Nat.le_refl _) rfl (fun φ6 hR6 => ?_)
    obtain ⟨hK6, hf6⟩ := hR6
    exact q_ret rfl (⟨rfl, ⟨by omega, by omega⟩, ⟨by omega, by omega⟩, v9, hK6, (x_mv_at hv5 (fun j hj hne => ((hf6 j (by omega)).trans rfl))), fun j hj1 hj2 => ((hf6 j (by omega)).trans ((hf5 j (by omega)).trans ((hf3 j (by omega)).trans ((hf2 j (by omega)).trans ((hf1 j (by omega)).trans rfl)))))⟩)
  · have hb4 : ¬ (¬ (m.1 = 6)) := hb4
    refine q_load (p2 := 108) rfl rfl rfl rfl ?_
    refine q_getv (p2 := 109) rfl (((hf3 (st (top + 1)) (by omega)).trans ((hf2 (st (top + 1)) (by omega)).trans ((hf1 (st (top + 1)) (by omega)).trans rfl))).trans hW) (by decide) hgw.1 rfl ?_
    refine q_const (p2 := 110) rfl rfl ?_
    refine q_icmp_s (p2 := 111) rfl (by decide) (by first | omega | (have := hv.1; have := hw2.1; omega)) (by first | omega | (have := hv.1; have := hw2.1; omega)) rfl (fun hb7 => ?_) (fun hb7 => ?_)
    · have hb7 : ¬ (m2.1 = 6) := hb7
      refine q_const (p2 := 114) rfl rfl ?_
      refine q_store (p2 := 115) rfl rfl rfl rfl rfl ?_
      refine q_load (p2 := 116) rfl rfl rfl rfl ?_
      refine q_load (p2 := 117) rfl rfl rfl rfl ?_
      refine q_if0_s (p2 := 118) rfl (by decide) (by first | omega | (have := hv.1; have := hw2.1; omega)) rfl (fun _ => ?_) (fun hb => absurd (show 0 = 0 by first | omega | (have := hv.1; have := hw2.1; omega)) hb)
      refine q_load (p2 := 126) rfl rfl rfl rfl ?_
      refine q_getv (p2 := 127) rfl hK3.1.choose_spec.1 (by decide) hK3.1.choose_spec.2.2.1 rfl ?_
      refine q_load (p2 := 128) rfl rfl rfl rfl ?_
      refine q_load (p2 := 129) rfl rfl rfl rfl ?_
      refine q_load (p2 := 130) rfl rfl rfl rfl ?_
      refine q_callrB (xs := [(6, (st (top + 1)), 0), (6, (st top), 0), (0, 69, 0), (6, 466, 0)]) (p2 := 131) rfl rfl rfl rfl (x_rcv_s 466 hK3.2.2.2.2.2.2.2.2.1.choose_spec.1) rfl (e_numbers_69 hK3.2.2.2.2.2.2.2.2.1 (x_mv_at hN (fun j hj hne => ((hf3 j (by omega)).trans ((hf2 j (by omega)).trans ((hf1 j (by omega)).trans rfl))))) (((hf3 (st top) (by omega)).trans ((hf2 (st top) (by omega)).trans ((hf1 (st top) (by omega)).trans rfl))).trans hV) hg (((hf3 (st (top + 1)) (by omega)).trans ((hf2 (st (top + 1)) (by omega)).trans ((hf1 (st (top + 1)) (by omega)).trans rfl))).trans hW) hgw hA hB ha hb hA2 hB2 hab hn) rfl (fun w8 φ8 n8 sl8 hn8 hN8 hs8 hT8 hR8 => ?_)
      obtain ⟨v9, rfl, hv8, hf8⟩ := hR8
      refine q_callvE (xs := [(6, v9, 0), (6, 455, 0)]) (p2 := 132) rfl rfl rfl rfl (x_rcv_s 455 (x_KS_455 (x_KS_at hK3 (fun j h1 h2 => hf8 j (by omega))))) rfl (k_push (x_KS_at hK3 (fun j h1 h2 => hf8 j (by omega))) hv8 ht) (Nat.le_refl _) (Nat.le_refl _) rfl (fun φ9 hR9 => ?_)
      obtain ⟨hK9, hf9⟩ := hR9
      exact q_ret rfl (⟨rfl, ⟨by omega, by omega⟩, ⟨by omega, by omega⟩, v9, hK9, (x_mv_at hv8 (fun j hj hne => ((hf9 j (by omega)).trans rfl))), fun j hj1 hj2 => ((hf9 j (by omega)).trans ((hf8 j (by omega)).trans ((hf3 j (by omega)).trans ((hf2 j (by omega)).trans ((hf1 j (by omega)).trans rfl)))))⟩)
    · have hb7 : ¬ (¬ (m2.1 = 6)) := hb7
      refine q_const (p2 := 112) rfl rfl ?_
      refine q_goto rfl ?_
      refine q_store (p2 := 115) rfl rfl rfl rfl rfl ?_
      refine q_load (p2 := 116) rfl rfl rfl rfl ?_
      refine q_load (p2 := 117) rfl rfl rfl rfl ?_
      refine q_if0_s (p2 := 118) rfl (by decide) (by first | omega | (have := hv.1; have := hw2.1; omega)) rfl (fun hb => absurd hb (show ¬ (1 = 0) by first | omega | (have := hv.1; have := hw2.1; omega))) (fun _ => ?_)
      exact absurd (show False by omega) id
theorem k_op_13_71 (hP : x_pop φ A B made sv svm s9 fP) (hK : x_KS φ (top + 1 + 1) fr pc_ mm mi st lo re rs fl se co) (hpc : pc_ + 8 < 12288) (ht2 : top + 1 < 4096) (ht : top < 4096) (hN : x_mv φ 225 MV0) {m m2 : MV} (hv : x_mv φ (st top) m) (hw2 : x_mv φ (st (top + 1)) m2) (hw : co pc_ = 71) (hn6 : ¬ (m.1 = 6 ∧ m2.1 = 6)) (hA2 : m.1 ≠ 2) (hB2 : m2.1 ≠ 2) (hab : m.2.1 * m2.2.1 < 2147483648) (hn : 486 ≤ n) : x_f x_P (d + 4) 110 [(6, 455, 0), (0, 13, 0), (11, 0, 0), (11, 0, 0), (11, 0, 0), (11, 0, 0), (11, 0, 0), (11, 0, 0), (11, 0, 0)] φ n sl (x_bV n sl 1 7 (fun φ2 => ∃ v, x_KS φ2 (top + 1) fr (pc_ + 1) mm mi (fun i => if i = top then v else st i) lo re rs fl se co ∧ x_mv φ2 v (if m.1 = 1 ∧ m2.1 = 1 then (1, m.2.1 * m2.2.1, 0, 0, []) else MV0) ∧ ∀ j, j < n → (j < 455 ∨ 466 ≤ j) → φ2 j = φ j)) := by
  refine x_f_of rfl ?_
  refine x_n_lt (fun hlt => ?_)
  obtain ⟨fV, s1, l1, la1, h1, c1, hV, hg, hA⟩ := x_mv_g hv
  have ha := hv.2.1
  obtain ⟨fW, s2, l2, la2, h2, c2, hW, hgw, hB⟩ := x_mv_g hw2
  have hb := hw2.2.1
  have hv486 := hv.1
  have hw486 := hw2.1
  refine q_load (p2 := 1) rfl rfl rfl rfl ?_
  refine q_switch (tgt := 94) rfl (by decide) rfl ?_
  refine q_load (p2 := 95) rfl rfl rfl rfl ?_
  refine q_callrE (xs := [(6, 455, 0)]) (p2 := 96) rfl rfl rfl rfl (x_rcv_s 455 (x_KS_455 hK)) rfl ((hw ▸ k_fetch (x_pop_at hP rfl) hK (by omega))) (Nat.le_refl _) (Nat.le_refl _) rfl (fun φ1 hR1 => ?_)
  obtain ⟨hK1, hf1⟩ := hR1
  refine q_store (p2 := 97) rfl rfl rfl rfl rfl ?_
  refine q_load (p2 := 98) rfl rfl rfl rfl ?_
  refine q_callrE (xs := [(6, 455, 0)]) (p2 := 99) rfl rfl rfl rfl (x_rcv_s 455 (x_KS_455 hK1)) rfl (k_pop (top := top + 1) hK1 (by omega)) (Nat.le_refl _) (Nat.le_refl _) rfl (fun φ2 hR2 => ?_)
  obtain ⟨hK2, hf2⟩ := hR2
  refine q_store (p2 := 100) rfl rfl rfl rfl rfl ?_
  refine q_load (p2 := 101) rfl rfl rfl rfl ?_
  refine q_callrE (xs := [(6, 455, 0)]) (p2 := 102) rfl rfl rfl rfl (x_rcv_s 455 (x_KS_455 hK2)) rfl (k_pop (top := top) hK2 (by omega)) (Nat.le_refl _) (Nat.le_refl _) rfl (fun φ3 hR3 => ?_)
  obtain ⟨hK3, hf3⟩ := hR3
  refine q_store (p2 := 103) rfl rfl rfl rfl rfl ?_
  refine q_load (p2 := 104) rfl rfl rfl rfl ?_
  refine q_getv (p2 := 105) rfl (((hf3 (st top) (by omega)).trans ((hf2 (st top) (by omega)).trans ((hf1 (st top) (by omega)).trans rfl))).trans hV) (by decide) hg.1 rfl ?_
  refine q_const (p2 := 106) rfl rfl ?_
  refine q_icmp_s (p2 := 107) rfl (by decide) (by first | omega | (have := hv.1; have := hw2.1; omega)) (by first | omega | (have := hv.1; have := hw2.1; omega)) rfl (fun hb4 => ?_) (fun hb4 => ?_)
  · have hb4 : ¬ (m.1 = 6) := hb4
    refine q_const (p2 := 114) rfl rfl ?_
    refine q_store (p2 := 115) rfl rfl rfl rfl rfl ?_
    refine q_load (p2 := 116) rfl rfl rfl rfl ?_
    refine q_load (p2 := 117) rfl rfl rfl rfl ?_
    refine q_if0_s (p2 := 118) rfl (by decide) (by first | omega | (have := hv.1; have := hw2.1; omega)) rfl (fun _ => ?_) (fun hb => absurd (show 0 = 0 by first | omega | (have := hv.1; have := hw2.1; omega)) hb)
    refine q_load (p2 := 126) rfl rfl rfl rfl ?_
    refine q_getv (p2 := 127) rfl hK3.1.choose_spec.1 (by decide) hK3.1.choose_spec.2.2.1 rfl ?_
    refine q_load (p2 := 128) rfl rfl rfl rfl ?_
    refine q_load (p2 := 129) rfl rfl rfl rfl ?_
    refine q_load (p2 := 130) rfl rfl rfl rfl ?_
    refine q_callrB (xs := [(6, (st (top + 1)), 0), (6, (st top), 0), (0, 71, 0), (6, 466, 0)]) (p2 := 131) rfl rfl rfl rfl (x_rcv_s 466 hK3.2.2.2.2.2.2.2.2.1.choose_spec.1) rfl (e_numbers_71 hK3.2.2.2.2.2.2.2.2.1 (x_mv_at hN (fun j hj hne => ((hf3 j (by omega)).trans ((hf2 j (by omega)).trans ((hf1 j (by omega)).trans rfl))))) (((hf3 (st top) (by omega)).trans ((hf2 (st top) (by omega)).trans ((hf1 (st top) (by omega)).trans rfl))).trans hV) hg (((hf3 (st (top + 1)) (by omega)).trans ((hf2 (st (top + 1)) (by omega)).trans ((hf1 (st (top + 1)) (by omega)).trans rfl))).trans hW) hgw hA hB ha hb hA2 hB2 hab hn) rfl (fun w5 φ5 n5 sl5 hn5 hN5 hs5 hT5 hR5 => ?_)
    obtain ⟨v9, rfl, hv5, hf5⟩ := hR5
    refine q_callvE (xs := [(6, v9, 0), (6, 455, 0)]) (p2 := 132) rfl rfl rfl rfl (x_rcv_s 455 (x_KS_455 (x_KS_at hK3 (fun j h1 h2 => hf5 j (by omega))))) rfl (k_push (x_KS_at hK3 (fun j h1 h2 => hf5 j (by omega))) hv5 ht) (Nat.le_refl _) (Nat.le_refl _) rfl (fun φ6 hR6 => ?_)
    obtain ⟨hK6, hf6⟩ := hR6
    exact q_ret rfl (⟨rfl, ⟨by omega, by omega⟩, ⟨by omega, by omega⟩, v9, hK6, (x_mv_at hv5 (fun j hj hne => ((hf6 j (by omega)).trans rfl))), fun j hj1 hj2 => ((hf6 j (by omega)).trans ((hf5 j (by omega)).trans ((hf3 j (by omega)).trans ((hf2 j (by omega)).trans ((hf1 j (by omega)).trans rfl)))))⟩)
  · have hb4 : ¬ (¬ (m.1 = 6)) := hb4
    refine q_load (p2 := 108) rfl rfl rfl rfl ?_
    refine q_getv (p2 := 109) rfl (((hf3 (st (top + 1)) (by omega)).trans ((hf2 (st (top + 1)) (by omega)).trans ((hf1 (st (top + 1)) (by omega)).trans rfl))).trans hW) (by decide) hgw.1 rfl ?_
    refine q_const (p2 := 110) rfl rfl ?_
    refine q_icmp_s (p2 := 111) rfl (by decide) (by first | omega | (have := hv.1; have := hw2.1; omega)) (by first | omega | (have := hv.1; have := hw2.1; omega)) rfl (fun hb7 => ?_) (fun hb7 => ?_)
    · have hb7 : ¬ (m2.1 = 6) := hb7
      refine q_const (p2 := 114) rfl rfl ?_
      refine q_store (p2 := 115) rfl rfl rfl rfl rfl ?_
      refine q_load (p2 := 116) rfl rfl rfl rfl ?_
      refine q_load (p2 := 117) rfl rfl rfl rfl ?_
      refine q_if0_s (p2 := 118) rfl (by decide) (by first | omega | (have := hv.1; have := hw2.1; omega)) rfl (fun _ => ?_) (fun hb => absurd (show 0 = 0 by first | omega | (have := hv.1; have := hw2.1; omega)) hb)
      refine q_load (p2 := 126) rfl rfl rfl rfl ?_
      refine q_getv (p2 := 127) rfl hK3.1.choose_spec.1 (by decide) hK3.1.choose_spec.2.2.1 rfl ?_
      refine q_load (p2 := 128) rfl rfl rfl rfl ?_
      refine q_load (p2 := 129) rfl rfl rfl rfl ?_
      refine q_load (p2 := 130) rfl rfl rfl rfl ?_
      refine q_callrB (xs := [(6, (st (top + 1)), 0), (6, (st top), 0), (0, 71, 0), (6, 466, 0)]) (p2 := 131) rfl rfl rfl rfl (x_rcv_s 466 hK3.2.2.2.2.2.2.2.2.1.choose_spec.1) rfl (e_numbers_71 hK3.2.2.2.2.2.2.2.2.1 (x_mv_at hN (fun j hj hne => ((hf3 j (by omega)).trans ((hf2 j (by omega)).trans ((hf1 j (by omega)).trans rfl))))) (((hf3 (st top) (by omega)).trans ((hf2 (st top) (by omega)).trans ((hf1 (st top) (by omega)).trans rfl))).trans hV) hg (((hf3 (st (top + 1)) (by omega)).trans ((hf2 (st (top + 1)) (by omega)).trans ((hf1 (st (top + 1)) (by omega)).trans rfl))).trans hW) hgw hA hB ha hb hA2 hB2 hab hn) rfl (fun w8 φ8 n8 sl8 hn8 hN8 hs8 hT8 hR8 => ?_)
      obtain ⟨v9, rfl, hv8, hf8⟩ := hR8
      refine q_callvE (xs := [(6, v9, 0), (6, 455, 0)]) (p2 := 132) rfl rfl rfl rfl (x_rcv_s 455 (x_KS_455 (x_KS_at hK3 (fun j h1 h2 => hf8 j (by omega))))) rfl (k_push (x_KS_at hK3 (fun j h1 h2 => hf8 j (by omega))) hv8 ht) (Nat.le_refl _) (Nat.le_refl _) rfl (fun φ9 hR9 => ?_)
      obtain ⟨hK9, hf9⟩ := hR9
      exact q_ret rfl (⟨rfl, ⟨by omega, by omega⟩, ⟨by omega, by omega⟩, v9, hK9, (x_mv_at hv8 (fun j hj hne => ((hf9 j (by omega)).trans rfl))), fun j hj1 hj2 => ((hf9 j (by omega)).trans ((hf8 j (by omega)).trans ((hf3 j (by omega)).trans ((hf2 j (by omega)).trans ((hf1 j (by omega)).trans rfl)))))⟩)
    · have hb7 : ¬ (¬ (m2.1 = 6)) := hb7
      refine q_const (p2 := 112) rfl rfl ?_
      refine q_goto rfl ?_
      refine q_store (p2 := 115) rfl rfl rfl rfl rfl ?_
      refine q_load (p2 := 116) rfl rfl rfl rfl ?_
      refine q_load (p2 := 117) rfl rfl rfl rfl ?_
      refine q_if0_s (p2 := 118) rfl (by decide) (by first | omega | (have := hv.1; have := hw2.1; omega)) rfl (fun hb => absurd hb (show ¬ (1 = 0) by first | omega | (have := hv.1; have := hw2.1; omega))) (fun _ => ?_)
      exact absurd (show False by omega) id
theorem k_op_15_64 (hP : x_pop φ A B made sv svm s9 fP) (hK : x_KS φ (top + 1 + 1) fr pc_ mm mi st lo re rs fl se co) (hpc : pc_ + 8 < 12288) (ht2 : top + 1 < 4096) (ht : top < 4096) {lik : Nat → Nat} (hL : x_row φ A lik) {m m2 : MV} (hv : x_mv φ (st top) m) (hw2 : x_mv φ (st (top + 1)) m2) (hw : co pc_ = 64) (p1 : x_pv2 m) (p2 : x_pv2 m2) (k1 : m.1 = 0 ∨ m.1 = 5) (k2 : m2.1 = 0 ∨ m2.1 = 5) (hn : 486 ≤ n) : x_f x_P (d + 4) 110 [(6, 455, 0), (0, 15, 0), (11, 0, 0), (11, 0, 0), (11, 0, 0), (11, 0, 0), (11, 0, 0), (11, 0, 0), (11, 0, 0)] φ n sl (x_bV n sl 1 7 (fun φ2 => ∃ v, x_KS φ2 (top + 1) fr (pc_ + 1) mm mi (fun i => if i = top then v else st i) lo re rs fl se co ∧ x_mv φ2 v (if m.1 = 0 ∨ m2.1 = 0 then (3, 1, 0, 0, []) else if x_lk lik made m m2 then (3, 2, 0, 0, []) else (3, 0, 0, 0, [])) ∧ ∀ j, j < n → (j < 455 ∨ 466 ≤ j) → φ2 j = φ j)) := by
  refine x_f_of rfl ?_
  refine x_n_lt (fun hlt => ?_)
  obtain ⟨fV, s1, l1, la1, h1, c1, hV, hg, hA⟩ := x_mv_g hv
  have ha := hv.2.1
  obtain ⟨fW, s2, l2, la2, h2, c2, hW, hgw, hB⟩ := x_mv_g hw2
  have hb := hw2.2.1
  have hv486 := hv.1
  have hw486 := hw2.1
  have hAB := x_pop_AB hP
  refine q_load (p2 := 1) rfl rfl rfl rfl ?_
  refine q_switch (tgt := 78) rfl (by decide) rfl ?_
  refine q_load (p2 := 79) rfl rfl rfl rfl ?_
  refine q_callrE (xs := [(6, 455, 0)]) (p2 := 80) rfl rfl rfl rfl (x_rcv_s 455 (x_KS_455 hK)) rfl ((hw ▸ k_fetch (x_pop_at hP rfl) hK (by omega))) (Nat.le_refl _) (Nat.le_refl _) rfl (fun φ1 hR1 => ?_)
  obtain ⟨hK1, hf1⟩ := hR1
  refine q_store (p2 := 81) rfl rfl rfl rfl rfl ?_
  refine q_load (p2 := 82) rfl rfl rfl rfl ?_
  refine q_callrE (xs := [(6, 455, 0)]) (p2 := 83) rfl rfl rfl rfl (x_rcv_s 455 (x_KS_455 hK1)) rfl (k_pop (top := top + 1) hK1 (by omega)) (Nat.le_refl _) (Nat.le_refl _) rfl (fun φ2 hR2 => ?_)
  obtain ⟨hK2, hf2⟩ := hR2
  refine q_store (p2 := 84) rfl rfl rfl rfl rfl ?_
  refine q_load (p2 := 85) rfl rfl rfl rfl ?_
  refine q_load (p2 := 86) rfl rfl rfl rfl ?_
  refine q_getv (p2 := 87) rfl hK2.1.choose_spec.1 (by decide) hK2.1.choose_spec.2.2.1 rfl ?_
  refine q_load (p2 := 88) rfl rfl rfl rfl ?_
  refine q_load (p2 := 89) rfl rfl rfl rfl ?_
  refine q_callrE (xs := [(6, 455, 0)]) (p2 := 90) rfl rfl rfl rfl (x_rcv_s 455 (x_KS_455 hK2)) rfl (k_pop (top := top) hK2 (by omega)) (Nat.le_refl _) (Nat.le_refl _) rfl (fun φ3 hR3 => ?_)
  obtain ⟨hK3, hf3⟩ := hR3
  refine q_load (p2 := 91) rfl rfl rfl rfl ?_
  refine q_callrE (xs := [(6, (st (top + 1)), 0), (6, (st top), 0), (0, 64, 0), (6, 466, 0)]) (p2 := 92) rfl rfl rfl rfl (x_rcv_s 466 hK3.2.2.2.2.2.2.2.2.1.choose_spec.1) rfl (e_compared hK3.2.2.2.2.2.2.2.2.1 (x_pop_at hP ((hf3 7 (by omega)).trans ((hf2 7 (by omega)).trans ((hf1 7 (by omega)).trans rfl)))) (x_row_at hL ((hf3 A (by omega)).trans ((hf2 A (by omega)).trans ((hf1 A (by omega)).trans rfl)))) (x_mv_at hv (fun j hj hne => ((hf3 j (by omega)).trans ((hf2 j (by omega)).trans ((hf1 j (by omega)).trans rfl))))) (x_mv_at hw2 (fun j hj hne => ((hf3 j (by omega)).trans ((hf2 j (by omega)).trans ((hf1 j (by omega)).trans rfl))))) p1 p2 k1 k2 hn) (by omega) (by omega) rfl (fun φ4 hR4 => ?_)
  obtain ⟨hv4, hf4⟩ := hR4
  refine q_callvE (xs := [(6, n, 0), (6, 455, 0)]) (p2 := 93) rfl rfl rfl rfl (x_rcv_s 455 (x_KS_455 (x_KS_at hK3 (fun j h1 h2 => hf4 j (by omega))))) rfl (k_push (x_KS_at hK3 (fun j h1 h2 => hf4 j (by omega))) hv4 ht) (Nat.le_refl _) (Nat.le_refl _) rfl (fun φ5 hR5 => ?_)
  obtain ⟨hK5, hf5⟩ := hR5
  refine q_goto rfl ?_
  exact q_ret rfl (⟨rfl, ⟨by omega, by omega⟩, ⟨by omega, by omega⟩, n, hK5, (x_mv_at hv4 (fun j hj hne => ((hf5 j (by omega)).trans rfl))), fun j hj1 hj2 => ((hf5 j (by omega)).trans ((hf4 j (by omega)).trans ((hf3 j (by omega)).trans ((hf2 j (by omega)).trans ((hf1 j (by omega)).trans rfl)))))⟩)
end FPOP28
