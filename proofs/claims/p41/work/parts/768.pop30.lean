section FPOP30
variable {d n sl top fr pc_ mm mi A B made sv svm s9 : Nat} {st lo re rs fl se co comb : Nat → Nat} {hm : Nat → MV} {φ : FH} {fP : Nat → XV}
theorem k_op_11_0 (hP : x_pop φ A B made sv svm s9 fP) (hK : x_KS φ (top + 1) fr pc_ mm mi st lo re rs fl se co) (hpc : pc_ + 16 < 12288) (ht : top < 4096) (hC : x_comb φ 226 comb) {held : Nat → Nat} (hH : x_held φ 227 held) (hM : ∀ i, i < 1600 → x_mv φ (held i) (hm i)) (hN : x_mv φ 225 MV0) {m : MV} (hv : x_mv φ (st top) m) (hw : co pc_ = 0) : x_f x_P (d + 5) 110 [(6, 455, 0), (0, 11, 0), (11, 0, 0), (11, 0, 0), (11, 0, 0), (11, 0, 0), (11, 0, 0), (11, 0, 0), (11, 0, 0)] φ n sl (x_bV n sl 0 0 (fun φ2 => ∃ v, x_KS φ2 (top + 1) fr (pc_ + 1) mm mi (fun i => if i = top then v else st i) lo re rs fl se co ∧ x_mv φ2 v (if m.1 = 5 ∧ x_isA made comb m.2.1 0 then hm (m.2.1 * 40 + 0) else MV0) ∧ x_kf φ φ2)) := by
  refine x_f_of rfl ?_
  refine x_n_lt (fun hlt => ?_)
  refine q_load (p2 := 1) rfl rfl rfl rfl ?_
  refine q_switch (tgt := 2) rfl (by decide) rfl ?_
  refine q_load (p2 := 3) rfl rfl rfl rfl ?_
  refine q_load (p2 := 4) rfl rfl rfl rfl ?_
  refine q_callrE (xs := [(6, 455, 0)]) (p2 := 5) rfl rfl rfl rfl (x_rcv_s 455 (x_KS_455 hK)) rfl ((hw ▸ k_fetch (x_pop_at hP rfl) hK (by omega))) (Nat.le_refl _) (Nat.le_refl _) rfl (fun φ1 hR1 => ?_)
  obtain ⟨hK1, hf1⟩ := hR1
  refine q_callvB (xs := [(0, 0, 0), (6, 455, 0)]) (p2 := 6) rfl rfl rfl rfl (x_rcv_s 455 (x_KS_455 hK1)) rfl (k_access_0 (x_pop_at hP ((hf1 7 (by omega)).trans rfl)) hK1 (by omega) ht (x_comb_at hC ((hf1 226 (by omega)).trans rfl)) (x_held_at hH ((hf1 227 (by omega)).trans rfl)) (fun i hi => x_mv_at (hM i hi) (fun j hj hne => ((hf1 j (by omega)).trans rfl))) (x_mv_at hN (fun j hj hne => ((hf1 j (by omega)).trans rfl))) (x_mv_at hv (fun j hj hne => ((hf1 j (by omega)).trans rfl)))) rfl (fun φ2 n2 sl2 hn2 hN2 hs2 hT2 hR2 => ?_)
  obtain ⟨v9, hKx, hvx, hfx⟩ := hR2
  refine q_goto rfl ?_
  exact q_ret rfl (⟨rfl, ⟨by omega, by omega⟩, ⟨by omega, by omega⟩, v9, hKx, hvx, fun j hj => (hfx j hj).trans ((hf1 j hj).trans rfl)⟩)
theorem k_op_11_1 (hP : x_pop φ A B made sv svm s9 fP) (hK : x_KS φ (top + 1) fr pc_ mm mi st lo re rs fl se co) (hpc : pc_ + 16 < 12288) (ht : top < 4096) (hC : x_comb φ 226 comb) {held : Nat → Nat} (hH : x_held φ 227 held) (hM : ∀ i, i < 1600 → x_mv φ (held i) (hm i)) (hN : x_mv φ 225 MV0) {m : MV} (hv : x_mv φ (st top) m) (hw : co pc_ = 1) : x_f x_P (d + 5) 110 [(6, 455, 0), (0, 11, 0), (11, 0, 0), (11, 0, 0), (11, 0, 0), (11, 0, 0), (11, 0, 0), (11, 0, 0), (11, 0, 0)] φ n sl (x_bV n sl 0 0 (fun φ2 => ∃ v, x_KS φ2 (top + 1) fr (pc_ + 1) mm mi (fun i => if i = top then v else st i) lo re rs fl se co ∧ x_mv φ2 v (if m.1 = 5 ∧ x_isA made comb m.2.1 0 then hm (m.2.1 * 40 + 1) else MV0) ∧ x_kf φ φ2)) := by
  refine x_f_of rfl ?_
  refine x_n_lt (fun hlt => ?_)
  refine q_load (p2 := 1) rfl rfl rfl rfl ?_
  refine q_switch (tgt := 2) rfl (by decide) rfl ?_
  refine q_load (p2 := 3) rfl rfl rfl rfl ?_
  refine q_load (p2 := 4) rfl rfl rfl rfl ?_
  refine q_callrE (xs := [(6, 455, 0)]) (p2 := 5) rfl rfl rfl rfl (x_rcv_s 455 (x_KS_455 hK)) rfl ((hw ▸ k_fetch (x_pop_at hP rfl) hK (by omega))) (Nat.le_refl _) (Nat.le_refl _) rfl (fun φ1 hR1 => ?_)
  obtain ⟨hK1, hf1⟩ := hR1
  refine q_callvB (xs := [(0, 1, 0), (6, 455, 0)]) (p2 := 6) rfl rfl rfl rfl (x_rcv_s 455 (x_KS_455 hK1)) rfl (k_access_1 (x_pop_at hP ((hf1 7 (by omega)).trans rfl)) hK1 (by omega) ht (x_comb_at hC ((hf1 226 (by omega)).trans rfl)) (x_held_at hH ((hf1 227 (by omega)).trans rfl)) (fun i hi => x_mv_at (hM i hi) (fun j hj hne => ((hf1 j (by omega)).trans rfl))) (x_mv_at hN (fun j hj hne => ((hf1 j (by omega)).trans rfl))) (x_mv_at hv (fun j hj hne => ((hf1 j (by omega)).trans rfl)))) rfl (fun φ2 n2 sl2 hn2 hN2 hs2 hT2 hR2 => ?_)
  obtain ⟨v9, hKx, hvx, hfx⟩ := hR2
  refine q_goto rfl ?_
  exact q_ret rfl (⟨rfl, ⟨by omega, by omega⟩, ⟨by omega, by omega⟩, v9, hKx, hvx, fun j hj => (hfx j hj).trans ((hf1 j hj).trans rfl)⟩)
theorem k_op_11_3 (hP : x_pop φ A B made sv svm s9 fP) (hK : x_KS φ (top + 1) fr pc_ mm mi st lo re rs fl se co) (hpc : pc_ + 16 < 12288) (ht : top < 4096) (hC : x_comb φ 226 comb) {held : Nat → Nat} (hH : x_held φ 227 held) (hM : ∀ i, i < 1600 → x_mv φ (held i) (hm i)) (hN : x_mv φ 225 MV0) {m : MV} (hv : x_mv φ (st top) m) (hw : co pc_ = 3) : x_f x_P (d + 5) 110 [(6, 455, 0), (0, 11, 0), (11, 0, 0), (11, 0, 0), (11, 0, 0), (11, 0, 0), (11, 0, 0), (11, 0, 0), (11, 0, 0)] φ n sl (x_bV n sl 0 0 (fun φ2 => ∃ v, x_KS φ2 (top + 1) fr (pc_ + 1) mm mi (fun i => if i = top then v else st i) lo re rs fl se co ∧ x_mv φ2 v (if m.1 = 5 ∧ x_isA made comb m.2.1 1 then hm (m.2.1 * 40 + 3) else MV0) ∧ x_kf φ φ2)) := by
  refine x_f_of rfl ?_
  refine x_n_lt (fun hlt => ?_)
  refine q_load (p2 := 1) rfl rfl rfl rfl ?_
  refine q_switch (tgt := 2) rfl (by decide) rfl ?_
  refine q_load (p2 := 3) rfl rfl rfl rfl ?_
  refine q_load (p2 := 4) rfl rfl rfl rfl ?_
  refine q_callrE (xs := [(6, 455, 0)]) (p2 := 5) rfl rfl rfl rfl (x_rcv_s 455 (x_KS_455 hK)) rfl ((hw ▸ k_fetch (x_pop_at hP rfl) hK (by omega))) (Nat.le_refl _) (Nat.le_refl _) rfl (fun φ1 hR1 => ?_)
  obtain ⟨hK1, hf1⟩ := hR1
  refine q_callvB (xs := [(0, 3, 0), (6, 455, 0)]) (p2 := 6) rfl rfl rfl rfl (x_rcv_s 455 (x_KS_455 hK1)) rfl (k_access_3 (x_pop_at hP ((hf1 7 (by omega)).trans rfl)) hK1 (by omega) ht (x_comb_at hC ((hf1 226 (by omega)).trans rfl)) (x_held_at hH ((hf1 227 (by omega)).trans rfl)) (fun i hi => x_mv_at (hM i hi) (fun j hj hne => ((hf1 j (by omega)).trans rfl))) (x_mv_at hN (fun j hj hne => ((hf1 j (by omega)).trans rfl))) (x_mv_at hv (fun j hj hne => ((hf1 j (by omega)).trans rfl)))) rfl (fun φ2 n2 sl2 hn2 hN2 hs2 hT2 hR2 => ?_)
  obtain ⟨v9, hKx, hvx, hfx⟩ := hR2
  refine q_goto rfl ?_
  exact q_ret rfl (⟨rfl, ⟨by omega, by omega⟩, ⟨by omega, by omega⟩, v9, hKx, hvx, fun j hj => (hfx j hj).trans ((hf1 j hj).trans rfl)⟩)
theorem k_op_11_2 (hP : x_pop φ A B made sv svm s9 fP) (hK : x_KS φ (top + 1) fr pc_ mm mi st lo re rs fl se co) (hpc : pc_ + 16 < 12288) (ht : top < 4096) (hC : x_comb φ 226 comb) (hN : x_mv φ 225 MV0) {m : MV} (hv : x_mv φ (st top) m) (h5 : m.1 = 5) (hisA : x_isA made comb m.2.1 0) (hf8 : fr < 8) (hw : co pc_ = 2) : x_f x_P (d + 5) 110 [(6, 455, 0), (0, 11, 0), (11, 0, 0), (11, 0, 0), (11, 0, 0), (11, 0, 0), (11, 0, 0), (11, 0, 0), (11, 0, 0)] φ n sl (x_bV n sl 0 0 (fun φ2 => x_KS φ2 top (fr + 1) 8 mm mi st (x_lo lo fr 32) (fun i => if i = fr then pc_ + 1 else re i) (fun i => if i = fr then 2 else rs i) (fun i => if i = fr then top else fl i) (fun i => if i = fr then st top else se i) co ∧ x_kf φ φ2)) := by
  refine x_f_of rfl ?_
  refine x_n_lt (fun hlt => ?_)
  refine q_load (p2 := 1) rfl rfl rfl rfl ?_
  refine q_switch (tgt := 2) rfl (by decide) rfl ?_
  refine q_load (p2 := 3) rfl rfl rfl rfl ?_
  refine q_load (p2 := 4) rfl rfl rfl rfl ?_
  refine q_callrE (xs := [(6, 455, 0)]) (p2 := 5) rfl rfl rfl rfl (x_rcv_s 455 (x_KS_455 hK)) rfl ((hw ▸ k_fetch (x_pop_at hP rfl) hK (by omega))) (Nat.le_refl _) (Nat.le_refl _) rfl (fun φ1 hR1 => ?_)
  obtain ⟨hK1, hf1⟩ := hR1
  refine q_callvB (xs := [(0, 2, 0), (6, 455, 0)]) (p2 := 6) rfl rfl rfl rfl (x_rcv_s 455 (x_KS_455 hK1)) rfl (k_access_2 (x_pop_at hP ((hf1 7 (by omega)).trans rfl)) hK1 (by omega) ht (x_comb_at hC ((hf1 226 (by omega)).trans rfl)) (x_mv_at hN (fun j hj hne => ((hf1 j (by omega)).trans rfl))) (x_mv_at hv (fun j hj hne => ((hf1 j (by omega)).trans rfl))) h5 hisA hf8) rfl (fun φ2 n2 sl2 hn2 hN2 hs2 hT2 hR2 => ?_)
  obtain ⟨hKx, hfx⟩ := hR2
  refine q_goto rfl ?_
  exact q_ret rfl (⟨rfl, ⟨by omega, by omega⟩, ⟨by omega, by omega⟩, hKx, fun j hj => (hfx j hj).trans ((hf1 j hj).trans rfl)⟩)
theorem k_op_11_4 (hP : x_pop φ A B made sv svm s9 fP) (hK : x_KS φ (top + 1) fr pc_ mm mi st lo re rs fl se co) (hpc : pc_ + 16 < 12288) (ht : top < 4096) (hS : x_PS φ A B made sv svm s9 comb hm) (hC : x_comb φ 226 comb) {m : MV} (hv : x_mv φ (st top) m) (h5 : m.1 = 5) (hisA : x_isA made comb m.2.1 2) (hn : 486 ≤ n) (hw : co pc_ = 4) : x_f x_P (d + 5) 110 [(6, 455, 0), (0, 11, 0), (11, 0, 0), (11, 0, 0), (11, 0, 0), (11, 0, 0), (11, 0, 0), (11, 0, 0), (11, 0, 0)] φ n sl (x_bV n sl 3 55 (fun φ2 => ∃ v, x_KS φ2 (top + 1) fr (pc_ + 1) mm mi (fun i => if i = top then v else st i) lo re rs fl se co ∧ x_mv φ2 v (if (x_fl (fun y => comb y ≠ 0 ∧ x_ho (hm (y * 40 + 3)) m.2.1) made).length ≤ 24 then (6, 0, 3, 5, (x_fl (fun y => comb y ≠ 0 ∧ x_ho (hm (y * 40 + 3)) m.2.1) made)) else MV0) ∧ ∀ j, j < n → (j < 455 ∨ 466 ≤ j) → φ2 j = φ j)) := by
  refine x_f_of rfl ?_
  refine x_n_lt (fun hlt => ?_)
  refine q_load (p2 := 1) rfl rfl rfl rfl ?_
  refine q_switch (tgt := 2) rfl (by decide) rfl ?_
  refine q_load (p2 := 3) rfl rfl rfl rfl ?_
  refine q_load (p2 := 4) rfl rfl rfl rfl ?_
  refine q_callrE (xs := [(6, 455, 0)]) (p2 := 5) rfl rfl rfl rfl (x_rcv_s 455 (x_KS_455 hK)) rfl ((hw ▸ k_fetch (x_pop_at hP rfl) hK (by omega))) (Nat.le_refl _) (Nat.le_refl _) rfl (fun φ1 hR1 => ?_)
  obtain ⟨hK1, hf1⟩ := hR1
  refine q_callvB (xs := [(0, 4, 0), (6, 455, 0)]) (p2 := 6) rfl rfl rfl rfl (x_rcv_s 455 (x_KS_455 hK1)) rfl (k_access_4 (x_pop_at hP ((hf1 7 (by omega)).trans rfl)) hK1 (by omega) ht (x_PS_at hS (fun j hj hne => ((hf1 j (by have := x_some_lt hlt hne; omega)).trans rfl))) (x_comb_at hC ((hf1 226 (by omega)).trans rfl)) (x_mv_at hv (fun j hj hne => ((hf1 j (by omega)).trans rfl))) h5 hisA hn) rfl (fun φ2 n2 sl2 hn2 hN2 hs2 hT2 hR2 => ?_)
  obtain ⟨v9, hKx, hvx, hfx⟩ := hR2
  refine q_goto rfl ?_
  exact q_ret rfl (⟨rfl, ⟨by omega, by omega⟩, ⟨by omega, by omega⟩, v9, hKx, hvx, fun j hj1 hj2 => (hfx j hj1 hj2).trans ((hf1 j hj2).trans rfl)⟩)
end FPOP30
