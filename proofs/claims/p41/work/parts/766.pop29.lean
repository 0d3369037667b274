section FPOP29
variable {d n sl top fr pc_ mm mi A B made sv svm s9 : Nat} {st lo re rs fl se co comb : Nat → Nat} {hm : Nat → MV} {φ : FH} {fP : Nat → XV}
theorem k_access_0 (hP : x_pop φ A B made sv svm s9 fP) (hK : x_KS φ (top + 1) fr pc_ mm mi st lo re rs fl se co) (hpc : pc_ + 8 < 12288) (ht : top < 4096) (hC : x_comb φ 226 comb) {held : Nat → Nat} (hH : x_held φ 227 held) (hM : ∀ i, i < 1600 → x_mv φ (held i) (hm i)) (hN : x_mv φ 225 MV0) {m : MV} (hv : x_mv φ (st top) m) : x_f x_P (d + 4) 183 [(6, 455, 0), (0, 0, 0), (11, 0, 0), (11, 0, 0), (11, 0, 0)] φ n sl (x_bV n sl 0 0 (fun φ2 => ∃ v, x_KS φ2 (top + 1) fr pc_ mm mi (fun i => if i = top then v else st i) lo re rs fl se co ∧ x_mv φ2 v (if m.1 = 5 ∧ x_isA made comb m.2.1 0 then hm (m.2.1 * 40 + 0) else MV0) ∧ x_kf φ φ2)) := by
  refine x_f_of rfl ?_
  refine x_n_lt (fun hlt => ?_)
  obtain ⟨fV, s1, l1, la1, h1, c1, hV, hg, hA⟩ := x_mv_g hv
  have ha := hv.2.1
  have hv486 := hv.1
  have hmade := x_pop_made hP
  refine q_load (p2 := 1) rfl rfl rfl rfl ?_
  refine q_callrE (xs := [(6, 455, 0)]) (p2 := 2) rfl rfl rfl rfl (x_rcv_s 455 (x_KS_455 hK)) rfl (k_pop hK ht) (Nat.le_refl _) (Nat.le_refl _) rfl (fun φ1 hR1 => ?_)
  obtain ⟨hK1, hf1⟩ := hR1
  refine q_store (p2 := 3) rfl rfl rfl rfl rfl ?_
  refine q_load (p2 := 4) rfl rfl rfl rfl ?_
  refine q_getv (p2 := 5) rfl (((hf1 (st top) (by omega)).trans rfl).trans hV) (by decide) hg.1 rfl ?_
  refine q_const (p2 := 6) rfl rfl ?_
  refine q_icmp_s (p2 := 7) rfl (by decide) (by first | omega | (have := hv.1; omega)) (by first | omega | (have := hv.1; omega)) rfl (fun hb2 => ?_) (fun hb2 => ?_)
  · have hb2 : ¬ (m.1 = 5) := hb2
    refine q_load (p2 := 16) rfl rfl rfl rfl ?_
    refine q_load (p2 := 17) rfl rfl rfl rfl ?_
    refine q_getv (p2 := 18) rfl hK1.1.choose_spec.1 (by decide) hK1.1.choose_spec.2.2.2.1 rfl ?_
    refine q_callvE (xs := [(6, 225, 0), (6, 455, 0)]) (p2 := 19) rfl rfl rfl rfl (x_rcv_s 455 (x_KS_455 hK1)) rfl (k_push hK1 (x_mv_at hN (fun j hj hne => ((hf1 j (by omega)).trans rfl))) ht) (Nat.le_refl _) (Nat.le_refl _) rfl (fun φ3 hR3 => ?_)
    obtain ⟨hK3, hf3⟩ := hR3
    exact q_ret rfl (⟨rfl, ⟨Nat.le_refl _, Nat.le_refl _⟩, ⟨Nat.le_refl _, Nat.le_refl _⟩, 225, hK3, by rw [if_neg (fun z => by omega)]; exact (x_mv_at hN (fun j hj hne => ((hf3 j (by omega)).trans ((hf1 j (by omega)).trans rfl)))), fun j hj => ((hf3 j hj).trans ((hf1 j hj).trans rfl))⟩)
  · have hb2 : ¬ (¬ (m.1 = 5)) := hb2
    refine q_load (p2 := 8) rfl rfl rfl rfl ?_
    refine q_getv (p2 := 9) rfl hK1.1.choose_spec.1 (by decide) hK1.1.choose_spec.2.1 rfl ?_
    refine q_load (p2 := 10) rfl rfl rfl rfl ?_
    refine q_getv (p2 := 11) rfl (((hf1 (st top) (by omega)).trans rfl).trans hV) (by decide) hg.2.1 rfl ?_
    refine q_l2i (z := m.2.1) (p2 := 12) rfl (Nat.mod_eq_of_lt (by first | omega | (have := hv.1; omega))) rfl ?_
    refine q_load (p2 := 13) rfl rfl rfl rfl ?_
    refine q_callr (xs := [(0, 0, 0), (0, m.2.1, 0), (6, 7, 0)]) (p2 := 14) rfl rfl rfl rfl (x_rcv_s 7 (x_pop_at hP ((hf1 7 (by omega)).trans rfl)).1) rfl (e_has_0 (x_pop_at hP ((hf1 7 (by omega)).trans rfl)) (x_comb_at hC ((hf1 226 (by omega)).trans rfl)) hK1.2.2.2.2.2.2.2.2.2 ha) (Nat.le_refl _) (Nat.le_refl _) rfl ?_
    by_cases hb4 : x_isA made comb m.2.1 0
    · rw [if_pos hb4]
      refine q_if0_s (p2 := 15) rfl (by decide) (by first | omega | (have := hv.1; omega)) rfl (fun _ => ?_) (fun hb => absurd (show ¬ (1 = 0) by first | omega | (have := hv.1; omega)) hb)
      refine q_load (p2 := 21) rfl rfl rfl rfl ?_
      refine q_getv (p2 := 22) rfl (((hf1 (st top) (by omega)).trans rfl).trans hV) (by decide) hg.2.1 rfl ?_
      refine q_l2i (z := m.2.1) (p2 := 23) rfl (Nat.mod_eq_of_lt (by first | omega | (have := hv.1; omega))) rfl ?_
      refine q_store (p2 := 24) rfl rfl rfl rfl rfl ?_
      refine q_load (p2 := 25) rfl rfl rfl rfl ?_
      refine q_getv (p2 := 26) rfl hK1.1.choose_spec.1 (by decide) hK1.1.choose_spec.2.1 rfl ?_
      refine q_getv (p2 := 27) rfl (x_pop_at hP ((hf1 7 (by omega)).trans rfl)).1 (by decide) hP.2.1 rfl ?_
      refine q_getv (p2 := 28) rfl hK1.2.2.2.2.2.2.2.2.2.1.choose_spec.1 (by decide) hK1.2.2.2.2.2.2.2.2.2.1.choose_spec.2.2.2.2.2.2.2.2.1 rfl ?_
      refine q_load (p2 := 29) rfl rfl rfl rfl ?_
      refine q_aldv (v := (6, 272, 0)) (p2 := 30) rfl (x_sc_271 hK1.2.2.2.2.2.2.2.2.2) (by first | omega | (have := hv.1; omega)) (by first | omega | (have := hv.1; omega)) rfl rfl ?_
      refine q_store (p2 := 31) rfl rfl rfl rfl rfl ?_
      refine q_load (p2 := 32) rfl rfl rfl rfl ?_
      refine q_const (p2 := 33) rfl rfl ?_
      refine q_aldv (v := (0, 0, 0)) (p2 := 34) rfl (x_sc_272 hK1.2.2.2.2.2.2.2.2.2) (by first | omega | (have := hv.1; omega)) (by first | omega | (have := hv.1; omega)) rfl rfl ?_
      refine q_if0_s (p2 := 35) rfl (by decide) (by first | omega | (have := hv.1; omega)) rfl (fun hb => absurd hb (show ¬ (¬ (0 = 0)) by first | omega | (have := hv.1; omega))) (fun _ => ?_)
      refine q_load (p2 := 36) rfl rfl rfl rfl ?_
      refine q_load (p2 := 37) rfl rfl rfl rfl ?_
      refine q_getv (p2 := 38) rfl hK1.1.choose_spec.1 (by decide) hK1.1.choose_spec.2.1 rfl ?_
      refine q_load (p2 := 39) rfl rfl rfl rfl ?_
      refine q_load (p2 := 40) rfl rfl rfl rfl ?_
      refine q_callr (xs := [(0, 0, 0), (0, m.2.1, 0), (6, 7, 0)]) (p2 := 41) rfl rfl rfl rfl (x_rcv_s 7 (x_pop_at hP ((hf1 7 (by omega)).trans rfl)).1) rfl (e_heldByP (x_pop_at hP ((hf1 7 (by omega)).trans rfl)) (x_held_at hH ((hf1 227 (by omega)).trans rfl)) (by omega) (by decide)) (Nat.le_refl _) (Nat.le_refl _) rfl ?_
      refine q_callvE (xs := [(6, (held (m.2.1 * 40 + 0)), 0), (6, 455, 0)]) (p2 := 42) rfl rfl rfl rfl (x_rcv_s 455 (x_KS_455 hK1)) rfl (k_push hK1 (x_mv_at (hM (m.2.1 * 40 + 0) (by omega)) (fun j hj hne => ((hf1 j (by omega)).trans rfl))) ht) (Nat.le_refl _) (Nat.le_refl _) rfl (fun φ5 hR5 => ?_)
      obtain ⟨hK5, hf5⟩ := hR5
      refine q_goto rfl ?_
      exact q_ret rfl (⟨rfl, ⟨Nat.le_refl _, Nat.le_refl _⟩, ⟨Nat.le_refl _, Nat.le_refl _⟩, (held (m.2.1 * 40 + 0)), hK5, by rw [if_pos ⟨by omega, hb4⟩]; exact (x_mv_at (hM (m.2.1 * 40 + 0) (by omega)) (fun j hj hne => ((hf5 j (by omega)).trans ((hf1 j (by omega)).trans rfl)))), fun j hj => ((hf5 j hj).trans ((hf1 j hj).trans rfl))⟩)
    · rw [if_neg hb4]
      refine q_if0_s (p2 := 15) rfl (by decide) (by first | omega | (have := hv.1; omega)) rfl (fun hb => absurd hb (show ¬ (¬ (0 = 0)) by first | omega | (have := hv.1; omega))) (fun _ => ?_)
      refine q_load (p2 := 16) rfl rfl rfl rfl ?_
      refine q_load (p2 := 17) rfl rfl rfl rfl ?_
      refine q_getv (p2 := 18) rfl hK1.1.choose_spec.1 (by decide) hK1.1.choose_spec.2.2.2.1 rfl ?_
      refine q_callvE (xs := [(6, 225, 0), (6, 455, 0)]) (p2 := 19) rfl rfl rfl rfl (x_rcv_s 455 (x_KS_455 hK1)) rfl (k_push hK1 (x_mv_at hN (fun j hj hne => ((hf1 j (by omega)).trans rfl))) ht) (Nat.le_refl _) (Nat.le_refl _) rfl (fun φ6 hR6 => ?_)
      obtain ⟨hK6, hf6⟩ := hR6
      exact q_ret rfl (⟨rfl, ⟨Nat.le_refl _, Nat.le_refl _⟩, ⟨Nat.le_refl _, Nat.le_refl _⟩, 225, hK6, by rw [if_neg (fun z => hb4 z.2)]; exact (x_mv_at hN (fun j hj hne => ((hf6 j (by omega)).trans ((hf1 j (by omega)).trans rfl)))), fun j hj => ((hf6 j hj).trans ((hf1 j hj).trans rfl))⟩)
theorem k_access_1 (hP : x_pop φ A B made sv svm s9 fP) (hK : x_KS φ (top + 1) fr pc_ mm mi st lo re rs fl se co) (hpc : pc_ + 8 < 12288) (ht : top < 4096) (hC : x_comb φ 226 comb) {held : Nat → Nat} (hH : x_held φ 227 held) (hM : ∀ i, i < 1600 → x_mv φ (held i) (hm i)) (hN : x_mv φ 225 MV0) {m : MV} (hv : x_mv φ (st top) m) : x_f x_P (d + 4) 183 [(6, 455, 0), (0, 1, 0), (11, 0, 0), (11, 0, 0), (11, 0, 0)] φ n sl (x_bV n sl 0 0 (fun φ2 => ∃ v, x_KS φ2 (top + 1) fr pc_ mm mi (fun i => if i = top then v else st i) lo re rs fl se co ∧ x_mv φ2 v (if m.1 = 5 ∧ x_isA made comb m.2.1 0 then hm (m.2.1 * 40 + 1) else MV0) ∧ x_kf φ φ2)) := by
  refine x_f_of rfl ?_
  refine x_n_lt (fun hlt => ?_)
  obtain ⟨fV, s1, l1, la1, h1, c1, hV, hg, hA⟩ := x_mv_g hv
  have ha := hv.2.1
  have hv486 := hv.1
  have hmade := x_pop_made hP
  refine q_load (p2 := 1) rfl rfl rfl rfl ?_
  refine q_callrE (xs := [(6, 455, 0)]) (p2 := 2) rfl rfl rfl rfl (x_rcv_s 455 (x_KS_455 hK)) rfl (k_pop hK ht) (Nat.le_refl _) (Nat.le_refl _) rfl (fun φ1 hR1 => ?_)
  obtain ⟨hK1, hf1⟩ := hR1
  refine q_store (p2 := 3) rfl rfl rfl rfl rfl ?_
  refine q_load (p2 := 4) rfl rfl rfl rfl ?_
  refine q_getv (p2 := 5) rfl (((hf1 (st top) (by omega)).trans rfl).trans hV) (by decide) hg.1 rfl ?_
  refine q_const (p2 := 6) rfl rfl ?_
  refine q_icmp_s (p2 := 7) rfl (by decide) (by first | omega | (have := hv.1; omega)) (by first | omega | (have := hv.1; omega)) rfl (fun hb2 => ?_) (fun hb2 => ?_)
  · have hb2 : ¬ (m.1 = 5) := hb2
    refine q_load (p2 := 16) rfl rfl rfl rfl ?_
    refine q_load (p2 := 17) rfl rfl rfl rfl ?_
    refine q_getv (p2 := 18) rfl hK1.1.choose_spec.1 (by decide) hK1.1.choose_spec.2.2.2.1 rfl ?_
    refine q_callvE (xs := [(6, 225, 0), (6, 455, 0)]) (p2 := 19) rfl rfl rfl rfl (x_rcv_s 455 (x_KS_455 hK1)) rfl (k_push hK1 (x_mv_at hN (fun j hj hne => ((hf1 j (by omega)).trans rfl))) ht) (Nat.le_refl _) (Nat.le_refl _) rfl (fun φ3 hR3 => ?_)
    obtain ⟨hK3, hf3⟩ := hR3
    exact q_ret rfl (⟨rfl, ⟨Nat.le_refl _, Nat.le_refl _⟩, ⟨Nat.le_refl _, Nat.le_refl _⟩, 225, hK3, by rw [if_neg (fun z => by omega)]; exact (x_mv_at hN (fun j hj hne => ((hf3 j (by omega)).trans ((hf1 j (by omega)).trans rfl)))), fun j hj => ((hf3 j hj).trans ((hf1 j hj).trans rfl))⟩)
  · have hb2 : ¬ (¬ (m.1 = 5)) := hb2
    refine q_load (p2 := 8) rfl rfl rfl rfl ?_
    refine q_getv (p2 := 9) rfl hK1.1.choose_spec.1 (by decide) hK1.1.choose_spec.2.1 rfl ?_
    refine q_load (p2 := 10) rfl rfl rfl rfl ?_
    refine q_getv (p2 := 11) rfl (((hf1 (st top) (by omega)).trans rfl).trans hV) (by decide) hg.2.1 rfl ?_
    refine q_l2i (z := m.2.1) (p2 := 12) rfl (Nat.mod_eq_of_lt (by first | omega | (have := hv.1; omega))) rfl ?_
    refine q_load (p2 := 13) rfl rfl rfl rfl ?_
    refine q_callr (xs := [(0, 1, 0), (0, m.2.1, 0), (6, 7, 0)]) (p2 := 14) rfl rfl rfl rfl (x_rcv_s 7 (x_pop_at hP ((hf1 7 (by omega)).trans rfl)).1) rfl (e_has_1 (x_pop_at hP ((hf1 7 (by omega)).trans rfl)) (x_comb_at hC ((hf1 226 (by omega)).trans rfl)) hK1.2.2.2.2.2.2.2.2.2 ha) (Nat.le_refl _) (Nat.le_refl _) rfl ?_
    by_cases hb4 : x_isA made comb m.2.1 0
    · rw [if_pos hb4]
      refine q_if0_s (p2 := 15) rfl (by decide) (by first | omega | (have := hv.1; omega)) rfl (fun _ => ?_) (fun hb => absurd (show ¬ (1 = 0) by first | omega | (have := hv.1; omega)) hb)
      refine q_load (p2 := 21) rfl rfl rfl rfl ?_
      refine q_getv (p2 := 22) rfl (((hf1 (st top) (by omega)).trans rfl).trans hV) (by decide) hg.2.1 rfl ?_
      refine q_l2i (z := m.2.1) (p2 := 23) rfl (Nat.mod_eq_of_lt (by first | omega | (have := hv.1; omega))) rfl ?_
      refine q_store (p2 := 24) rfl rfl rfl rfl rfl ?_
      refine q_load (p2 := 25) rfl rfl rfl rfl ?_
      refine q_getv (p2 := 26) rfl hK1.1.choose_spec.1 (by decide) hK1.1.choose_spec.2.1 rfl ?_
      refine q_getv (p2 := 27) rfl (x_pop_at hP ((hf1 7 (by omega)).trans rfl)).1 (by decide) hP.2.1 rfl ?_
      refine q_getv (p2 := 28) rfl hK1.2.2.2.2.2.2.2.2.2.1.choose_spec.1 (by decide) hK1.2.2.2.2.2.2.2.2.2.1.choose_spec.2.2.2.2.2.2.2.2.1 rfl ?_
      refine q_load (p2 := 29) rfl rfl rfl rfl ?_
      refine q_aldv (v := (6, 273, 0)) (p2 := 30) rfl (x_sc_271 hK1.2.2.2.2.2.2.2.2.2) (by first | omega | (have := hv.1; omega)) (by first | omega | (have := hv.1; omega)) rfl rfl ?_
      refine q_store (p2 := 31) rfl rfl rfl rfl rfl ?_
      refine q_load (p2 := 32) rfl rfl rfl rfl ?_
      refine q_const (p2 := 33) rfl rfl ?_
      refine q_aldv (v := (0, 0, 0)) (p2 := 34) rfl (x_sc_273 hK1.2.2.2.2.2.2.2.2.2) (by first | omega | (have := hv.1; omega)) (by first | omega | (have := hv.1; omega)) rfl rfl ?_
      refine q_if0_s (p2 := 35) rfl (by decide) (by first | omega | (have := hv.1; omega)) rfl (fun hb => absurd hb (show ¬ (¬ (0 = 0)) by first | omega | (have := hv.1; omega))) (fun _ => ?_)
      refine q_load (p2 := 36) rfl rfl rfl rfl ?_
      refine q_load (p2 := 37) rfl rfl rfl rfl ?_
      refine q_getv (p2 := 38) rfl hK1.1.choose_spec.1 (by decide) hK1.1.choose_spec.2.1 rfl ?_
      refine q_load (p2 := 39) rfl rfl rfl rfl ?_
      refine q_load (p2 := 40) rfl rfl rfl rfl ?_
      refine q_callr (xs := [(0, 1, 0), (0, m.2.1, 0), (6, 7, 0)]) (p2 := 41) rfl rfl rfl rfl (x_rcv_s 7 (x_pop_at hP ((hf1 7 (by omega)).trans rfl)).1) rfl (e_heldByP (x_pop_at hP ((hf1 7 (by omega)).trans rfl)) (x_held_at hH ((hf1 227 (by omega)).trans rfl)) (by omega) (by decide)) (Nat.le_refl _) (Nat.le_refl _) rfl ?_
      refine q_callvE (xs := [(6, (held (m.2.1 * 40 + 1)), 0), (6, 455, 0)]) (p2 := 42) rfl rfl rfl rfl (x_rcv_s 455 (x_KS_455 hK1)) rfl (k_push hK1 (x_mv_at (hM (m.2.1 * 40 + 1) (by omega)) (fun j hj hne => ((hf1 j (by omega)).trans rfl))) ht) (Nat.le_refl _) (Nat.le_refl _) rfl (fun φ5 hR5 => ?_)
      obtain ⟨hK5, hf5⟩ := hR5
      refine q_goto rfl ?_
      exact q_ret rfl (⟨rfl, ⟨Nat.le_refl _, Nat.le_refl _⟩, ⟨Nat.le_refl _, Nat.le_refl _⟩, (held (m.2.1 * 40 + 1)), hK5, by rw [if_pos ⟨by omega, hb4⟩]; exact (x_mv_at (hM (m.2.1 * 40 + 1) (by omega)) (fun j hj hne => ((hf5 j (by omega)).trans ((hf1 j (by omega)).trans rfl)))), fun j hj => ((hf5 j hj).trans ((hf1 j hj).trans rfl))⟩)
    · rw [if_neg hb4]
      refine q_if0_s (p2 := 15) rfl (by decide) (by first | omega | (have := hv.1; omega)) rfl (fun hb => absurd hb (show ¬ (¬ (0 = 0)) by first | omega | (have := hv.1; omega))) (fun _ => ?_)
      refine q_load (p2 := 16) rfl rfl rfl rfl ?_
      refine q_load (p2 := 17) rfl rfl rfl rfl ?_
      refine q_getv (p2 := 18) rfl hK1.1.choose_spec.1 (by decide) hK1.1.choose_spec.2.2.2.1 rfl ?_
      refine q_callvE (xs := [(6, 225, 0), (6, 455, 0)]) (p2 := 19) rfl rfl rfl rfl (x_rcv_s 455 (x_KS_455 hK1)) rfl (k_push hK1 (x_mv_at hN (fun j hj hne => ((hf1 j (by omega)).trans rfl))) ht) (Nat.le_refl _) (Nat.le_refl _) rfl (fun φ6 hR6 => ?_)
      obtain ⟨hK6, hf6⟩ := hR6
      exact q_ret rfl (⟨rfl, ⟨Nat.le_refl _, Nat.le_refl _⟩, ⟨Nat.le_refl _, Nat.le_refl _⟩, 225, hK6, by rw [if_neg (fun z => hb4 z.2)]; exact (x_mv_at hN (fun j hj hne => ((hf6 j (by omega)).trans ((hf1 j (by omega)).trans rfl)))), fun j hj => ((hf6 j hj).trans ((hf1 j hj).trans rfl))⟩)
theorem k_access_3 (hP : x_pop φ A B made sv svm s9 fP) (hK : x_KS φ (top + 1) fr pc_ mm mi st lo re rs fl se co) (hpc : pc_ + 8 < 12288) (ht : top < 4096) (hC : x_comb φ 226 comb) {held : Nat → Nat} (hH : x_held φ 227 held) (hM : ∀ i, i < 1600 → x_mv φ (held i) (hm i)) (hN : x_mv φ 225 MV0) {m : MV} (hv : x_mv φ (st top) m) : x_f x_P (d + 4) 183 [(6, 455, 0), (0, 3, 0), (11, 0, 0), (11, 0, 0), (11, 0, 0)] φ n sl (x_bV n sl 0 0 (fun φ2 => ∃ v, x_KS φ2 (top + 1) fr pc_ mm mi (fun i => if i = top then v else st i) lo re rs fl se co ∧ x_mv φ2 v (if m.1 = 5 ∧ x_isA made comb m.2.1 1 then hm (m.2.1 * 40 + 3) else MV0) ∧ x_kf φ φ2)) := by
  refine x_f_of rfl ?_
  refine x_n_lt (fun hlt => ?_)
  obtain ⟨fV, s1, l1, la1, h1, c1, hV, hg, hA⟩ := x_mv_g hv
  have ha := hv.2.1
  have hv486 := hv.1
  have hmade := x_pop_made hP
  refine q_load (p2 := 1) rfl rfl rfl rfl ?_
  refine q_callrE (xs := [(6, 455, 0)]) (p2 := 2) rfl rfl rfl rfl (x_rcv_s 455 (x_KS_455 hK)) rfl (k_pop hK ht) (Nat.le_refl _) (Nat.le_refl _) rfl (fun φ1 hR1 => ?_)
  obtain ⟨hK1, hf1⟩ := hR1
  refine q_store (p2 := 3) rfl rfl rfl rfl rfl ?_
  refine q_load (p2 := 4) rfl rfl rfl rfl ?_
  refine q_getv (p2 := 5) rfl (((hf1 (st top) (by omega)).trans rfl).trans hV) (by decide) hg.1 rfl ?_
  refine q_const (p2 := 6) rfl rfl ?_
  refine q_icmp_s (p2 := 7) rfl (by decide) (by first | omega | (have := hv.1; omega)) (by first | omega | (have := hv.1; omega)) rfl (fun hb2 => ?_) (fun hb2 => ?_)
  · have hb2 : ¬ (m.1 = 5) := hb2
    refine q_load (p2 := 16) rfl rfl rfl rfl ?_
    refine q_load (p2 := 17) rfl rfl rfl rfl ?_
    refine q_getv (p2 := 18) rfl hK1.1.choose_spec.1 (by decide) hK1.1.choose_spec.2.2.2.1 rfl ?_
    refine q_callvE (xs := [(6, 225, 0), (6, 455, 0)]) (p2 := 19) rfl rfl rfl rfl (x_rcv_s 455 (x_KS_455 hK1)) rfl (k_push hK1 (x_mv_at hN (fun j hj hne => ((hf1 j (by omega)).trans rfl))) ht) (Nat.le_refl _) (Nat.le_refl _) rfl (fun φ3 hR3 => ?_)
    obtain ⟨hK3, hf3⟩ := hR3
    exact q_ret rfl (⟨rfl, ⟨Nat.le_refl _, Nat.le_refl _⟩, ⟨Nat.le_refl _, Nat.le_refl _⟩, 225, hK3, by rw [if_neg (fun z => by omega)]; exact (x_mv_at hN (fun j hj hne => ((hf3 j (by omega)).trans ((hf1 j (by omega)).trans rfl)))), fun j hj => ((hf3 j hj).trans ((hf1 j hj).trans rfl))⟩)
  · have hb2 : ¬ (¬ (m.1 = 5)) := hb2
    refine q_load (p2 := 8) rfl rfl rfl rfl ?_
    refine q_getv (p2 := 9) rfl hK1.1.choose_spec.1 (by decide) hK1.1.choose_spec.2.1 rfl ?_
    refine q_load (p2 := 10) rfl rfl rfl rfl ?_
    refine q_getv (p2 := 11) rfl (((hf1 (st top) (by omega)).trans rfl).trans hV) (by decide) hg.2.1 rfl ?_
    refine q_l2i (z := m.2.1) (p2 := 12) rfl (Nat.mod_eq_of_lt (by first | omega | (have := hv.1; omega))) rfl ?_
    refine q_load (p2 := 13) rfl rfl rfl rfl ?_
    refine q_callr (xs := [(0, 3, 0), (0, m.2.1, 0), (6, 7, 0)]) (p2 := 14) rfl rfl rfl rfl (x_rcv_s 7 (x_pop_at hP ((hf1 7 (by omega)).trans rfl)).1) rfl (e_has_3 (x_pop_at hP ((hf1 7 (by omega)).trans rfl)) (x_comb_at hC ((hf1 226 (by omega)).trans rfl)) hK1.2.2.2.2.2.2.2.2.2 ha) (Nat.le_refl _) (Nat.le_refl _) rfl ?_
    by_cases hb4 : x_isA made comb m.2.1 1
    · rw [if_pos hb4]
      refine q_if0_s (p2 := 15) rfl (by decide) (by first | omega | (have := hv.1; omega)) rfl (fun _ => ?_) (fun hb => absurd (show ¬ (1 = 0) by first | omega | (have := hv.1; omega)) hb)
      refine q_load (p2 := 21) rfl rfl rfl rfl ?_
      refine q_getv (p2 := 22) rfl (((hf1 (st top) (by omega)).trans rfl).trans hV) (by decide) hg.2.1 rfl ?_
      refine q_l2i (z := m.2.1) (p2 := 23) rfl (Nat.mod_eq_of_lt (by first | omega | (have := hv.1; omega))) rfl ?_
      refine q_store (p2 := 24) rfl rfl rfl rfl rfl ?_
      refine q_load (p2 := 25) rfl rfl rfl rfl ?_
      refine q_getv (p2 := 26) rfl hK1.1.choose_spec.1 (by decide) hK1.1.choose_spec.2.1 rfl ?_
      refine q_getv (p2 := 27) rfl (x_pop_at hP ((hf1 7 (by omega)).trans rfl)).1 (by decide) hP.2.1 rfl ?_
      refine q_getv (p2 := 28) rfl hK1.2.2.2.2.2.2.2.2.2.1.choose_spec.1 (by decide) hK1.2.2.2.2.2.2.2.2.2.1.choose_spec.2.2.2.2.2.2.2.2.1 rfl ?_
      refine q_load (p2 := 29) rfl rfl rfl rfl ?_
      refine q_aldv (v := (6, 275, 0)) (p2 := 30) rfl (x_sc_271 hK1.2.2.2.2.2.2.2.2.2) (by first | omega | (have := hv.1; omega)) (by first | omega | (have := hv.1; omega)) rfl rfl ?_
      refine q_store (p2 := 31) rfl rfl rfl rfl rfl ?_
      refine q_load (p2 := 32) rfl rfl rfl rfl ?_
      refine q_const (p2 := 33) rfl rfl ?_
      refine q_aldv (v := (0, 0, 0)) (p2 := 34) rfl (x_sc_275 hK1.2.2.2.2.2.2.2.2.2) (by first | omega | (have := hv.1; omega)) (by first | omega | (have := hv.1; omega)) rfl rfl ?_
      refine q_if0_s (p2 := 35) rfl (by decide) (by first | omega | (have := hv.1; omega)) rfl (fun hb => absurd hb (show ¬ (¬ (0 = 0)) by first | omega | (have := hv.1; omega))) (fun _ => ?_)
      refine q_load (p2 := 36) rfl rfl rfl rfl ?_
      refine q_load (p2 := 37) rfl rfl rfl rfl ?_
      refine q_getv (p2 := 38) rfl hK1.1.choose_spec.1 (by decide) hK1.1.choose_spec.2.1 rfl ?_
      refine q_load (p2 := 39) rfl rfl rfl rfl ?_
      refine q_load (p2 := 40) rfl rfl rfl rfl ?_
      refine q_callr (xs := [(0, 3, 0), (0, m.2.1, 0), (6, 7, 0)]) (p2 := 41) rfl rfl rfl rfl (x_rcv_s 7 (x_pop_at hP ((hf1 7 (by omega)).trans rfl)).1) rfl (e_heldByP (x_pop_at hP ((hf1 7 (by omega)).trans rfl)) (x_held_at hH ((hf1 227 (by omega)).trans rfl)) (by omega) (by decide)) (Nat.le_refl _) (Nat.le_refl _) rfl ?_
      refine q_callvE (xs := [(6, (held (m.2.1 * 40 + 3)), 0), (6, 455, 0)]) (p2 := 42) rfl rfl rfl rfl (x_rcv_s 455 (x_KS_455 hK1)) rfl (k_push hK1 (x_mv_at (hM (m.2.1 * 40 + 3) (by omega)) (fun j hj hne => ((hf1 j (by omega)).trans rfl))) ht) (Nat.le_refl _) (Nat.le_refl _) rfl (fun φ5 hR5 => ?_)
      obtain ⟨hK5, hf5⟩ := hR5
      refine q_goto rfl ?_
      exact q_ret rfl (⟨rfl, ⟨Nat.le_refl _, Nat.le_refl _⟩, ⟨Nat.le_refl _, Nat.le_refl _⟩, (held (m.2.1 * 40 + 3)), hK5, by rw [if_pos ⟨by omega, hb4⟩]; exact (x_mv_at (hM (m.2.1 * 40 + 3) (by omega)) (fun j hj hne => ((hf5 j (by omega)).trans ((hf1 j (by omega)).trans rfl)))), fun j hj => ((hf5 j hj).trans ((hf1 j hj).trans rfl))⟩)
    · rw [if_neg hb4]
      refine q_if0_s (p2 := 15) rfl (by decide) (by first | omega | (have := hv.1; omega)) rfl (fun hb => absurd hb (show ¬ (¬ (0 = 0)) by first | omega | (have := hv.1; omega))) (fun _ => ?_)
      refine q_load (p2 := 16) rfl rfl rfl rfl ?_
      refine q_load (p2 := 17) rfl rfl rfl rfl ?_
      refine q_getv (p2 := 18) rfl hK1.1.choose_spec.1 (by decide) hK1.1.choose_spec.2.2.2.1 rfl ?_
      refine q_callvE (xs := [(6, 225, 0), (6, 455, 0)]) (p2 := 19) rfl rfl rfl rfl (x_rcv_s 455 (x_KS_455 hK1)) rfl (k_push hK1 (x_mv_at hN (fun j hj hne => ((hf1 j (by omega)).trans rfl))) ht) (Nat.le_refl _) (Nat.le_refl _) rfl (fun φ6 hR6 => ?_)
      obtain ⟨hK6, hf6⟩ := hR6
      exact q_ret rfl (⟨rfl, ⟨Nat.le_refl _, Nat.le_refl _⟩, ⟨Nat.le_refl _, Nat.le_refl _⟩, 225, hK6, by rw [if_neg (fun z => hb4 z.2)]; exact (x_mv_at hN (fun j hj hne => ((hf6 j (by omega)).trans ((hf1 j (by omega)).trans rfl)))), fun j hj => ((hf6 j hj).trans ((hf1 j hj).trans rfl))⟩)
theorem x_r_yes {φ : FH} {n sl a : Nat} {q : Prop} [Decidable q] {P : List (List XI)} {d M : Nat} {loc : List XV} (h : x_f P d M loc φ n sl (x_r φ n sl (0, if q then 1 else 0, a))) (e : q) : x_f P d M loc φ n sl (x_r φ n sl (0, 1, a)) := by
  rw [if_pos e] at h
  exact h
theorem k_access_2 (hP : x_pop φ A B made sv svm s9 fP) (hK : x_KS φ (top + 1) fr pc_ mm mi st lo re rs fl se co) (hpc : pc_ + 8 < 12288) (ht : top < 4096) (hC : x_comb φ 226 comb) (hN : x_mv φ 225 MV0) {m : MV} (hv : x_mv φ (st top) m) (h5 : m.1 = 5) (hisA : x_isA made comb m.2.1 0) (hf8 : fr < 8) : x_f x_P (d + 4) 183 [(6, 455, 0), (0, 2, 0), (11, 0, 0), (11, 0, 0), (11, 0, 0)] φ n sl (x_bV n sl 0 0 (fun φ2 => x_KS φ2 top (fr + 1) 8 mm mi st (x_lo lo fr 32) (fun i => if i = fr then pc_ else re i) (fun i => if i = fr then 2 else rs i) (fun i => if i = fr then top else fl i) (fun i => if i = fr then st top else se i) co ∧ x_kf φ φ2)) := by
  refine x_f_of rfl ?_
  refine x_n_lt (fun hlt => ?_)
  obtain ⟨fV, s1, l1, la1, h1, c1, hV, hg, hA⟩ := x_mv_g hv
  have ha := hv.2.1
  have hv486 := hv.1
  have hmade := x_pop_made hP
  refine q_load (p2 := 1) rfl rfl rfl rfl ?_
  refine q_callrE (xs := [(6, 455, 0)]) (p2 := 2) rfl rfl rfl rfl (x_rcv_s 455 (x_KS_455 hK)) rfl (k_pop hK ht) (Nat.le_refl _) (Nat.le_refl _) rfl (fun φ1 hR1 => ?_)
  obtain ⟨hK1, hf1⟩ := hR1
  refine q_store (p2 := 3) rfl rfl rfl rfl rfl ?_
  refine q_load (p2 := 4) rfl rfl rfl rfl ?_
  refine q_getv (p2 := 5) rfl (((hf1 (st top) (by omega)).trans rfl).trans hV) (by decide) hg.1 rfl ?_
  refine q_const (p2 := 6) rfl rfl ?_
  refine q_icmp_s (p2 := 7) rfl (by decide) (by first | omega | (have := hv.1; omega)) (by first | omega | (have := hv.1; omega)) rfl (fun hb => absurd hb (show ¬ (¬ (m.1 = 5)) by first | omega | (have := hv.1; omega))) (fun _ => ?_)
  refine q_load (p2 := 8) rfl rfl rfl rfl ?_
  refine q_getv (p2 := 9) rfl hK1.1.choose_spec.1 (by decide) hK1.1.choose_spec.2.1 rfl ?_
  refine q_load (p2 := 10) rfl rfl rfl rfl ?_
  refine q_getv (p2 := 11) rfl (((hf1 (st top) (by omega)).trans rfl).trans hV) (by decide) hg.2.1 rfl ?_
  refine q_l2i (z := m.2.1) (p2 := 12) rfl (Nat.mod_eq_of_lt (by first | omega | (have := hv.1; omega))) rfl ?_
  refine q_load (p2 := 13) rfl rfl rfl rfl ?_
  refine q_callr (xs := [(0, 2, 0), (0, m.2.1, 0), (6, 7, 0)]) (p2 := 14) rfl rfl rfl rfl (x_rcv_s 7 (x_pop_at hP ((hf1 7 (by omega)).trans rfl)).1) rfl (x_r_yes (e_has_2 (x_pop_at hP ((hf1 7 (by omega)).trans rfl)) (x_comb_at hC ((hf1 226 (by omega)).trans rfl)) hK1.2.2.2.2.2.2.2.2.2 ha) hisA) (Nat.le_refl _) (Nat.le_refl _) rfl ?_
  refine q_if0_s (p2 := 15) rfl (by decide) (by first | omega | (have := hv.1; omega)) rfl (fun _ => ?_) (fun hb => absurd (show ¬ (1 = 0) by first | omega | (have := hv.1; omega)) hb)
  refine q_load (p2 := 21) rfl rfl rfl rfl ?_
  refine q_getv (p2 := 22) rfl (((hf1 (st top) (by omega)).trans rfl).trans hV) (by decide) hg.2.1 rfl ?_
  refine q_l2i (z := m.2.1) (p2 := 23) rfl (Nat.mod_eq_of_lt (by first | omega | (have := hv.1; omega))) rfl ?_
  refine q_store (p2 := 24) rfl rfl rfl rfl rfl ?_
  refine q_load (p2 := 25) rfl rfl rfl rfl ?_
  refine q_getv (p2 := 26) rfl hK1.1.choose_spec.1 (by decide) hK1.1.choose_spec.2.1 rfl ?_
  refine q_getv (p2 := 27) rfl (x_pop_at hP ((hf1 7 (by omega)).trans rfl)).1 (by decide) hP.2.1 rfl ?_
  refine q_getv (p2 := 28) rfl hK1.2.2.2.2.2.2.2.2.2.1.choose_spec.1 (by decide) hK1.2.2.2.2.2.2.2.2.2.1.choose_spec.2.2.2.2.2.2.2.2.1 rfl ?_
  refine q_load (p2 := 29) rfl rfl rfl rfl ?_
  refine q_aldv (v := (6, 274, 0)) (p2 := 30) rfl (x_sc_271 hK1.2.2.2.2.2.2.2.2.2) (by first | omega | (have := hv.1; omega)) (by first | omega | (have := hv.1; omega)) rfl rfl ?_
  refine q_store (p2 := 31) rfl rfl rfl rfl rfl ?_
  refine q_load (p2 := 32) rfl rfl rfl rfl ?_
  refine q_const (p2 := 33) rfl rfl ?_
  refine q_aldv (v := (0, 1, 0)) (p2 := 34) rfl (x_sc_274 hK1.2.2.2.2.2.2.2.2.2) (by first | omega | (have := hv.1; omega)) (by first | omega | (have := hv.1; omega)) rfl rfl ?_
  refine q_if0_s (p2 := 35) rfl (by decide) (by first | omega | (have := hv.1; omega)) rfl (fun _ => ?_) (fun hb => absurd (show ¬ (1 = 0) by first | omega | (have := hv.1; omega)) hb)
  refine q_load (p2 := 44) rfl rfl rfl rfl ?_
  refine q_const (p2 := 45) rfl rfl ?_
  refine q_aldv (v := (0, 1, 0)) (p2 := 46) rfl (x_sc_274 hK1.2.2.2.2.2.2.2.2.2) (by first | omega | (have := hv.1; omega)) (by first | omega | (have := hv.1; omega)) rfl rfl ?_
  refine q_const (p2 := 47) rfl rfl ?_
  refine q_icmp_s (p2 := 48) rfl (by decide) (by first | omega | (have := hv.1; omega)) (by first | omega | (have := hv.1; omega)) rfl (fun hb => absurd hb (show ¬ (¬ (1 = 1)) by first | omega | (have := hv.1; omega))) (fun _ => ?_)
  refine q_load (p2 := 49) rfl rfl rfl rfl ?_
  refine q_load (p2 := 50) rfl rfl rfl rfl ?_
  refine q_const (p2 := 51) rfl rfl ?_
  refine q_aldv (v := (0, 8, 0)) (p2 := 52) rfl (x_sc_274 hK1.2.2.2.2.2.2.2.2.2) (by first | omega | (have := hv.1; omega)) (by first | omega | (have := hv.1; omega)) rfl rfl ?_
  refine q_load (p2 := 53) rfl rfl rfl rfl ?_
  refine q_const (p2 := 54) rfl rfl ?_
  refine q_aldv (v := (0, 2, 0)) (p2 := 55) rfl (x_sc_274 hK1.2.2.2.2.2.2.2.2.2) (by first | omega | (have := hv.1; omega)) (by first | omega | (have := hv.1; omega)) rfl rfl ?_
  refine q_load (p2 := 56) rfl rfl rfl rfl ?_
  refine q_callvE (xs := [(6, (st top), 0), (0, 2, 0), (0, 8, 0), (6, 455, 0)]) (p2 := 57) rfl rfl rfl rfl (x_rcv_s 455 (x_KS_455 hK1)) rfl (k_open hK1 (x_mv_at hN (fun j hj hne => ((hf1 j (by omega)).trans rfl))) (x_mv_at hv (fun j hj hne => ((hf1 j (by omega)).trans rfl))) hf8) (Nat.le_refl _) (Nat.le_refl _) rfl (fun φ2 hR2 => ?_)
  obtain ⟨hK2, hf2⟩ := hR2
  refine q_goto rfl ?_
  exact q_ret rfl (⟨rfl, ⟨Nat.le_refl _, Nat.le_refl _⟩, ⟨Nat.le_refl _, Nat.le_refl _⟩, hK2, fun j hj => ((hf2 j hj).trans ((hf1 j hj).trans rfl))⟩)
theorem k_access_4 (hP : x_pop φ A B made sv svm s9 fP) (hK : x_KS φ (top + 1) fr pc_ mm mi st lo re rs fl se co) (hpc : pc_ + 8 < 12288) (ht : top < 4096) (hS : x_PS φ A B made sv svm s9 comb hm) (hC : x_comb φ 226 comb) {m : MV} (hv : x_mv φ (st top) m) (h5 : m.1 = 5) (hisA : x_isA made comb m.2.1 2) (hn : 486 ≤ n) : x_f x_P (d + 4) 183 [(6, 455, 0), (0, 4, 0), (11, 0, 0), (11, 0, 0), (11, 0, 0)] φ n sl (x_bV n sl 3 55 (fun φ2 => ∃ v, x_KS φ2 (top + 1) fr pc_ mm mi (fun i => if i = top then v else st i) lo re rs fl se co ∧ x_mv φ2 v (if (x_fl (fun y => comb y ≠ 0 ∧ x_ho (hm (y * 40 + 3)) m.2.1) made).length ≤ 24 then (6, 0, 3, 5, (x_fl (fun y => comb y ≠ 0 ∧ x_ho (hm (y * 40 + 3)) m.2.1) made)) else MV0) ∧ ∀ j, j < n → (j < 455 ∨ 466 ≤ j) → φ2 j = φ j)) := by
  refine x_f_of rfl ?_
  refine x_n_lt (fun hlt => ?_)
  obtain ⟨fV, s1, l1, la1, h1, c1, hV, hg, hA⟩ := x_mv_g hv
  have ha := hv.2.1
  have hv486 := hv.1
  have hmade := x_pop_made hP
  refine q_load (p2 := 1) rfl rfl rfl rfl ?_
  refine q_callrE (xs := [(6, 455, 0)]) (p2 := 2) rfl rfl rfl rfl (x_rcv_s 455 (x_KS_455 hK)) rfl (k_pop hK ht) (Nat.le_refl _) (Nat.le_refl _) rfl (fun φ1 hR1 => ?_)
  obtain ⟨hK1, hf1⟩ := hR1
  refine q_store (p2 := 3) rfl rfl rfl rfl rfl ?_
  refine q_load (p2 := 4) rfl rfl rfl rfl ?_
  refine q_getv (p2 := 5) rfl (((hf1 (st top) (by omega)).trans rfl).trans hV) (by decide) hg.1 rfl ?_
  refine q_const (p2 := 6) rfl rfl ?_
  refine q_icmp_s (p2 := 7) rfl (by decide) (by first | omega | (have := hv.1; omega)) (by first | omega | (have := hv.1; omega)) rfl (fun hb => absurd hb (show ¬ (¬ (m.1 = 5)) by first | omega | (have := hv.1; omega))) (fun _ => ?_)
  refine q_load (p2 := 8) rfl rfl rfl rfl ?_
  refine q_getv (p2 := 9) rfl hK1.1.choose_spec.1 (by decide) hK1.1.choose_spec.2.1 rfl ?_
  refine q_load (p2 := 10) rfl rfl rfl rfl ?_
  refine q_getv (p2 := 11) rfl (((hf1 (st top) (by omega)).trans rfl).trans hV) (by decide) hg.2.1 rfl ?_
  refine q_l2i (z := m.2.1) (p2 := 12) rfl (Nat.mod_eq_of_lt (by first | omega | (have := hv.1; omega))) rfl ?_
  refine q_load (p2 := 13) rfl rfl rfl rfl ?_
  refine q_callr (xs := [(0, 4, 0), (0, m.2.1, 0), (6, 7, 0)]) (p2 := 14) rfl rfl rfl rfl (x_rcv_s 7 (x_pop_at hP ((hf1 7 (by omega)).trans rfl)).1) rfl (x_r_yes (e_has_4 (x_pop_at hP ((hf1 7 (by omega)).trans rfl)) (x_comb_at hC ((hf1 226 (by omega)).trans rfl)) hK1.2.2.2.2.2.2.2.2.2 ha) hisA) (Nat.le_refl _) (Nat.le_refl _) rfl ?_
  refine q_if0_s (p2 := 15) rfl (by decide) (by first | omega | (have := hv.1; omega)) rfl (fun _ => ?_) (fun hb => absurd (show ¬ (1 = 0) by first | omega | (have := hv.1; omega)) hb)
  refine q_load (p2 := 21) rfl rfl rfl rfl ?_
  refine q_getv (p2 := 22) rfl (((hf1 (st top) (by omega)).trans rfl).trans hV) (by decide) hg.2.1 rfl ?_
  refine q_l2i (z := m.2.1) (p2 := 23) rfl (Nat.mod_eq_of_lt (by first | omega | (have := hv.1; omega))) rfl ?_
  refine q_store (p2 := 24) rfl rfl rfl rfl rfl ?_
  refine q_load (p2 := 25) rfl rfl rfl rfl ?_
  refine q_getv (p2 := 26) rfl hK1.1.choose_spec.1 (by decide) hK1.1.choose_spec.2.1 rfl ?_
  refine q_getv (p2 := 27) rfl (x_pop_at hP ((hf1 7 (by omega)).trans rfl)).1 (by decide) hP.2.1 rfl ?_
  refine q_getv (p2 := 28) rfl hK1.2.2.2.2.2.2.2.2.2.1.choose_spec.1 (by decide) hK1.2.2.2.2.2.2.2.2.2.1.choose_spec.2.2.2.2.2.2.2.2.1 rfl ?_
  refine q_load (p2 := 29) rfl rfl rfl rfl ?_
  refine q_aldv (v := (6, 276, 0)) (p2 := 30) rfl (x_sc_271 hK1.2.2.2.2.2.2.2.2.2) (by first | omega | (have := hv.1; omega)) (by first | omega | (have := hv.1; omega)) rfl rfl ?_
  refine q_store (p2 := 31) rfl rfl rfl rfl rfl ?_
  refine q_load (p2 := 32) rfl rfl rfl rfl ?_
  refine q_const (p2 := 33) rfl rfl ?_
  refine q_aldv (v := (0, 2, 0)) (p2 := 34) rfl (x_sc_276 hK1.2.2.2.2.2.2.2.2.2) (by first | omega | (have := hv.1; omega)) (by first | omega | (have := hv.1; omega)) rfl rfl ?_
  refine q_if0_s (p2 := 35) rfl (by decide) (by first | omega | (have := hv.1; omega)) rfl (fun _ => ?_) (fun hb => absurd (show ¬ (2 = 0) by first | omega | (have := hv.1; omega)) hb)
  refine q_load (p2 := 44) rfl rfl rfl rfl ?_
  refine q_const (p2 := 45) rfl rfl ?_
  refine q_aldv (v := (0, 2, 0)) (p2 := 46) rfl (x_sc_276 hK1.2.2.2.2.2.2.2.2.2) (by first | omega | (have := hv.1; omega)) (by first | omega | (have := hv.1; omega)) rfl rfl ?_
  refine q_const (p2 := 47) rfl rfl ?_
  refine q_icmp_s (p2 := 48) rfl (by decide) (by first | omega | (have := hv.1; omega)) (by first | omega | (have := hv.1; omega)) rfl (fun _ => ?_) (fun hb => absurd (show ¬ (2 = 1) by first | omega | (have := hv.1; omega)) hb)
  refine q_load (p2 := 59) rfl rfl rfl rfl ?_
  refine q_load (p2 := 60) rfl rfl rfl rfl ?_
  refine q_getv (p2 := 61) rfl hK1.1.choose_spec.1 (by decide) hK1.1.choose_spec.2.1 rfl ?_
  refine q_load (p2 := 62) rfl rfl rfl rfl ?_
  refine q_load (p2 := 63) rfl rfl rfl rfl ?_
  refine q_const (p2 := 64) rfl rfl ?_
  refine q_aldv (v := (0, 3, 0)) (p2 := 65) rfl (x_sc_276 hK1.2.2.2.2.2.2.2.2.2) (by first | omega | (have := hv.1; omega)) (by first | omega | (have := hv.1; omega)) rfl rfl ?_
  refine q_callrB (xs := [(0, 3, 0), (0, m.2.1, 0), (6, 7, 0)]) (p2 := 66) rfl rfl rfl rfl (x_rcv_s 7 (x_pop_at hP ((hf1 7 (by omega)).trans rfl)).1) rfl (e_users (x_PS_at hS (fun j hj hne => ((hf1 j (by have := x_some_lt hlt hne; omega)).trans rfl))) ha (by decide) hn) rfl (fun w2 φ2 n2 sl2 hn2 hN2 hs2 hT2 hR2 => ?_)
  obtain ⟨v9, rfl, hv2, hf2⟩ := hR2
  refine q_callvE (xs := [(6, v9, 0), (6, 455, 0)]) (p2 := 67) rfl rfl rfl rfl (x_rcv_s 455 (x_KS_455 (x_KS_at hK1 (fun j h1 h2 => hf2 j (by omega))))) rfl (k_push (x_KS_at hK1 (fun j h1 h2 => hf2 j (by omega))) hv2 ht) (Nat.le_refl _) (Nat.le_refl _) rfl (fun φ3 hR3 => ?_)
  obtain ⟨hK3, hf3⟩ := hR3
  exact q_ret rfl (⟨rfl, ⟨by omega, by omega⟩, ⟨by omega, by omega⟩, v9, hK3, (x_mv_at hv2 (fun j hj hne => ((hf3 j (by omega)).trans rfl))), fun j hj1 hj2 => ((hf3 j (by omega)).trans ((hf2 j (by omega)).trans ((hf1 j (by omega)).trans rfl)))⟩)
end FPOP29
