section FPOP27
variable {d n sl top fr pc_ mm mi A B made sv svm s9 : Nat} {st lo re rs fl se co comb : Nat → Nat} {φ : FH} {fP : Nat → XV}
theorem k_end {v : Nat} {m : MV} (hK : x_KS φ top (fr + 1) pc_ mm mi st lo re rs fl se co) (hv : x_mv φ v m) (hf8 : fr < 8) (hflb : fl fr < 4096) : x_f x_P (d + 2) 200 [(6, 455, 0), (6, v, 0)] φ n sl (x_vR n sl (fun φ2 => x_KS φ2 (fl fr + 1) fr (re fr) mm mi (fun i => if i = fl fr then v else st i) lo re rs fl se co ∧ x_kf φ φ2)) := by
  obtain ⟨fV, hV⟩ := x_mv_obj hv
  have ⟨⟨fM, hMc⟩, hSt, hLo, hRe, hRs, hFl, hSe, hCo, hO, hSc⟩ := hK
  refine x_f_mono (e_endFrame hMc hSt hRe hFl hV hv.1 hf8 hflb) (fun u w φ2 n2 sl2 q => ?_)
  obtain ⟨q1, q2, q3, q4, q5, q6⟩ := q
  exact ⟨q1, q2, q3, x_KS_st hK q4 q5 q6, fun j hj => q6 j (by omega) (by omega)⟩
theorem k_lead_31 (hP : x_pop φ A B made sv svm s9 fP) (hK : x_KS φ (top + 1) (fr + 1) pc_ mm mi st lo re rs fl se co) (hpc : pc_ + 8 < 12288) (ht : top < 4096) {m : MV} (hv : x_mv φ (st top) m) (hk : rs fr = 4294967293 ∨ (rs fr = 2 ∧ m.1 ≤ 1) ∨ (rs fr = 6 ∧ m.1 ≤ 1)) (hf8 : fr < 8) (hflb : fl fr < 4096) : x_f x_P (d + 5) 111 [(6, 455, 0), (0, 31, 0), (11, 0, 0), (11, 0, 0)] φ n sl (x_bV n sl 0 0 (fun φ2 => x_KS φ2 (fl fr + 1) fr (re fr) mm mi (fun i => if i = fl fr then (st top) else st i) lo re rs fl se co ∧ x_kf φ φ2)) := by
  refine x_f_of rfl ?_
  refine x_n_lt (fun hlt => ?_)
  refine q_load (p2 := 1) rfl rfl rfl rfl ?_
  refine q_switch (tgt := 93) rfl (by decide) rfl ?_
  refine q_load (p2 := 94) rfl rfl rfl rfl ?_
  refine q_load (p2 := 95) rfl rfl rfl rfl ?_
  refine q_callrE (xs := [(6, 455, 0)]) (p2 := 96) rfl rfl rfl rfl (x_rcv_s 455 (x_KS_455 hK)) rfl (k_pop hK ht) (Nat.le_refl _) (Nat.le_refl _) rfl (fun φ1 hR1 => ?_)
  obtain ⟨hK1, hf1⟩ := hR1
  refine q_callvE (xs := [(6, (st top), 0), (6, 455, 0)]) (p2 := 97) rfl rfl rfl rfl (x_rcv_s 455 (x_KS_455 hK1)) rfl (k_close (x_pop_at hP ((hf1 7 (by omega)).trans rfl)) hK1 (x_mv_at hv (fun j hj hne => ((hf1 j (by omega)).trans rfl))) hk hf8 hflb) (Nat.le_refl _) (Nat.le_refl _) rfl (fun φ2 hR2 => ?_)
  obtain ⟨hK2, hf2⟩ := hR2
  refine q_goto rfl ?_
  exact q_ret rfl (⟨rfl, ⟨Nat.le_refl _, Nat.le_refl _⟩, ⟨Nat.le_refl _, Nat.le_refl _⟩, hK2, fun j hj => ((hf2 j hj).trans ((hf1 j hj).trans rfl))⟩)
theorem k_lead_32 (hP : x_pop φ A B made sv svm s9 fP) (hK : x_KS φ top (fr + 1) pc_ mm mi st lo re rs fl se co) (hpc : pc_ + 8 < 12288) (ht : top < 4096) (hN : x_mv φ 225 MV0) (hf8 : fr < 8) (hflb : fl fr < 4096) : x_f x_P (d + 3) 111 [(6, 455, 0), (0, 32, 0), (11, 0, 0), (11, 0, 0)] φ n sl (x_bV n sl 0 0 (fun φ2 => x_KS φ2 (fl fr + 1) fr (re fr) mm mi (fun i => if i = fl fr then 225 else st i) lo re rs fl se co ∧ x_kf φ φ2)) := by
  refine x_f_of rfl ?_
  refine x_n_lt (fun hlt => ?_)
  refine q_load (p2 := 1) rfl rfl rfl rfl ?_
  refine q_switch (tgt := 98) rfl (by decide) rfl ?_
  refine q_load (p2 := 99) rfl rfl rfl rfl ?_
  refine q_load (p2 := 100) rfl rfl rfl rfl ?_
  refine q_getv (p2 := 101) rfl hK.1.choose_spec.1 (by decide) hK.1.choose_spec.2.2.2.1 rfl ?_
  refine q_callvE (xs := [(6, 225, 0), (6, 455, 0)]) (p2 := 102) rfl rfl rfl rfl (x_rcv_s 455 (x_KS_455 hK)) rfl (k_end hK hN hf8 hflb) (Nat.le_refl _) (Nat.le_refl _) rfl (fun φ1 hR1 => ?_)
  obtain ⟨hK1, hf1⟩ := hR1
  refine q_goto rfl ?_
  exact q_ret rfl (⟨rfl, ⟨Nat.le_refl _, Nat.le_refl _⟩, ⟨Nat.le_refl _, Nat.le_refl _⟩, hK1, fun j hj => ((hf1 j hj).trans rfl)⟩)
theorem k_lead_27 (hP : x_pop φ A B made sv svm s9 fP) (hK : x_KS φ (top + 1) fr pc_ mm mi st lo re rs fl se co) (hpc : pc_ + 8 < 12288) (ht : top < 4096) {m : MV} (hv : x_mv φ (st top) m) (hco : co pc_ < 2147483648) : x_f x_P (d + 2) 111 [(6, 455, 0), (0, 27, 0), (11, 0, 0), (11, 0, 0)] φ n sl (x_bV n sl 0 0 (fun φ2 => x_KS φ2 top fr (if m.1 = 3 ∧ m.2.1 = 2 then pc_ + 1 else co pc_) mm mi st lo re rs fl se co ∧ x_kf φ φ2)) := by
  refine x_f_of rfl ?_
  refine x_n_lt (fun hlt => ?_)
  obtain ⟨fV, s1, l1, la1, h1, c1, hV, hg, hA⟩ := x_mv_g hv
  have ha := hv.2.1
  have hv486 := hv.1
  refine q_load (p2 := 1) rfl rfl rfl rfl ?_
  refine q_switch (tgt := 79) rfl (by decide) rfl ?_
  refine q_load (p2 := 80) rfl rfl rfl rfl ?_
  refine q_callrE (xs := [(6, 455, 0)]) (p2 := 81) rfl rfl rfl rfl (x_rcv_s 455 (x_KS_455 hK)) rfl (k_fetch (x_pop_at hP rfl) hK (by omega)) (Nat.le_refl _) (Nat.le_refl _) rfl (fun φ1 hR1 => ?_)
  obtain ⟨hK1, hf1⟩ := hR1
  refine q_store (p2 := 82) rfl rfl rfl rfl rfl ?_
  refine q_load (p2 := 83) rfl rfl rfl rfl ?_
  refine q_load (p2 := 84) rfl rfl rfl rfl ?_
  refine q_callrE (xs := [(6, 455, 0)]) (p2 := 85) rfl rfl rfl rfl (x_rcv_s 455 (x_KS_455 hK1)) rfl (k_pop hK1 ht) (Nat.le_refl _) (Nat.le_refl _) rfl (fun φ2 hR2 => ?_)
  obtain ⟨hK2, hf2⟩ := hR2
  refine q_callr (xs := [(6, (st top), 0)]) (p2 := 86) rfl rfl rfl rfl (x_rcv_s (st top) (((hf2 (st top) (by omega)).trans ((hf1 (st top) (by omega)).trans rfl)).trans hV)) rfl (e_isTrue (((hf2 (st top) (by omega)).trans ((hf1 (st top) (by omega)).trans rfl)).trans hV) hg hA ha) (Nat.le_refl _) (Nat.le_refl _) rfl ?_
  by_cases hb3 : m.1 = 3 ∧ m.2.1 = 2
  · rw [if_pos hb3]
    refine q_if0_s (p2 := 87) rfl (by decide) (by first | omega | (have := hv.1; omega)) rfl (fun hb => absurd hb (show ¬ (1 = 0) by first | omega | (have := hv.1; omega))) (fun _ => ?_)
    refine q_load (p2 := 88) rfl rfl rfl rfl ?_
    refine q_getv (p2 := 89) rfl hK2.1.choose_spec.1 (by decide) hK2.1.choose_spec.2.2.2.2.2.2.2.2.2.2.2.2.2.2.2.2.1 rfl ?_
    refine q_goto rfl ?_
    refine q_putfE (p2 := 92) rfl hK2.1.choose_spec.1 (by decide) rfl rfl (fun φ4 f4 hh4 hg4 ho4 fr4 => ?_)
    refine q_goto rfl ?_
    exact q_ret rfl (⟨rfl, ⟨Nat.le_refl _, Nat.le_refl _⟩, ⟨Nat.le_refl _, Nat.le_refl _⟩, by rw [if_pos hb3]; exact x_KS_st hK2 ⟨_, hh4, ((ho4 0 (by decide)).trans hK2.1.choose_spec.2.1), ((ho4 1 (by decide)).trans hK2.1.choose_spec.2.2.1), ((ho4 2 (by decide)).trans hK2.1.choose_spec.2.2.2.1), ((ho4 3 (by decide)).trans hK2.1.choose_spec.2.2.2.2.1), ((ho4 4 (by decide)).trans hK2.1.choose_spec.2.2.2.2.2.1), ((ho4 5 (by decide)).trans hK2.1.choose_spec.2.2.2.2.2.2.1), ((ho4 6 (by decide)).trans hK2.1.choose_spec.2.2.2.2.2.2.2.1), ((ho4 7 (by decide)).trans hK2.1.choose_spec.2.2.2.2.2.2.2.2.1), ((ho4 8 (by decide)).trans hK2.1.choose_spec.2.2.2.2.2.2.2.2.2.1), ((ho4 9 (by decide)).trans hK2.1.choose_spec.2.2.2.2.2.2.2.2.2.2.1), ((ho4 10 (by decide)).trans hK2.1.choose_spec.2.2.2.2.2.2.2.2.2.2.2.1), ((ho4 11 (by decide)).trans hK2.1.choose_spec.2.2.2.2.2.2.2.2.2.2.2.2.1), ((ho4 12 (by decide)).trans hK2.1.choose_spec.2.2.2.2.2.2.2.2.2.2.2.2.2.1), ((ho4 13 (by decide)).trans hK2.1.choose_spec.2.2.2.2.2.2.2.2.2.2.2.2.2.2.1), ((ho4 14 (by decide)).trans hK2.1.choose_spec.2.2.2.2.2.2.2.2.2.2.2.2.2.2.2.1), hg4, ((ho4 16 (by decide)).trans hK2.1.choose_spec.2.2.2.2.2.2.2.2.2.2.2.2.2.2.2.2.2.1), ((ho4 17 (by decide)).trans hK2.1.choose_spec.2.2.2.2.2.2.2.2.2.2.2.2.2.2.2.2.2.2.1), ((ho4 18 (by decide)).trans hK2.1.choose_spec.2.2.2.2.2.2.2.2.2.2.2.2.2.2.2.2.2.2.2.1), ((ho4 19 (by decide)).trans hK2.1.choose_spec.2.2.2.2.2.2.2.2.2.2.2.2.2.2.2.2.2.2.2.2)⟩ (x_vrow_at hK2.2.1 (fr4 456 (by decide))) (fun j h1 _ => fr4 j h1), fun j hj => ((fr4 j (by omega)).trans ((hf2 j (by omega)).trans ((hf1 j (by omega)).trans rfl)))⟩)
  · rw [if_neg hb3]
    refine q_if0_s (p2 := 87) rfl (by decide) (by first | omega | (have := hv.1; omega)) rfl (fun _ => ?_) (fun hb => absurd (show 0 = 0 by first | omega | (have := hv.1; omega)) hb)
    refine q_load (p2 := 91) rfl rfl rfl rfl ?_
    refine q_putfE (p2 := 92) rfl hK2.1.choose_spec.1 (by decide) rfl rfl (fun φ5 f5 hh5 hg5 ho5 fr5 => ?_)
    refine q_goto rfl ?_
    exact q_ret rfl (⟨rfl, ⟨Nat.le_refl _, Nat.le_refl _⟩, ⟨Nat.le_refl _, Nat.le_refl _⟩, by rw [if_neg hb3]; exact x_KS_st hK2 ⟨_, hh5, ((ho5 0 (by decide)).trans hK2.1.choose_spec.2.1), ((ho5 1 (by decide)).trans hK2.1.choose_spec.2.2.1), ((ho5 2 (by decide)).trans hK2.1.choose_spec.2.2.2.1), ((ho5 3 (by decide)).trans hK2.1.choose_spec.2.2.2.2.1), ((ho5 4 (by decide)).trans hK2.1.choose_spec.2.2.2.2.2.1), ((ho5 5 (by decide)).trans hK2.1.choose_spec.2.2.2.2.2.2.1), ((ho5 6 (by decide)).trans hK2.1.choose_spec.2.2.2.2.2.2.2.1), ((ho5 7 (by decide)).trans hK2.1.choose_spec.2.2.2.2.2.2.2.2.1), ((ho5 8 (by decide)).trans hK2.1.choose_spec.2.2.2.2.2.2.2.2.2.1), ((ho5 9 (by decide)).trans hK2.1.choose_spec.2.2.2.2.2.2.2.2.2.2.1), ((ho5 10 (by decide)).trans hK2.1.choose_spec.2.2.2.2.2.2.2.2.2.2.2.1), ((ho5 11 (by decide)).trans hK2.1.choose_spec.2.2.2.2.2.2.2.2.2.2.2.2.1), ((ho5 12 (by decide)).trans hK2.1.choose_spec.2.2.2.2.2.2.2.2.2.2.2.2.2.1), ((ho5 13 (by decide)).trans hK2.1.choose_spec.2.2.2.2.2.2.2.2.2.2.2.2.2.2.1), ((ho5 14 (by decide)).trans hK2.1.choose_spec.2.2.2.2.2.2.2.2.2.2.2.2.2.2.2.1), hg5, ((ho5 16 (by decide)).trans hK2.1.choose_spec.2.2.2.2.2.2.2.2.2.2.2.2.2.2.2.2.2.1), ((ho5 17 (by decide)).trans hK2.1.choose_spec.2.2.2.2.2.2.2.2.2.2.2.2.2.2.2.2.2.2.1), ((ho5 18 (by decide)).trans hK2.1.choose_spec.2.2.2.2.2.2.2.2.2.2.2.2.2.2.2.2.2.2.2.1), ((ho5 19 (by decide)).trans hK2.1.choose_spec.2.2.2.2.2.2.2.2.2.2.2.2.2.2.2.2.2.2.2.2)⟩ (x_vrow_at hK2.2.1 (fr5 456 (by decide))) (fun j h1 _ => fr5 j h1), fun j hj => ((fr5 j (by omega)).trans ((hf2 j (by omega)).trans ((hf1 j (by omega)).trans rfl)))⟩)
end FPOP27
