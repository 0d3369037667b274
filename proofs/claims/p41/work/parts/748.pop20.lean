section FPOP20
theorem e_compared {d n sl : Nat} {φ : FH} (hO0 : x_ops466 φ) {A B made sv svm st : Nat} {fP : Nat → XV} (hP : x_pop φ A B made sv svm st fP) {lik : Nat → Nat} (hL : x_row φ A lik) {v w : Nat} {m m2 : MV} (hv : x_mv φ v m) (hw : x_mv φ w m2) (p1 : x_pv2 m) (p2 : x_pv2 m2) (k1 : m.1 = 0 ∨ m.1 = 5) (k2 : m2.1 = 0 ∨ m2.1 = 5) (hn : 486 ≤ n) : x_f x_P (d + 3) 190 [(6, 466, 0), (0, 64, 0), (6, v, 0), (6, w, 0), (11, 0, 0)] φ n sl (x_rR (6, n, 0) (n + 1) (sl + 7) (fun φ2 => x_mv φ2 n (if m.1 = 0 ∨ m2.1 = 0 then (3, 1, 0, 0, []) else if x_lk lik made m m2 then (3, 2, 0, 0, []) else (3, 0, 0, 0, [])) ∧ ∀ j, j < n → φ2 j = φ j)) := by
  obtain ⟨fO, hO⟩ := hO0
  obtain ⟨fV, s1, l1, la1, h1, c1, hV, hg, hA⟩ := x_mv_g hv
  obtain ⟨fW, s2, l2, la2, h2, c2, hW, hgw, hB⟩ := x_mv_g hw
  have ha := hv.2.1
  have hb := hw.2.1
  refine x_f_of rfl ?_
  refine q_load (p2 := 1) rfl rfl rfl rfl ?_
  refine q_getv (p2 := 2) rfl hV (by decide) hg.1 rfl ?_
  refine q_if0_s (p2 := 3) rfl (by decide) (by omega) rfl (fun hb1 => ?_) (fun hb1 => ?_)
  · have hb1 : m.1 = 0 := hb1
    refine q_newE (p2 := 7) (len := 7) (g := x_gV) rfl rfl x_gV_ok rfl (fun φ2 hh2 fr2 => ?_)
    refine q_dup (p2 := 8) rfl rfl rfl ?_
    refine q_const (p2 := 9) rfl rfl ?_
    refine q_const (p2 := 10) rfl rfl ?_
    refine q_callvE (xs := [(2, 1, 0), (0, 3, 0), (6, n, 0)]) (p2 := 11) rfl rfl rfl rfl (x_rcv_s n hh2) rfl (e_new2 hh2) (Nat.le_refl _) (Nat.le_refl _) rfl (fun φ3 hR3 => ?_)
    obtain ⟨⟨fv3, hv3, gv3⟩, fr3⟩ := hR3
    exact q_retv rfl rfl (⟨rfl, rfl, rfl, rfl, by rw [if_pos (by omega)]; exact x_mv_sc hn (by omega) (by omega) hv3 gv3, fun j hj => ((fr3 j (by omega)).trans ((fr2 j (by omega)).trans rfl))⟩)
  · have hb1 : ¬ (m.1 = 0) := hb1
    refine q_load (p2 := 4) rfl rfl rfl rfl ?_
    refine q_getv (p2 := 5) rfl hW (by decide) hgw.1 rfl ?_
    refine q_if0_s (p2 := 6) rfl (by decide) (by omega) rfl (fun hb4 => ?_) (fun hb4 => ?_)
    · have hb4 : ¬ (m2.1 = 0) := hb4
      refine q_load (p2 := 13) rfl rfl rfl rfl ?_
      refine q_const (p2 := 14) rfl rfl ?_
      refine q_icmp_s (p2 := 15) rfl (by decide) (by omega) (by omega) rfl (fun _ => ?_) (fun hb => absurd (show ¬ (64 = 52) by omega) hb)
      refine q_load (p2 := 32) rfl rfl rfl rfl ?_
      refine q_getv (p2 := 33) rfl hV (by decide) hg.1 rfl ?_
      refine q_load (p2 := 34) rfl rfl rfl rfl ?_
      refine q_getv (p2 := 35) rfl hW (by decide) hgw.1 rfl ?_
      refine q_icmp_s (p2 := 36) rfl (by decide) (by omega) (by omega) rfl (fun _ => ?_) (fun hb => absurd (show m.1 = m2.1 by omega) hb)
      refine q_load (p2 := 46) rfl rfl rfl rfl ?_
      refine q_const (p2 := 47) rfl rfl ?_
      refine q_icmp_s (p2 := 48) rfl (by decide) (by omega) (by omega) rfl (fun _ => ?_) (fun hb => absurd (show 63 < 64 by omega) hb)
      refine q_load (p2 := 55) rfl rfl rfl rfl ?_
      refine q_getv (p2 := 56) rfl hV (by decide) hg.1 rfl ?_
      refine q_const (p2 := 57) rfl rfl ?_
      refine q_icmp_s (p2 := 58) rfl (by decide) (by omega) (by omega) rfl (fun _ => ?_) (fun hb => absurd (show ¬ (m.1 = 3) by omega) hb)
      refine q_load (p2 := 75) rfl rfl rfl rfl ?_
      refine q_const (p2 := 76) rfl rfl ?_
      refine q_icmp_s (p2 := 77) rfl (by decide) (by omega) (by omega) rfl (fun _ => ?_) (fun hb => absurd (show ¬ (64 = 66) by omega) hb)
      refine q_load (p2 := 92) rfl rfl rfl rfl ?_
      refine q_getv (p2 := 93) rfl hO.1 (by decide) hO.2.1 rfl ?_
      refine q_load (p2 := 94) rfl rfl rfl rfl ?_
      refine q_load (p2 := 95) rfl rfl rfl rfl ?_
      refine q_callr (xs := [(6, w, 0), (6, v, 0), (6, 7, 0)]) (p2 := 96) rfl rfl rfl rfl (x_rcv_s 7 hP.1) rfl (e_alike hP hL hv hw p1 p2) (Nat.le_refl _) (Nat.le_refl _) rfl ?_
      refine q_store (p2 := 97) rfl rfl rfl rfl rfl ?_
      refine q_load (p2 := 98) rfl rfl rfl rfl ?_
      refine q_load (p2 := 99) rfl rfl rfl rfl ?_
      refine q_const (p2 := 100) rfl rfl ?_
      refine q_icmp_s (p2 := 101) rfl (by decide) (by omega) (by omega) rfl (fun hb => absurd hb (show ¬ (64 = 65) by omega)) (fun _ => ?_)
      refine q_const (p2 := 102) rfl rfl ?_
      refine q_goto rfl ?_
      by_cases hb5 : x_lk lik made m m2
      · rw [if_pos hb5]
        refine q_icmp_s (p2 := 105) rfl (by decide) (by omega) (by omega) rfl (fun hb => absurd hb (show ¬ (¬ (1 = 1)) by omega)) (fun _ => ?_)
        refine q_const (p2 := 106) rfl rfl ?_
        refine q_goto rfl ?_
        refine q_callrE (xs := [(0, 1, 0)]) (p2 := 109) rfl rfl rfl rfl (x_rcv_0) rfl (e_truth_1 hn) (by omega) (by omega) rfl (fun φ6 hR6 => ?_)
        obtain ⟨hv9, hf9⟩ := hR6
        exact q_retv rfl rfl (⟨rfl, rfl, rfl, rfl, by rw [if_neg (by omega), if_pos hb5]; exact hv9, hf9⟩)
      · rw [if_neg hb5]
        refine q_icmp_s (p2 := 105) rfl (by decide) (by omega) (by omega) rfl (fun _ => ?_) (fun hb => absurd (show ¬ (0 = 1) by omega) hb)
        refine q_const (p2 := 108) rfl rfl ?_
        refine q_callrE (xs := [(0, 0, 0)]) (p2 := 109) rfl rfl rfl rfl (x_rcv_0) rfl (e_truth_0 hn) (by omega) (by omega) rfl (fun φ7 hR7 => ?_)
        obtain ⟨hv9, hf9⟩ := hR7
        exact q_retv rfl rfl (⟨rfl, rfl, rfl, rfl, by rw [if_neg (by omega), if_neg hb5]; exact hv9, hf9⟩)
    · have hb4 : ¬ (¬ (m2.1 = 0)) := hb4
      refine q_newE (p2 := 7) (len := 7) (g := x_gV) rfl rfl x_gV_ok rfl (fun φ8 hh8 fr8 => ?_)
      refine q_dup (p2 := 8) rfl rfl rfl ?_
      refine q_const (p2 := 9) rfl rfl ?_
      refine q_const (p2 := 10) rfl rfl ?_
      refine q_callvE (xs := [(2, 1, 0), (0, 3, 0), (6, n, 0)]) (p2 := 11) rfl rfl rfl rfl (x_rcv_s n hh8) rfl (e_new2 hh8) (Nat.le_refl _) (Nat.le_refl _) rfl (fun φ9 hR9 => ?_)
      obtain ⟨⟨fv9, hv9, gv9⟩, fr9⟩ := hR9
      exact q_retv rfl rfl (⟨rfl, rfl, rfl, rfl, by rw [if_pos (by omega)]; exact x_mv_sc hn (by omega) (by omega) hv9 gv9, fun j hj => ((fr9 j (by omega)).trans ((fr8 j (by omega)).trans rfl))⟩)
theorem e_builtIn_8 {d n sl : Nat} {φ : FH} (hO0 : x_ops466 φ) {v x : Nat} {m : MV} (hv : x_mv φ v m) (hn : 486 ≤ n) : x_f x_P (d + 3) 187 [(6, 466, 0), (0, 8, 0), (6, v, 0), (6, x, 0)] φ n sl (x_rR (6, n, 0) (n + 1) (sl + 7) (fun φ2 => x_mv φ2 n (if m.1 = 0 then (3, 0, 0, 0, []) else (3, 2, 0, 0, [])) ∧ ∀ j, j < n → φ2 j = φ j)) := by
  obtain ⟨fO, hO⟩ := hO0
  obtain ⟨fV, s1, l1, la1, h1, c1, hV, hg, hA⟩ := x_mv_g hv
  have ha := hv.2.1
  refine x_f_of rfl ?_
  refine q_load (p2 := 1) rfl rfl rfl rfl ?_
  refine q_switch (tgt := 78) rfl (by decide) rfl ?_
  refine q_load (p2 := 79) rfl rfl rfl rfl ?_
  refine q_getv (p2 := 80) rfl hV (by decide) hg.1 rfl ?_
  refine q_if0_s (p2 := 81) rfl (by decide) (by omega) rfl (fun hb1 => ?_) (fun hb1 => ?_)
  · have hb1 : m.1 = 0 := hb1
    refine q_const (p2 := 84) rfl rfl ?_
    refine q_callrE (xs := [(0, 0, 0)]) (p2 := 85) rfl rfl rfl rfl (x_rcv_0) rfl (e_truth_0 hn) (by omega) (by omega) rfl (fun φ2 hR2 => ?_)
    obtain ⟨hv9, hf9⟩ := hR2
    exact q_retv rfl rfl (⟨rfl, rfl, rfl, rfl, by rw [if_pos (by omega)]; exact hv9, hf9⟩)
  · have hb1 : ¬ (m.1 = 0) := hb1
    refine q_const (p2 := 82) rfl rfl ?_
    refine q_goto rfl ?_
    refine q_callrE (xs := [(0, 1, 0)]) (p2 := 85) rfl rfl rfl rfl (x_rcv_0) rfl (e_truth_1 hn) (by omega) (by omega) rfl (fun φ3 hR3 => ?_)
    obtain ⟨hv9, hf9⟩ := hR3
    exact q_retv rfl rfl (⟨rfl, rfl, rfl, rfl, by rw [if_neg (by omega)]; exact hv9, hf9⟩)
theorem e_builtIn_9 {d n sl : Nat} {φ : FH} (hO0 : x_ops466 φ) {A B made sv svm st : Nat} {comb : Nat → Nat} {hm : Nat → MV} (hS : x_PS φ A B made sv svm st comb hm) (hN : x_mv φ 225 MV0) {v x : Nat} {m : MV} (hv : x_mv φ v m) (hn : 486 ≤ n) : x_f x_P (d + 4) 187 [(6, 466, 0), (0, 9, 0), (6, v, 0), (6, x, 0)] φ n sl (x_bR n sl 3 55 (fun u φ2 => ∃ v2, u = (6, v2, 0) ∧ x_mv φ2 v2 (if m.1 = 5 then (if (x_al comb hm m.2.1 (made * 40)).length ≤ 24 then (6, 0, 2, 5, (x_al comb hm m.2.1 (made * 40))) else MV0) else MV0) ∧ ∀ j, j < n → φ2 j = φ j)) := by
  obtain ⟨fO, hO⟩ := hO0
  obtain ⟨fV, s1, l1, la1, h1, c1, hV, hg, hA⟩ := x_mv_g hv
  have ha := hv.2.1
  refine x_f_of rfl ?_
  refine q_load (p2 := 1) rfl rfl rfl rfl ?_
  refine q_switch (tgt := 86) rfl (by decide) rfl ?_
  refine q_load (p2 := 87) rfl rfl rfl rfl ?_
  refine q_getv (p2 := 88) rfl hV (by decide) hg.1 rfl ?_
  refine q_const (p2 := 89) rfl rfl ?_
  refine q_icmp_s (p2 := 90) rfl (by decide) (by omega) (by omega) rfl (fun hb1 => ?_) (fun hb1 => ?_)
  · have hb1 : ¬ (m.1 = 5) := hb1
    refine q_load (p2 := 98) rfl rfl rfl rfl ?_
    refine q_getv (p2 := 99) rfl hO.1 (by decide) hO.2.2.1 rfl ?_
    exact q_retv rfl rfl (⟨rfl, ⟨Nat.le_refl _, Nat.le_add_right _ _⟩, ⟨Nat.le_refl _, Nat.le_add_right _ _⟩, 225, rfl, by rw [if_neg (by omega)]; exact hN, fun _ _ => rfl⟩)
  · have hb1 : ¬ (¬ (m.1 = 5)) := hb1
    refine q_load (p2 := 91) rfl rfl rfl rfl ?_
    refine q_getv (p2 := 92) rfl hO.1 (by decide) hO.2.1 rfl ?_
    refine q_load (p2 := 93) rfl rfl rfl rfl ?_
    refine q_getv (p2 := 94) rfl hV (by decide) hg.2.1 rfl ?_
    refine q_l2i (z := m.2.1) (p2 := 95) rfl (Nat.mod_eq_of_lt (by omega)) rfl ?_
    refine q_callrB (xs := [(0, m.2.1, 0), (6, 7, 0)]) (p2 := 96) rfl rfl rfl rfl (x_rcv_s 7 (x_PS_7 hS)) rfl (e_allUsers hS ha hn) rfl (fun w2 φ2 n2 sl2 hn2 hN2 hs2 hT2 hR2 => ?_)
    obtain ⟨v2, rfl, hv2, hf2⟩ := hR2
    refine q_goto rfl ?_
    exact q_retv rfl rfl (⟨rfl, ⟨by omega, by omega⟩, ⟨by omega, by omega⟩, v2, rfl, by rw [if_pos (by omega)]; exact hv2, hf2⟩)
end FPOP20
