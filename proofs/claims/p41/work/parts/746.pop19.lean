section FPOP19
theorem x_mv_sc {φ : FH} {v k b : Nat} {f : Nat → XV} (hv : 486 ≤ v) (hb : b < 2147483648) (hk : k < 6) (h1 : φ v = some (0, 10, 7, f)) (h2 : x_vg f k b 0 0 0 0 (12, 0, 0)) : x_mv φ v (k, b, 0, 0, []) :=
  ⟨Or.inr hv, hb, fun i => by show ([] : List Nat).getD i 0 < _; rw [List.getD_nil]; decide, Or.inl ⟨hk, rfl, rfl, rfl, f, h1, h2⟩⟩
/-- the Operators -/
def x_ops466 (φ : FH) : Prop := ∃ f, φ 466 = some (0, 11, 3, f) ∧ f 0 = (6, 7, 0) ∧ f 1 = (6, 225, 0) ∧ f 2 = (6, 467, 0)
theorem e_isTrue {d n sl : Nat} {φ : FH} {v kA ba s1 l1 la1 h1 : Nat} {c1 : XV} {fV : Nat → XV} (hV : φ v = some (0, 10, 7, fV)) (hg : x_vg fV kA ba s1 l1 la1 h1 c1) (hA : kA < 7) (ha : ba < 2147483648) : x_f x_P (d + 1) 196 [(6, v, 0)] φ n sl (x_r φ n sl (0, if kA = 3 ∧ ba = 2 then 1 else 0, 0)) := by
  refine x_f_of rfl ?_
  refine q_load (p2 := 1) rfl rfl rfl rfl ?_
  refine q_getv (p2 := 2) rfl hV (by decide) hg.1 rfl ?_
  refine q_const (p2 := 3) rfl rfl ?_
  refine q_icmp_s (p2 := 4) rfl (by decide) (by omega) (by omega) rfl (fun hb1 => ?_) (fun hb1 => ?_)
  · have hb1 : ¬ (kA = 3) := hb1
    refine q_const (p2 := 12) rfl rfl ?_
    exact q_retv rfl rfl (⟨rfl, by rw [if_neg (by omega)], rfl, rfl, rfl⟩)
  · have hb1 : ¬ (¬ (kA = 3)) := hb1
    refine q_load (p2 := 5) rfl rfl rfl rfl ?_
    refine q_getv (p2 := 6) rfl hV (by decide) hg.2.1 rfl ?_
    refine q_const (p2 := 7) rfl rfl ?_
    refine q_lcif (p2 := 9) rfl rfl (by decide) (by omega) (by omega) rfl (fun hb2 => ?_) (fun hb2 => ?_)
    · have hb2 : ¬ (ba = 2) := hb2
      refine q_const (p2 := 12) rfl rfl ?_
      exact q_retv rfl rfl (⟨rfl, by rw [if_neg (by omega)], rfl, rfl, rfl⟩)
    · have hb2 : ¬ (¬ (ba = 2)) := hb2
      refine q_const (p2 := 10) rfl rfl ?_
      refine q_goto rfl ?_
      exact q_retv rfl rfl (⟨rfl, by rw [if_pos (by omega)], rfl, rfl, rfl⟩)
theorem e_isNumber {d n sl : Nat} {φ : FH} {v kA ba s1 l1 la1 h1 : Nat} {c1 : XV} {fV : Nat → XV} (hV : φ v = some (0, 10, 7, fV)) (hg : x_vg fV kA ba s1 l1 la1 h1 c1) (hA : kA < 7) (ha : ba < 2147483648) : x_f x_P (d + 1) 264 [(6, v, 0)] φ n sl (x_r φ n sl (0, if kA = 1 ∨ kA = 2 then 1 else 0, 0)) := by
  refine x_f_of rfl ?_
  refine q_load (p2 := 1) rfl rfl rfl rfl ?_
  refine q_getv (p2 := 2) rfl hV (by decide) hg.1 rfl ?_
  refine q_const (p2 := 3) rfl rfl ?_
  refine q_icmp_s (p2 := 4) rfl (by decide) (by omega) (by omega) rfl (fun hb1 => ?_) (fun hb1 => ?_)
  · have hb1 : kA = 1 := hb1
    refine q_const (p2 := 9) rfl rfl ?_
    refine q_goto rfl ?_
    exact q_retv rfl rfl (⟨rfl, by rw [if_pos (by omega)], rfl, rfl, rfl⟩)
  · have hb1 : ¬ (kA = 1) := hb1
    refine q_load (p2 := 5) rfl rfl rfl rfl ?_
    refine q_getv (p2 := 6) rfl hV (by decide) hg.1 rfl ?_
    refine q_const (p2 := 7) rfl rfl ?_
    refine q_icmp_s (p2 := 8) rfl (by decide) (by omega) (by omega) rfl (fun hb2 => ?_) (fun hb2 => ?_)
    · have hb2 : ¬ (kA = 2) := hb2
      refine q_const (p2 := 11) rfl rfl ?_
      exact q_retv rfl rfl (⟨rfl, by rw [if_neg (by omega)], rfl, rfl, rfl⟩)
    · have hb2 : ¬ (¬ (kA = 2)) := hb2
      refine q_const (p2 := 9) rfl rfl ?_
      refine q_goto rfl ?_
      exact q_retv rfl rfl (⟨rfl, by rw [if_pos (by omega)], rfl, rfl, rfl⟩)
theorem e_truth_0 {d n sl : Nat} {φ : FH} (hn : 486 ≤ n) : x_f x_P (d + 2) 258 [(0, 0, 0)] φ n sl (x_rR (6, n, 0) (n + 1) (sl + 7) (fun φ2 => x_mv φ2 n (3, 0, 0, 0, []) ∧ ∀ j, j < n → φ2 j = φ j)) := by
  refine x_f_of rfl ?_
  refine q_newE (p2 := 1) (len := 7) (g := x_gV) rfl rfl x_gV_ok rfl (fun φ1 hh1 fr1 => ?_)
  refine q_dup (p2 := 2) rfl rfl rfl ?_
  refine q_const (p2 := 3) rfl rfl ?_
  refine q_load (p2 := 4) rfl rfl rfl rfl ?_
  refine q_if0_s (p2 := 5) rfl (by decide) (by omega) rfl (fun _ => ?_) (fun hb => absurd (show 0 = 0 by omega) hb)
  refine q_const (p2 := 8) rfl rfl ?_
  refine q_callvE (xs := [(2, 0, 0), (0, 3, 0), (6, n, 0)]) (p2 := 9) rfl rfl rfl rfl (x_rcv_s n hh1) rfl (e_new2 hh1) (Nat.le_refl _) (Nat.le_refl _) rfl (fun φ2 hR2 => ?_)
  obtain ⟨⟨fv2, hv2, gv2⟩, fr2⟩ := hR2
  exact q_retv rfl rfl (⟨rfl, rfl, rfl, rfl, x_mv_sc hn (by omega) (by omega) hv2 gv2, fun j hj => ((fr2 j (by omega)).trans ((fr1 j (by omega)).trans rfl))⟩)
theorem e_truth_1 {d n sl : Nat} {φ : FH} (hn : 486 ≤ n) : x_f x_P (d + 2) 258 [(0, 1, 0)] φ n sl (x_rR (6, n, 0) (n + 1) (sl + 7) (fun φ2 => x_mv φ2 n (3, 2, 0, 0, []) ∧ ∀ j, j < n → φ2 j = φ j)) := by
  refine x_f_of rfl ?_
  refine q_newE (p2 := 1) (len := 7) (g := x_gV) rfl rfl x_gV_ok rfl (fun φ1 hh1 fr1 => ?_)
  refine q_dup (p2 := 2) rfl rfl rfl ?_
  refine q_const (p2 := 3) rfl rfl ?_
  refine q_load (p2 := 4) rfl rfl rfl rfl ?_
  refine q_if0_s (p2 := 5) rfl (by decide) (by omega) rfl (fun hb => absurd hb (show ¬ (1 = 0) by omega)) (fun _ => ?_)
  refine q_const (p2 := 6) rfl rfl ?_
  refine q_goto rfl ?_
  refine q_callvE (xs := [(2, 2, 0), (0, 3, 0), (6, n, 0)]) (p2 := 9) rfl rfl rfl rfl (x_rcv_s n hh1) rfl (e_new2 hh1) (Nat.le_refl _) (Nat.le_refl _) rfl (fun φ2 hR2 => ?_)
  obtain ⟨⟨fv2, hv2, gv2⟩, fr2⟩ := hR2
  exact q_retv rfl rfl (⟨rfl, rfl, rfl, rfl, x_mv_sc hn (by omega) (by omega) hv2 gv2, fun j hj => ((fr2 j (by omega)).trans ((fr1 j (by omega)).trans rfl))⟩)
theorem e_wholes_69 {d n sl : Nat} {φ : FH} {a b : Nat} (hab : a + b < 2147483648) (hn : 486 ≤ n) : x_f x_P (d + 2) 266 [(6, 466, 0), (0, 69, 0), (2, a, 0), (11, 0, 0), (2, b, 0), (11, 0, 0), (11, 0, 0), (11, 0, 0)] φ n sl (x_rR (6, n, 0) (n + 1) (sl + 7) (fun φ2 => x_mv φ2 n (1, a + b, 0, 0, []) ∧ ∀ j, j < n → φ2 j = φ j)) := by
  refine x_f_of rfl ?_
  refine q_const (p2 := 1) rfl rfl ?_
  refine q_store2 (p2 := 2) rfl rfl rfl rfl rfl ?_
  refine q_load (p2 := 3) rfl rfl rfl rfl ?_
  refine q_switch (tgt := 4) rfl (by decide) rfl ?_
  refine q_load (p2 := 5) rfl rfl rfl rfl ?_
  refine q_load (p2 := 6) rfl rfl rfl rfl ?_
  refine q_lop (g := 2) (w := a + b) (z := a + b) (p2 := 7) rfl rfl rfl (Nat.mod_eq_of_lt (by omega)) rfl ?_
  refine q_store2 (p2 := 8) rfl rfl rfl rfl rfl ?_
  refine q_goto rfl ?_
  refine q_load (p2 := 42) rfl rfl rfl rfl ?_
  refine q_load (p2 := 43) rfl rfl rfl rfl ?_
  refine q_l2i (z := (a + b)) (p2 := 44) rfl (Nat.mod_eq_of_lt (by omega)) rfl ?_
  refine q_i2l (p2 := 45) rfl (by omega) rfl ?_
  refine q_lcif (p2 := 47) rfl rfl (by decide) (by omega) (by omega) rfl (fun hb => absurd hb (show ¬ (¬ ((a + b) = (a + b))) by omega)) (fun _ => ?_)
  refine q_newE (p2 := 48) (len := 7) (g := x_gV) rfl rfl x_gV_ok rfl (fun φ1 hh1 fr1 => ?_)
  refine q_dup (p2 := 49) rfl rfl rfl ?_
  refine q_const (p2 := 50) rfl rfl ?_
  refine q_load (p2 := 51) rfl rfl rfl rfl ?_
  refine q_callvE (xs := [(2, (a + b), 0), (0, 1, 0), (6, n, 0)]) (p2 := 52) rfl rfl rfl rfl (x_rcv_s n hh1) rfl (e_new2 hh1) (Nat.le_refl _) (Nat.le_refl _) rfl (fun φ2 hR2 => ?_)
  obtain ⟨⟨fv2, hv2, gv2⟩, fr2⟩ := hR2
  refine q_goto rfl ?_
  exact q_retv rfl rfl (⟨rfl, rfl, rfl, rfl, x_mv_sc hn (by omega) (by omega) hv2 gv2, fun j hj => ((fr2 j (by omega)).trans ((fr1 j (by omega)).trans rfl))⟩)
theorem e_wholes_71 {d n sl : Nat} {φ : FH} {a b : Nat} (hab : a * b < 2147483648) (hn : 486 ≤ n) : x_f x_P (d + 2) 266 [(6, 466, 0), (0, 71, 0), (2, a, 0), (11, 0, 0), (2, b, 0), (11, 0, 0), (11, 0, 0), (11, 0, 0)] φ n sl (x_rR (6, n, 0) (n + 1) (sl + 7) (fun φ2 => x_mv φ2 n (1, a * b, 0, 0, []) ∧ ∀ j, j < n → φ2 j = φ j)) := by
  refine x_f_of rfl ?_
  refine q_const (p2 := 1) rfl rfl ?_
  refine q_store2 (p2 := 2) rfl rfl rfl rfl rfl ?_
  refine q_load (p2 := 3) rfl rfl rfl rfl ?_
  refine q_switch (tgt := 14) rfl (by decide) rfl ?_
  refine q_load (p2 := 15) rfl rfl rfl rfl ?_
  refine q_load (p2 := 16) rfl rfl rfl rfl ?_
  refine q_lop (g := 2) (w := a * b) (z := a * b) (p2 := 17) rfl rfl rfl (Nat.mod_eq_of_lt (by omega)) rfl ?_
  refine q_store2 (p2 := 18) rfl rfl rfl rfl rfl ?_
  refine q_goto rfl ?_
  refine q_load (p2 := 42) rfl rfl rfl rfl ?_
  refine q_load (p2 := 43) rfl rfl rfl rfl ?_
  refine q_l2i (z := (a * b)) (p2 := 44) rfl (Nat.mod_eq_of_lt (by omega)) rfl ?_
  refine q_i2l (p2 := 45) rfl (by omega) rfl ?_
  refine q_lcif (p2 := 47) rfl rfl (by decide) (by omega) (by omega) rfl (fun hb => absurd hb (show ¬ (¬ ((a * b) = (a * b))) by omega)) (fun _ => ?_)
  refine q_newE (p2 := 48) (len := 7) (g := x_gV) rfl rfl x_gV_ok rfl (fun φ1 hh1 fr1 => ?_)
  refine q_dup (p2 := 49) rfl rfl rfl ?_
  refine q_const (p2 := 50) rfl rfl ?_
  refine q_load (p2 := 51) rfl rfl rfl rfl ?_
  refine q_callvE (xs := [(2, (a * b), 0), (0, 1, 0), (6, n, 0)]) (p2 := 52) rfl rfl rfl rfl (x_rcv_s n hh1) rfl (e_new2 hh1) (Nat.le_refl _) (Nat.le_refl _) rfl (fun φ2 hR2 => ?_)
  obtain ⟨⟨fv2, hv2, gv2⟩, fr2⟩ := hR2
  refine q_goto rfl ?_
  exact q_retv rfl rfl (⟨rfl, rfl, rfl, rfl, x_mv_sc hn (by omega) (by omega) hv2 gv2, fun j hj => ((fr2 j (by omega)).trans ((fr1 j (by omega)).trans rfl))⟩)
theorem e_numbers_69 {d n sl : Nat} {φ : FH} (hO0 : x_ops466 φ) (hN : x_mv φ 225 MV0) {v w kA kB ba bb s1 l1 la1 h1 s2 l2 la2 h2 : Nat} {c1 c2 : XV} {fV fW : Nat → XV} (hV : φ v = some (0, 10, 7, fV)) (hg : x_vg fV kA ba s1 l1 la1 h1 c1) (hW : φ w = some (0, 10, 7, fW)) (hgw : x_vg fW kB bb s2 l2 la2 h2 c2) (hA : kA < 7) (hB : kB < 7) (ha : ba < 2147483648) (hb : bb < 2147483648) (hA2 : kA ≠ 2) (hB2 : kB ≠ 2) (hab : ba + bb < 2147483648) (hn : 486 ≤ n) : x_f x_P (d + 3) 192 [(6, 466, 0), (0, 69, 0), (6, v, 0), (6, w, 0), (11, 0, 0), (11, 0, 0), (11, 0, 0), (11, 0, 0)] φ n sl (x_bR n sl 1 7 (fun u φ2 => ∃ v2, u = (6, v2, 0) ∧ x_mv φ2 v2 (if kA = 1 ∧ kB = 1 then (1, ba + bb, 0, 0, []) else MV0) ∧ ∀ j, j < n → φ2 j = φ j)) := by
  obtain ⟨fO, hO⟩ := hO0
  refine x_f_of rfl ?_
  refine q_load (p2 := 1) rfl rfl rfl rfl ?_
  refine q_callr (xs := [(6, v, 0)]) (p2 := 2) rfl rfl rfl rfl (x_rcv_s v hV) rfl (e_isNumber hV hg hA ha) (Nat.le_refl _) (Nat.le_refl _) rfl ?_
  by_cases hb1 : kA = 1 ∨ kA = 2
  · rw [if_pos hb1]
    refine q_if0_s (p2 := 3) rfl (by decide) (by omega) rfl (fun hb => absurd hb (show ¬ (1 = 0) by omega)) (fun _ => ?_)
    refine q_load (p2 := 4) rfl rfl rfl rfl ?_
    refine q_callr (xs := [(6, w, 0)]) (p2 := 5) rfl rfl rfl rfl (x_rcv_s w hW) rfl (e_isNumber hW hgw hB hb) (Nat.le_refl _) (Nat.le_refl _) rfl ?_
    by_cases hb2 : kB = 1 ∨ kB = 2
    · rw [if_pos hb2]
      refine q_if0_s (p2 := 6) rfl (by decide) (by omega) rfl (fun _ => ?_) (fun hb => absurd (show ¬ (1 = 0) by omega) hb)
      refine q_load (p2 := 10) rfl rfl rfl rfl ?_
      refine q_getv (p2 := 11) rfl hV (by decide) hg.1 rfl ?_
      refine q_const (p2 := 12) rfl rfl ?_
      refine q_icmp_s (p2 := 13) rfl (by decide) (by omega) (by omega) rfl (fun hb3 => ?_) (fun hb3 => ?_)
      · have hb3 : ¬ (kA = 1) := hb3
        exact absurd (show False by omega) id
      · have hb3 : ¬ (¬ (kA = 1)) := hb3
        refine q_load (p2 := 14) rfl rfl rfl rfl ?_
        refine q_getv (p2 := 15) rfl hW (by decide) hgw.1 rfl ?_
        refine q_const (p2 := 16) rfl rfl ?_
        refine q_icmp_s (p2 := 17) rfl (by decide) (by omega) (by omega) rfl (fun hb4 => ?_) (fun hb4 => ?_)
        · have hb4 : ¬ (kB = 1) := hb4
          exact absurd (show False by omega) id
        · have hb4 : ¬ (¬ (kB = 1)) := hb4
          refine q_load (p2 := 18) rfl rfl rfl rfl ?_
          refine q_const (p2 := 19) rfl rfl ?_
          refine q_icmp_s (p2 := 20) rfl (by decide) (by omega) (by omega) rfl (fun hb => absurd hb (show ¬ (69 = 72) by omega)) (fun _ => ?_)
          refine q_load (p2 := 21) rfl rfl rfl rfl ?_
          refine q_load (p2 := 22) rfl rfl rfl rfl ?_
          refine q_load (p2 := 23) rfl rfl rfl rfl ?_
          refine q_getv (p2 := 24) rfl hV (by decide) hg.2.1 rfl ?_
          refine q_load (p2 := 25) rfl rfl rfl rfl ?_
          refine q_getv (p2 := 26) rfl hW (by decide) hgw.2.1 rfl ?_
          refine q_callrE (xs := [(2, bb, 0), (2, ba, 0), (0, 69, 0), (6, 466, 0)]) (p2 := 27) rfl rfl rfl rfl (x_rcv_s 466 hO.1) rfl (e_wholes_69 hab hn) (by omega) (by omega) rfl (fun φ5 hR5 => ?_)
          obtain ⟨hv9, hf9⟩ := hR5
          exact q_retv rfl rfl (⟨rfl, ⟨by omega, by omega⟩, ⟨by omega, by omega⟩, n, rfl, by rw [if_pos (by omega)]; exact hv9, hf9⟩)
    · rw [if_neg hb2]
      refine q_if0_s (p2 := 6) rfl (by decide) (by omega) rfl (fun hb => absurd hb (show ¬ (¬ (0 = 0)) by omega)) (fun _ => ?_)
      refine q_load (p2 := 7) rfl rfl rfl rfl ?_
      refine q_getv (p2 := 8) rfl hO.1 (by decide) hO.2.2.1 rfl ?_
      exact q_retv rfl rfl (⟨rfl, ⟨Nat.le_refl _, Nat.le_add_right _ _⟩, ⟨Nat.le_refl _, Nat.le_add_right _ _⟩, 225, rfl, by rw [if_neg (by omega)]; exact hN, fun _ _ => rfl⟩)
  · rw [if_neg hb1]
    refine q_if0_s (p2 := 3) rfl (by decide) (by omega) rfl (fun _ => ?_) (fun hb => absurd (show 0 = 0 by omega) hb)
    refine q_load (p2 := 7) rfl rfl rfl rfl ?_
    refine q_getv (p2 := 8) rfl hO.1 (by decide) hO.2.2.1 rfl ?_
    exact q_retv rfl rfl (⟨rfl, ⟨Nat.le_refl _, Nat.le_add_right _ _⟩, ⟨Nat.le_refl _, Nat.le_add_right _ _⟩, 225, rfl, by rw [if_neg (by omega)]; exact hN, fun _ _ => rfl⟩)
theorem e_numbers_71 {d n sl : Nat} {φ : FH} (hO0 : x_ops466 φ) (hN : x_mv φ 225 MV0) {v w kA kB ba bb s1 l1 la1 h1 s2 l2 la2 h2 : Nat} {c1 c2 : XV} {fV fW : Nat → XV} (hV : φ v = some (0, 10, 7, fV)) (hg : x_vg fV kA ba s1 l1 la1 h1 c1) (hW : φ w = some (0, 10, 7, fW)) (hgw : x_vg fW kB bb s2 l2 la2 h2 c2) (hA : kA < 7) (hB : kB < 7) (ha : ba < 2147483648) (hb : bb < 2147483648) (hA2 : kA ≠ 2) (hB2 : kB ≠ 2) (hab : ba * bb < 2147483648) (hn : 486 ≤ n) : x_f x_P (d + 3) 192 [(6, 466, 0), (0, 71, 0), (6, v, 0), (6, w, 0), (11, 0, 0), (11, 0, 0), (11, 0, 0), (11, 0, 0)] φ n sl (x_bR n sl 1 7 (fun u φ2 => ∃ v2, u = (6, v2, 0) ∧ x_mv φ2 v2 (if kA = 1 ∧ kB = 1 then (1, ba * bb, 0, 0, []) else MV0) ∧ ∀ j, j < n → φ2 j = φ j)) := by
  obtain ⟨fO, hO⟩ := hO0
  refine x_f_of rfl ?_
  refine q_load (p2 := 1) rfl rfl rfl rfl ?_
  refine q_callr (xs := [(6, v, 0)]) (p2 := 2) rfl rfl rfl rfl (x_rcv_s v hV) rfl (e_isNumber hV hg hA ha) (Nat.le_refl _) (Nat.le_refl _) rfl ?_
  by_cases hb1 : kA = 1 ∨ kA = 2
  · rw [if_pos hb1]
    refine q_if0_s (p2 := 3) rfl (by decide) (by omega) rfl (fun hb => absurd hb (show ¬ (1 = 0) by omega)) (fun _ => ?_)
    refine q_load (p2 := 4) rfl rfl rfl rfl ?_
    refine q_callr (xs := [(6, w, 0)]) (p2 := 5) rfl rfl rfl rfl (x_rcv_s w hW) rfl (e_isNumber hW hgw hB hb) (Nat.le_refl _) (Nat.le_refl _) rfl ?_
    by_cases hb2 : kB = 1 ∨ kB = 2
    · rw [if_pos hb2]
      refine q_if0_s (p2 := 6) rfl (by decide) (by omega) rfl (fun _ => ?_) (fun hb => absurd (show ¬ (1 = 0) by omega) hb)
      refine q_load (p2 := 10) rfl rfl rfl rfl ?_
      refine q_getv (p2 := 11) rfl hV (by decide) hg.1 rfl ?_
      refine q_const (p2 := 12) rfl rfl ?_
      refine q_icmp_s (p2 := 13) rfl (by decide) (by omega) (by omega) rfl (fun hb3 => ?_) (fun hb3 => ?_)
      · have hb3 : ¬ (kA = 1) := hb3
        exact absurd (show False by omega) id
      · have hb3 : ¬ (¬ (kA = 1)) := hb3
        refine q_load (p2 := 14) rfl rfl rfl rfl ?_
        refine q_getv (p2 := 15) rfl hW (by decide) hgw.1 rfl ?_
        refine q_const (p2 := 16) rfl rfl ?_
        refine q_icmp_s (p2 := 17) rfl (by decide) (by omega) (by omega) rfl (fun hb4 => ?_) (fun hb4 => ?_)
        · have hb4 : ¬ (kB = 1) := hb4
          exact absurd (show False by omega) id
        · have hb4 : ¬ (¬ (kB = 1)) := hb4
          refine q_load (p2 := 18) rfl rfl rfl rfl ?_
          refine q_const (p2 := 19) rfl rfl ?_
          refine q_icmp_s (p2 := 20) rfl (by decide) (by omega) (by omega) rfl (fun hb => absurd hb (show ¬ (71 = 72) by omega)) (fun _ => ?_)
          refine q_load (p2 := 21) rfl rfl rfl rfl ?_
          refine q_load (p2 := 22) rfl rfl rfl rfl ?_
          refine q_load (p2 := 23) rfl rfl rfl rfl ?_
          refine q_getv (p2 := 24) rfl hV (by decide) hg.2.1 rfl ?_
          refine q_load (p2 := 25) rfl rfl rfl rfl ?_
          refine q_getv (p2 := 26) rfl hW (by decide) hgw.2.1 rfl ?_
          refine q_callrE (xs := [(2, bb, 0), (2, ba, 0), (0, 71, 0), (6, 466, 0)]) (p2 := 27) rfl rfl rfl rfl (x_rcv_s 466 hO.1) rfl (e_wholes_71 hab hn) (by omega) (by omega) rfl (fun φ5 hR5 => ?_)
          obtain ⟨hv9, hf9⟩ := hR5
          exact q_retv rfl rfl (⟨rfl, ⟨by omega, by omega⟩, ⟨by omega, by omega⟩, n, rfl, by rw [if_pos (by omega)]; exact hv9, hf9⟩)
    · rw [if_neg hb2]
      refine q_if0_s (p2 := 6) rfl (by decide) (by omega) rfl (fun hb => absurd hb (show ¬ (¬ (0 = 0)) by omega)) (fun _ => ?_)
      refine q_load (p2 := 7) rfl rfl rfl rfl ?_
      refine q_getv (p2 := 8) rfl hO.1 (by decide) hO.2.2.1 rfl ?_
      exact q_retv rfl rfl (⟨rfl, ⟨Nat.le_refl _, Nat.le_add_right _ _⟩, ⟨Nat.le_refl _, Nat.le_add_right _ _⟩, 225, rfl, by rw [if_neg (by omega)]; exact hN, fun _ _ => rfl⟩)
  · rw [if_neg hb1]
    refine q_if0_s (p2 := 3) rfl (by decide) (by omega) rfl (fun _ => ?_) (fun hb => absurd (show 0 = 0 by omega) hb)
    refine q_load (p2 := 7) rfl rfl rfl rfl ?_
    refine q_getv (p2 := 8) rfl hO.1 (by decide) hO.2.2.1 rfl ?_
    exact q_retv rfl rfl (⟨rfl, ⟨Nat.le_refl _, Nat.le_add_right _ _⟩, ⟨Nat.le_refl _, Nat.le_add_right _ _⟩, 225, rfl, by rw [if_neg (by omega)]; exact hN, fun _ _ => rfl⟩)
end FPOP19
