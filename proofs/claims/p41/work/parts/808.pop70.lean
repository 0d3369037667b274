section FPOP70
theorem zc_w_add_480 {d n sl : Nat} {φ : FH} {wb : Nat} {sz : Nat} {dr : Nat} {b1w : Nat → Nat} {b2w : Nat → Nat} {c : Nat} (hW : zq_W φ wb sz 480 dr b1w b2w) (hc0 : c < 128 ∧ dr < 6000) : x_f x_P (d + 1) 128 [(6, 478, 0), (0, c, 0)] φ n sl (x_vR n sl (fun φ2 => zq_W φ2 wb sz 480 (dr + 1) b1w (x_s b2w dr c) ∧ ∀ j, j ≠ 478 → j ≠ 480 → φ2 j = φ j)) := by
  refine x_f_of rfl ?_
  refine q_load (v := (6, 478, 0)) (p2 := 1) rfl rfl rfl rfl ?_
  refine q_getv (v := (0, dr, 0)) (p2 := 2) rfl hW.1 (by decide) rfl rfl ?_
  refine q_load (v := (6, 478, 0)) (p2 := 3) rfl rfl rfl rfl ?_
  refine q_getv (v := (6, 480, 0)) (p2 := 4) rfl hW.1 (by decide) rfl rfl ?_
  refine q_alen (p2 := 5) rfl hW.2.2 rfl (by omega) rfl ?_
  refine q_icmp_s (p2 := 6) rfl (by decide) (by omega) (by omega) rfl (fun hb => absurd hb (show ¬ (¬ (dr < 6000)) by omega)) (fun _ => ?_)
  refine q_load (v := (6, 478, 0)) (p2 := 7) rfl rfl rfl rfl ?_
  refine q_getv (v := (6, 480, 0)) (p2 := 8) rfl hW.1 (by decide) rfl rfl ?_
  refine q_load (v := (6, 478, 0)) (p2 := 9) rfl rfl rfl rfl ?_
  refine q_getv (v := (0, dr, 0)) (p2 := 10) rfl hW.1 (by decide) rfl rfl ?_
  refine q_load (v := (0, c, 0)) (p2 := 11) rfl rfl rfl rfl ?_
  refine q_i2n (w := (0, c, 0)) (p2 := 12) rfl (x_nv_2 (by omega)) rfl ?_
  refine q_astE (v := (0, c, 0)) (w := (0, c, 0)) (p2 := 13) rfl hW.2.2 (by omega) (by omega) (x_ok_0 rfl) (x_nv_2 (by omega)) rfl (fun φ1 f1 hh1 hg1 ho1 fr1 => ?_)
  have hs1 := zq_W_st_480 hW hh1 hg1 ho1 fr1
  refine q_load (v := (6, 478, 0)) (p2 := 14) rfl rfl rfl rfl ?_
  refine q_dup (p2 := 15) rfl rfl rfl ?_
  refine q_getv (v := (0, dr, 0)) (p2 := 16) rfl hs1.1 (by decide) rfl rfl ?_
  refine q_const (p2 := 17) rfl rfl ?_
  refine q_iaddz (z := dr + 1) (p2 := 18) rfl (by omega) (by omega) rfl ?_
  refine q_putfE (v := (0, dr + 1, 0)) (p2 := 19) rfl hs1.1 (by decide) rfl rfl (fun φ2 f2 hh2 hg2 ho2 fr2 => ?_)
  have hs2 := zq_W_put_478_4 hs1 hh2 hg2 ho2 fr2
  exact q_ret rfl (⟨rfl, rfl, rfl, hs2, fun j hj0 hj1 => ((fr2 j (by omega)).trans (fr1 j (by omega)))⟩)
theorem zc_w_add_479 {d n sl : Nat} {φ : FH} {wb : Nat} {sz : Nat} {dr : Nat} {b1w : Nat → Nat} {b2w : Nat → Nat} {c : Nat} (hW : zq_W φ wb sz 479 dr b1w b2w) (hc0 : c < 128 ∧ dr < 6000) : x_f x_P (d + 1) 128 [(6, 478, 0), (0, c, 0)] φ n sl (x_vR n sl (fun φ2 => zq_W φ2 wb sz 479 (dr + 1) (x_s b1w dr c) b2w ∧ ∀ j, j ≠ 478 → j ≠ 479 → φ2 j = φ j)) := by
  refine x_f_of rfl ?_
  refine q_load (v := (6, 478, 0)) (p2 := 1) rfl rfl rfl rfl ?_
  refine q_getv (v := (0, dr, 0)) (p2 := 2) rfl hW.1 (by decide) rfl rfl ?_
  refine q_load (v := (6, 478, 0)) (p2 := 3) rfl rfl rfl rfl ?_
  refine q_getv (v := (6, 479, 0)) (p2 := 4) rfl hW.1 (by decide) rfl rfl ?_
  refine q_alen (p2 := 5) rfl hW.2.1 rfl (by omega) rfl ?_
  refine q_icmp_s (p2 := 6) rfl (by decide) (by omega) (by omega) rfl (fun hb => absurd hb (show ¬ (¬ (dr < 6000)) by omega)) (fun _ => ?_)
  refine q_load (v := (6, 478, 0)) (p2 := 7) rfl rfl rfl rfl ?_
  refine q_getv (v := (6, 479, 0)) (p2 := 8) rfl hW.1 (by decide) rfl rfl ?_
  refine q_load (v := (6, 478, 0)) (p2 := 9) rfl rfl rfl rfl ?_
  refine q_getv (v := (0, dr, 0)) (p2 := 10) rfl hW.1 (by decide) rfl rfl ?_
  refine q_load (v := (0, c, 0)) (p2 := 11) rfl rfl rfl rfl ?_
  refine q_i2n (w := (0, c, 0)) (p2 := 12) rfl (x_nv_2 (by omega)) rfl ?_
  refine q_astE (v := (0, c, 0)) (w := (0, c, 0)) (p2 := 13) rfl hW.2.1 (by omega) (by omega) (x_ok_0 rfl) (x_nv_2 (by omega)) rfl (fun φ1 f1 hh1 hg1 ho1 fr1 => ?_)
  have hs1 := zq_W_st_479 hW hh1 hg1 ho1 fr1
  refine q_load (v := (6, 478, 0)) (p2 := 14) rfl rfl rfl rfl ?_
  refine q_dup (p2 := 15) rfl rfl rfl ?_
  refine q_getv (v := (0, dr, 0)) (p2 := 16) rfl hs1.1 (by decide) rfl rfl ?_
  refine q_const (p2 := 17) rfl rfl ?_
  refine q_iaddz (z := dr + 1) (p2 := 18) rfl (by omega) (by omega) rfl ?_
  refine q_putfE (v := (0, dr + 1, 0)) (p2 := 19) rfl hs1.1 (by decide) rfl rfl (fun φ2 f2 hh2 hg2 ho2 fr2 => ?_)
  have hs2 := zq_W_put_478_4 hs1 hh2 hg2 ho2 fr2
  exact q_ret rfl (⟨rfl, rfl, rfl, hs2, fun j hj0 hj1 => ((fr2 j (by omega)).trans (fr1 j (by omega)))⟩)
/-- the draft: a list; how long it may be -/
def zD (φ : FH) (sz : Nat) (bw : Nat → Nat) (L : List Nat) (b : Nat) : Prop := L.length ≤ b ∧ ∃ wb wd : Nat, ∃ b1w b2w : Nat → Nat, zq_W φ wb sz wd L.length b1w b2w ∧ ((wb = 479 ∧ wd = 480 ∧ b1w = bw ∧ ∀ i, i < L.length → b2w i = L.getD i 0) ∨ (wb = 480 ∧ wd = 479 ∧ b2w = bw ∧ ∀ i, i < L.length → b1w i = L.getD i 0)) ∧ ∀ y, y ∈ L → y < 128
theorem zD_at {φ φ1 : FH} {sz : Nat} {bw : Nat → Nat} {L : List Nat} {b : Nat} (h : zD φ sz bw L b) (e : ∀ j, 478 ≤ j → j ≤ 480 → φ1 j = φ j) : zD φ1 sz bw L b := by
  obtain ⟨h0, wb, wd, b1w, b2w, h, hx⟩ := h
  exact ⟨h0, _, _, _, _, zq_W_at h (e _ (by decide) (by decide)) (e _ (by decide) (by decide)) (e _ (by decide) (by decide)), hx⟩
theorem zD_le {φ : FH} {sz : Nat} {bw : Nat → Nat} {L : List Nat} {b b2 : Nat} (h : zD φ sz bw L b) (hb : b ≤ b2) : zD φ sz bw L b2 := ⟨Nat.le_trans h.1 hb, h.2⟩
theorem zD_eq {φ : FH} {sz : Nat} {bw : Nat → Nat} {L L2 : List Nat} {b : Nat} (h : zD φ sz bw L b) (e : L = L2) : zD φ sz bw L2 b := e ▸ h
theorem zD_478 {φ : FH} {sz : Nat} {bw : Nat → Nat} {L : List Nat} {b : Nat} (h : zD φ sz bw L b) : ∃ f, φ 478 = some (0, 9, 5, f) ∧ f 0 = (6, 7, 0) := by
  obtain ⟨h0, wb, wd, b1w, b2w, h, hx⟩ := h
  exact ⟨_, h.1, rfl⟩
theorem zL_put {K : Nat → Nat} {L : List Nat} {c : Nat} (h : ∀ i, i < L.length → K i = L.getD i 0) : ∀ i, i < (L ++ [c]).length → x_s K L.length c i = (L ++ [c]).getD i 0 := by
  intro i hi
  rw [List.length_append] at hi
  by_cases he : i = L.length
  · subst he
    rw [x_s_eq, List.getD_eq_getElem?_getD, List.getElem?_append_right (Nat.le_refl _), Nat.sub_self]; rfl
  · have hlt : i < L.length := by have : ([c] : List Nat).length = 1 := rfl; omega
    rw [x_s_ne he, h i hlt, List.getD_eq_getElem?_getD, List.getD_eq_getElem?_getD, List.getElem?_append_left hlt]
theorem zc_addD {d n sl : Nat} {φ : FH} {sz b c : Nat} {bw : Nat → Nat} {L : List Nat} (hD : zD φ sz bw L b) (hc : c < 128) (hb : b < 6000) : x_f x_P (d + 1) 128 [(6, 478, 0), (0, c, 0)] φ n sl (x_vR n sl (fun φ2 => zD φ2 sz bw (L ++ [c]) (b + 1) ∧ ∀ j, j ≠ 478 → j ≠ 479 → j ≠ 480 → φ2 j = φ j)) := by
  obtain ⟨h0, wb, wd, b1w, b2w, h, hx, h128⟩ := hD
  have h128b : ∀ y, y ∈ L ++ [c] → y < 128 := by
    intro y hy
    rcases List.mem_append.mp hy with q | q
    · exact h128 y q
    · rw [List.mem_singleton.mp q]; exact hc
  have hlen : (L ++ [c]).length = L.length + 1 := by rw [List.length_append]; rfl
  rcases hx with ⟨rfl, rfl, e1, e2⟩ | ⟨rfl, rfl, e1, e2⟩
  · refine x_f_mono (zc_w_add_480 h ⟨hc, by omega⟩) (fun u w φ2 n2 sl2 q => ?_)
    obtain ⟨q1, q2, q3, q4, q5⟩ := q
    refine ⟨q1, q2, q3, ⟨by omega, _, _, _, _, hlen ▸ q4, Or.inl ⟨rfl, rfl, e1, zL_put e2⟩, h128b⟩, fun j h1 h2 h3 => q5 j (by omega) (by omega)⟩
  · refine x_f_mono (zc_w_add_479 h ⟨hc, by omega⟩) (fun u w φ2 n2 sl2 q => ?_)
    obtain ⟨q1, q2, q3, q4, q5⟩ := q
    refine ⟨q1, q2, q3, ⟨by omega, _, _, _, _, hlen ▸ q4, Or.inr ⟨rfl, rfl, e1, zL_put e2⟩, h128b⟩, fun j h1 h2 h3 => q5 j (by omega) (by omega)⟩
theorem zc_wnum_1 {d n sl : Nat} {φ : FH} {sz b v : Nat} {bw : Nat → Nat} {L : List Nat} (hD : zD φ sz bw L b) (hv : 0 ≤ v ∧ v ≤ 9) (hb : b < 5900) : x_f x_P (d + 2) 129 [(6, 478, 0), (2, v, 0), (11, 0, 0), (11, 0, 0), (11, 0, 0), (11, 0, 0), (11, 0, 0), (11, 0, 0)] φ n sl (x_vR n sl (fun φ2 => zD φ2 sz bw (L ++ [(48 + ((v / 1) % 10))]) (b + 1) ∧ ∀ j, j ≠ 478 → j ≠ 479 → j ≠ 480 → φ2 j = φ j)) := by
  refine x_f_of rfl ?_
  refine q_load (v := (2, v, 0)) (p2 := 1) rfl rfl rfl rfl ?_
  refine q_const (p2 := 2) rfl rfl ?_
  refine q_lcif (p2 := 4) rfl rfl (by decide) (by omega) (by omega) rfl (fun _ => ?_) (fun hb => absurd (show ¬ (v < 0) by omega) hb)
  refine q_load (v := (2, v, 0)) (p2 := 8) rfl rfl rfl rfl ?_
  refine q_const (p2 := 9) rfl rfl ?_
  refine q_lcif (p2 := 11) rfl rfl (by decide) (by omega) (by omega) rfl (fun _ => ?_) (fun hb => absurd (show ¬ (v < 0) by omega) hb)
  refine q_load (v := (2, v, 0)) (p2 := 15) rfl rfl rfl rfl ?_
  refine q_store2 (loc2 := [(6, 478, 0), (2, v, 0), (11, 0, 0), (2, v, 0), (11, 0, 0), (11, 0, 0), (11, 0, 0), (11, 0, 0)]) (p2 := 16) rfl rfl rfl rfl rfl ?_
  refine q_const (p2 := 17) rfl rfl ?_
  refine q_store2 (loc2 := [(6, 478, 0), (2, v, 0), (11, 0, 0), (2, v, 0), (11, 0, 0), (2, 1, 0), (11, 0, 0), (11, 0, 0)]) (p2 := 18) rfl rfl rfl rfl rfl ?_
  refine q_const (p2 := 19) rfl rfl ?_
  refine q_store (loc2 := [(6, 478, 0), (2, v, 0), (11, 0, 0), (2, v, 0), (11, 0, 0), (2, 1, 0), (11, 0, 0), (0, 0, 0)]) (p2 := 20) rfl rfl rfl rfl rfl ?_
  refine q_load (v := (0, 0, 0)) (p2 := 21) rfl rfl rfl rfl ?_
  refine q_const (p2 := 22) rfl rfl ?_
  refine q_icmp_s (p2 := 23) rfl (by decide) (by omega) (by omega) rfl (fun hb => absurd hb (show ¬ (¬ (0 < 18)) by omega)) (fun _ => ?_)
  refine q_load (v := (2, 1, 0)) (p2 := 24) rfl rfl rfl rfl ?_
  refine q_load (v := (2, v, 0)) (p2 := 25) rfl rfl rfl rfl ?_
  refine q_const (p2 := 26) rfl rfl ?_
  refine q_ldr9 (z := (v / 10)) (p2 := 27) rfl (by omega) (by omega) (by omega) (by omega) rfl ?_
  refine q_lcif (p2 := 29) rfl rfl (by decide) (by omega) (by omega) rfl (fun _ => ?_) (fun hb => absurd (show (v / 10) < 1 by omega) hb)
  refine q_load (v := (2, 1, 0)) (p2 := 36) rfl rfl rfl rfl ?_
  refine q_const (p2 := 37) rfl rfl ?_
  refine q_lcif (p2 := 39) rfl rfl (by decide) (by omega) (by omega) rfl (fun hb => absurd hb (show ¬ (¬ (0 < 1)) by omega)) (fun _ => ?_)
  refine q_load (v := (6, 478, 0)) (p2 := 40) rfl rfl rfl rfl ?_
  refine q_const (p2 := 41) rfl rfl ?_
  refine q_load (v := (2, v, 0)) (p2 := 42) rfl rfl rfl rfl ?_
  refine q_load (v := (2, 1, 0)) (p2 := 43) rfl rfl rfl rfl ?_
  refine q_ldr9 (z := (v / 1)) (p2 := 44) rfl (by omega) (by omega) (by omega) (by omega) rfl ?_
  refine q_const (p2 := 45) rfl rfl ?_
  refine q_ldr10 (z := ((v / 1) % 10)) (p2 := 46) rfl (by omega) (by omega) (by omega) (by omega) rfl ?_
  refine q_laddz (z := (48 + ((v / 1) % 10))) (p2 := 47) rfl (by omega) (by omega) rfl ?_
  refine q_l2i (z := (48 + ((v / 1) % 10))) (p2 := 48) rfl (Nat.mod_eq_of_lt (by omega)) rfl ?_
  refine q_callvE (xs := [(0, (48 + ((v / 1) % 10)), 0), (6, 478, 0)]) (p2 := 49) rfl rfl rfl rfl (x_rcv_s 478 (zD_478 hD).choose_spec.1) rfl (zc_addD hD (by omega) (by omega)) (Nat.le_refl _) (Nat.le_refl _) rfl (fun φ1 hR1 => ?_)
  obtain ⟨hD1, frn1⟩ := hR1
  refine q_load (v := (2, 1, 0)) (p2 := 50) rfl rfl rfl rfl ?_
  refine q_const (p2 := 51) rfl rfl ?_
  refine q_ldr9 (z := 0) (p2 := 52) rfl (by omega) (by omega) (by omega) (by omega) rfl ?_
  refine q_store2 (loc2 := [(6, 478, 0), (2, v, 0), (11, 0, 0), (2, v, 0), (11, 0, 0), (2, 0, 0), (11, 0, 0), (0, 0, 0)]) (p2 := 53) rfl rfl rfl rfl rfl ?_
  refine q_goto rfl ?_
  refine q_load (v := (2, 0, 0)) (p2 := 36) rfl rfl rfl rfl ?_
  refine q_const (p2 := 37) rfl rfl ?_
  refine q_lcif (p2 := 39) rfl rfl (by decide) (by omega) (by omega) rfl (fun _ => ?_) (fun hb => absurd (show ¬ (0 < 0) by omega) hb)
  exact q_ret rfl (⟨rfl, rfl, rfl, hD1, fun j hj0 hj1 hj2 => (frn1 j (by omega) (by omega) (by omega))⟩)
theorem zc_wnum_2 {d n sl : Nat} {φ : FH} {sz b v : Nat} {bw : Nat → Nat} {L : List Nat} (hD : zD φ sz bw L b) (hv : 10 ≤ v ∧ v ≤ 99) (hb : b < 5900) : x_f x_P (d + 2) 129 [(6, 478, 0), (2, v, 0), (11, 0, 0), (11, 0, 0), (11, 0, 0), (11, 0, 0), (11, 0, 0), (11, 0, 0)] φ n sl (x_vR n sl (fun φ2 => zD φ2 sz bw ((L ++ [(48 + ((v / 10) % 10))]) ++ [(48 + ((v / 1) % 10))]) (b + 2) ∧ ∀ j, j ≠ 478 → j ≠ 479 → j ≠ 480 → φ2 j = φ j)) := by
  refine x_f_of rfl ?_
  refine q_load (v := (2, v, 0)) (p2 := 1) rfl rfl rfl rfl ?_
  refine q_const (p2 := 2) rfl rfl ?_
  refine q_lcif (p2 := 4) rfl rfl (by decide) (by omega) (by omega) rfl (fun _ => ?_) (fun hb => absurd (show ¬ (v < 0) by omega) hb)
  refine q_load (v := (2, v, 0)) (p2 := 8) rfl rfl rfl rfl ?_
  refine q_const (p2 := 9) rfl rfl ?_
  refine q_lcif (p2 := 11) rfl rfl (by decide) (by omega) (by omega) rfl (fun _ => ?_) (fun hb => absurd (show ¬ (v < 0) by omega) hb)
  refine q_load (v := (2, v, 0)) (p2 := 15) rfl rfl rfl rfl ?_
  refine q_store2 (loc2 := [(6, 478, 0), (2, v, 0), (11, 0, 0), (2, v, 0), (11, 0, 0), (11, 0, 0), (11, 0, 0), (11, 0, 0)]) (p2 := 16) rfl rfl rfl rfl rfl ?_
  refine q_const (p2 := 17) rfl rfl ?_
  refine q_store2 (loc2 := [(6, 478, 0), (2, v, 0), (11, 0, 0), (2, v, 0), (11, 0, 0), (2, 1, 0), (11, 0, 0), (11, 0, 0)]) (p2 := 18) rfl rfl rfl rfl rfl ?_
  refine q_const (p2 := 19) rfl rfl ?_
  refine q_store (loc2 := [(6, 478, 0), (2, v, 0), (11, 0, 0), (2, v, 0), (11, 0, 0), (2, 1, 0), (11, 0, 0), (0, 0, 0)]) (p2 := 20) rfl rfl rfl rfl rfl ?_
  refine q_load (v := (0, 0, 0)) (p2 := 21) rfl rfl rfl rfl ?_
  refine q_const (p2 := 22) rfl rfl ?_
  refine q_icmp_s (p2 := 23) rfl (by decide) (by omega) (by omega) rfl (fun hb => absurd hb (show ¬ (¬ (0 < 18)) by omega)) (fun _ => ?_)
  refine q_load (v := (2, 1, 0)) (p2 := 24) rfl rfl rfl rfl ?_
  refine q_load (v := (2, v, 0)) (p2 := 25) rfl rfl rfl rfl ?_
  refine q_const (p2 := 26) rfl rfl ?_
  refine q_ldr9 (z := (v / 10)) (p2 := 27) rfl (by omega) (by omega) (by omega) (by omega) rfl ?_
  refine q_lcif (p2 := 29) rfl rfl (by decide) (by omega) (by omega) rfl (fun hb => absurd hb (show ¬ ((v / 10) < 1) by omega)) (fun _ => ?_)
  refine q_load (v := (2, 1, 0)) (p2 := 30) rfl rfl rfl rfl ?_
  refine q_const (p2 := 31) rfl rfl ?_
  refine q_lmulz (z := 10) (p2 := 32) rfl (by omega) (by omega) rfl ?_
  refine q_store2 (loc2 := [(6, 478, 0), (2, v, 0), (11, 0, 0), (2, v, 0), (11, 0, 0), (2, 10, 0), (11, 0, 0), (0, 0, 0)]) (p2 := 33) rfl rfl rfl rfl rfl ?_
  refine q_iinc (z := 1) (loc2 := [(6, 478, 0), (2, v, 0), (11, 0, 0), (2, v, 0), (11, 0, 0), (2, 10, 0), (11, 0, 0), (0, 1, 0)]) (p2 := 34) rfl rfl (by decide) rfl rfl ?_
  refine q_goto rfl ?_
  refine q_load (v := (0, 1, 0)) (p2 := 21) rfl rfl rfl rfl ?_
  refine q_const (p2 := 22) rfl rfl ?_
  refine q_icmp_s (p2 := 23) rfl (by decide) (by omega) (by omega) rfl (fun hb => absurd hb (show ¬ (¬ (1 < 18)) by omega)) (fun _ => ?_)
  refine q_load (v := (2, 10, 0)) (p2 := 24) rfl rfl rfl rfl ?_
  refine q_load (v := (2, v, 0)) (p2 := 25) rfl rfl rfl rfl ?_
  refine q_const (p2 := 26) rfl rfl ?_
  refine q_ldr9 (z := (v / 10)) (p2 := 27) rfl (by omega) (by omega) (by omega) (by omega) rfl ?_
  refine q_lcif (p2 := 29) rfl rfl (by decide) (by omega) (by omega) rfl (fun _ => ?_) (fun hb => absurd (show (v / 10) < 10 by omega) hb)
  refine q_load (v := (2, 10, 0)) (p2 := 36) rfl rfl rfl rfl ?_
  refine q_const (p2 := 37) rfl rfl ?_
  refine q_lcif (p2 := 39) rfl rfl (by decide) (by omega) (by omega) rfl (fun hb => absurd hb (show ¬ (¬ (0 < 10)) by omega)) (fun _ => ?_)
  refine q_load (v := (6, 478, 0)) (p2 := 40) rfl rfl rfl rfl ?_
  refine q_const (p2 := 41) rfl rfl ?_
  refine q_load (v := (2, v, 0)) (p2 := 42) rfl rfl rfl rfl ?_
  refine q_load (v := (2, 10, 0)) (p2 := 43) rfl rfl rfl rfl ?_
  refine q_ldr9 (z := (v / 10)) (p2 := 44) rfl (by omega) (by omega) (by omega) (by omega) rfl ?_
  refine q_const (p2 := 45) rfl rfl ?_
  refine q_ldr10 (z := ((v / 10) % 10)) (p2 := 46) rfl (by omega) (by omega) (by omega) (by omega) rfl ?_
  refine q_laddz (z := (48 + ((v / 10) % 10))) (p2 := 47) rfl (by omega) (by omega) rfl ?_
  refine q_l2i (z := (48 + ((v / 10) % 10))) (p2 := 48) rfl (Nat.mod_eq_of_lt (by omega)) rfl ?_
  refine q_callvE (xs := [(0, (48 + ((v / 10) % 10)), 0), (6, 478, 0)]) (p2 := 49) rfl rfl rfl rfl (x_rcv_s 478 (zD_478 hD).choose_spec.1) rfl (zc_addD hD (by omega) (by omega)) (Nat.le_refl _) (Nat.le_refl _) rfl (fun φ1 hR1 => ?_)
  obtain ⟨hD1, frn1⟩ := hR1
  refine q_load (v := (2, 10, 0)) (p2 := 50) rfl rfl rfl rfl ?_
  refine q_const (p2 := 51) rfl rfl ?_
  refine q_ldr9 (z := 1) (p2 := 52) rfl (by omega) (by omega) (by omega) (by omega) rfl ?_
  refine q_store2 (loc2 := [(6, 478, 0), (2, v, 0), (11, 0, 0), (2, v, 0), (11, 0, 0), (2, 1, 0), (11, 0, 0), (0, 1, 0)]) (p2 := 53) rfl rfl rfl rfl rfl ?_
  refine q_goto rfl ?_
  refine q_load (v := (2, 1, 0)) (p2 := 36) rfl rfl rfl rfl ?_
  refine q_const (p2 := 37) rfl rfl ?_
  refine q_lcif (p2 := 39) rfl rfl (by decide) (by omega) (by omega) rfl (fun hb => absurd hb (show ¬ (¬ (0 < 1)) by omega)) (fun _ => ?_)
  refine q_load (v := (6, 478, 0)) (p2 := 40) rfl rfl rfl rfl ?_
  refine q_const (p2 := 41) rfl rfl ?_
  refine q_load (v := (2, v, 0)) (p2 := 42) rfl rfl rfl rfl ?_
  refine q_load (v := (2, 1, 0)) (p2 := 43) rfl rfl rfl rfl ?_
  refine q_ldr9 (z := (v / 1)) (p2 := 44) rfl (by omega) (by omega) (by omega) (by omega) rfl ?_
  refine q_const (p2 := 45) rfl rfl ?_
  refine q_ldr10 (z := ((v / 1) % 10)) (p2 := 46) rfl (by omega) (by omega) (by omega) (by omega) rfl ?_
  refine q_laddz (z := (48 + ((v / 1) % 10))) (p2 := 47) rfl (by omega) (by omega) rfl ?_
  refine q_l2i (z := (48 + ((v / 1) % 10))) (p2 := 48) rfl (Nat.mod_eq_of_lt (by omega)) rfl ?_
  refine q_callvE (xs := [(0, (48 + ((v / 1) % 10)), 0), (6, 478, 0)]) (p2 := 49) rfl rfl rfl rfl (x_rcv_s 478 (zD_478 hD1).choose_spec.1) rfl (zc_addD hD1 (by omega) (by omega)) (Nat.le_refl _) (Nat.le_refl _) rfl (fun φ2 hR2 => ?_)
  obtain ⟨hD2, frn2⟩ := hR2
  refine q_load (v := (2, 1, 0)) (p2 := 50) rfl rfl rfl rfl ?_
  refine q_const (p2 := 51) rfl rfl ?_
  refine q_ldr9 (z := 0) (p2 := 52) rfl (by omega) (by omega) (by omega) (by omega) rfl ?_
  refine q_store2 (loc2 := [(6, 478, 0), (2, v, 0), (11, 0, 0), (2, v, 0), (11, 0, 0), (2, 0, 0), (11, 0, 0), (0, 1, 0)]) (p2 := 53) rfl rfl rfl rfl rfl ?_
  refine q_goto rfl ?_
  refine q_load (v := (2, 0, 0)) (p2 := 36) rfl rfl rfl rfl ?_
  refine q_const (p2 := 37) rfl rfl ?_
  refine q_lcif (p2 := 39) rfl rfl (by decide) (by omega) (by omega) rfl (fun _ => ?_) (fun hb => absurd (show ¬ (0 < 0) by omega) hb)
  exact q_ret rfl (⟨rfl, rfl, rfl, hD2, fun j hj0 hj1 hj2 => ((frn2 j (by omega) (by omega) (by omega)).trans (frn1 j (by omega) (by omega) (by omega)))⟩)
theorem zc_wnum_3 {d n sl : Nat} {φ : FH} {sz b v : Nat} {bw : Nat → Nat} {L : List Nat} (hD : zD φ sz bw L b) (hv : 100 ≤ v ∧ v ≤ 999) (hb : b < 5900) : x_f x_P (d + 2) 129 [(6, 478, 0), (2, v, 0), (11, 0, 0), (11, 0, 0), (11, 0, 0), (11, 0, 0), (11, 0, 0), (11, 0, 0)] φ n sl (x_vR n sl (fun φ2 => zD φ2 sz bw (((L ++ [(48 + ((v / 100) % 10))]) ++ [(48 + ((v / 10) % 10))]) ++ [(48 + ((v / 1) % 10))]) (b + 3) ∧ ∀ j, j ≠ 478 → j ≠ 479 → j ≠ 480 → φ2 j = φ j)) := by
  refine x_f_of rfl ?_
  refine q_load (v := (2, v, 0)) (p2 := 1) rfl rfl rfl rfl ?_
  refine q_const (p2 := 2) rfl rfl ?_
  refine q_lcif (p2 := 4) rfl rfl (by decide) (by omega) (by omega) rfl (fun _ => ?_) (fun hb => absurd (show ¬ (v < 0) by omega) hb)
  refine q_load (v := (2, v, 0)) (p2 := 8) rfl rfl rfl rfl ?_
  refine q_const (p2 := 9) rfl rfl ?_
  refine q_lcif (p2 := 11) rfl rfl (by decide) (by omega) (by omega) rfl (fun _ => ?_) (fun hb => absurd (show ¬ (v < 0) by omega) hb)
  refine q_load (v := (2, v, 0)) (p2 := 15) rfl rfl rfl rfl ?_
  refine q_store2 (loc2 := [(6, 478, 0), (2, v, 0), (11, 0, 0), (2, v, 0), (11, 0, 0), (11, 0, 0), (11, 0, 0), (11, 0, 0)]) (p2 := 16) rfl rfl rfl rfl rfl ?_
  refine q_const (p2 := 17) rfl rfl ?_
  refine q_store2 (loc2 := [(6, 478, 0), (2, v, 0), (11, 0, 0), (2, v, 0), (11, 0, 0), (2, 1, 0), (11, 0, 0), (11, 0, 0)]) (p2 := 18) rfl rfl rfl rfl rfl ?_
  refine q_const (p2 := 19) rfl rfl ?_
  refine q_store (loc2 := [(6, 478, 0), (2, v, 0), (11, 0, 0), (2, v, 0), (11, 0, 0), (2, 1, 0), (11, 0, 0), (0, 0, 0)]) (p2 := 20) rfl rfl rfl rfl rfl ?_
  refine q_load (v := (0, 0, 0)) (p2 := 21) rfl rfl rfl rfl ?_
  refine q_const (p2 := 22) rfl rfl ?_
  refine q_icmp_s (p2 := 23) rfl (by decide) (by omega) (by omega) rfl (fun hb => absurd hb (show ¬ (¬ (0 < 18)) by omega)) (fun _ => ?_)
  refine q_load (v := (2, 1, 0)) (p2 := 24) rfl rfl rfl rfl ?_
  refine q_load (v := (2, v, 0)) (p2 := 25) rfl rfl rfl rfl ?_
  refine q_const (p2 := 26) rfl rfl ?_
  refine q_ldr9 (z := (v / 10)) (p2 := 27) rfl (by omega) (by omega) (by omega) (by omega) rfl ?_
  refine q_lcif (p2 := 29) rfl rfl (by decide) (by omega) (by omega) rfl (fun hb => absurd hb (show ¬ ((v / 10) < 1) by omega)) (fun _ => ?_)
  refine q_load (v := (2, 1, 0)) (p2 := 30) rfl rfl rfl rfl ?_
  refine q_const (p2 := 31) rfl rfl ?_
  refine q_lmulz (z := 10) (p2 := 32) rfl (by omega) (by omega) rfl ?_
  refine q_store2 (loc2 := [(6, 478, 0), (2, v, 0), (11, 0, 0), (2, v, 0), (11, 0, 0), (2, 10, 0), (11, 0, 0), (0, 0, 0)]) (p2 := 33) rfl rfl rfl rfl rfl ?_
  refine q_iinc (z := 1) (loc2 := [(6, 478, 0), (2, v, 0), (11, 0, 0), (2, v, 0), (11, 0, 0), (2, 10, 0), (11, 0, 0), (0, 1, 0)]) (p2 := 34) rfl rfl (by decide) rfl rfl ?_
  refine q_goto rfl ?_
  refine q_load (v := (0, 1, 0)) (p2 := 21) rfl rfl rfl rfl ?_
  refine q_const (p2 := 22) rfl rfl ?_
  refine q_icmp_s (p2 := 23) rfl (by decide) (by omega) (by omega) rfl (fun hb => absurd hb (show ¬ (¬ (1 < 18)) by omega)) (fun _ => ?_)
  refine q_load (v := (2, 10, 0)) (p2 := 24) rfl rfl rfl rfl ?_
  refine q_load (v := (2, v, 0)) (p2 := 25) rfl rfl rfl rfl ?_
  refine q_const (p2 := 26) rfl rfl ?_
  refine q_ldr9 (z := (v / 10)) (p2 := 27) rfl (by omega) (by omega) (by omega) (by omega) rfl ?_
  refine q_lcif (p2 := 29) rfl rfl (by decide) (by omega) (by omega) rfl (fun hb => absurd hb (show ¬ ((v / 10) < 10) by omega)) (fun _ => ?_)
  refine q_load (v := (2, 10, 0)) (p2 := 30) rfl rfl rfl rfl ?_
  refine q_const (p2 := 31) rfl rfl ?_
  refine q_lmulz (z := 100) (p2 := 32) rfl (by omega) (by omega) rfl ?_
  refine q_store2 (loc2 := [(6, 478, 0), (2, v, 0), (11, 0, 0), (2, v, 0), (11, 0, 0), (2, 100, 0), (11, 0, 0), (0, 1, 0)]) (p2 := 33) rfl rfl rfl rfl rfl ?_
  refine q_iinc (z := 2) (loc2 := [(6, 478, 0), (2, v, 0), (11, 0, 0), (2, v, 0), (11, 0, 0), (2, 100, 0), (11, 0, 0), (0, 2, 0)]) (p2 := 34) rfl rfl (by decide) rfl rfl ?_
  refine q_goto rfl ?_
  refine q_load (v := (0, 2, 0)) (p2 := 21) rfl rfl rfl rfl ?_
  refine q_const (p2 := 22) rfl rfl ?_
  refine q_icmp_s (p2 := 23) rfl (by decide) (by omega) (by omega) rfl (fun hb => absurd hb (show ¬ (¬ (2 < 18)) by omega)) (fun _ => ?_)
  refine q_load (v := (2, 100, 0)) (p2 := 24) rfl rfl rfl rfl ?_
  refine q_load (v := (2, v, 0)) (p2 := 25) rfl rfl rfl rfl ?_
  refine q_const (p2 := 26) rfl rfl ?_
  refine q_ldr9 (z := (v / 10)) (p2 := 27) rfl (by omega) (by omega) (by omega) (by omega) rfl ?_
  refine q_lcif (p2 := 29) rfl rfl (by decide) (by omega) (by omega) rfl (fun _ => ?_) (fun hb => absurd (show (v / 10) < 100 by omega) hb)
  refine q_load (v := (2, 100, 0)) (p2 := 36) rfl rfl rfl rfl ?_
  refine q_const (p2 := 37) rfl rfl ?_
  refine q_lcif (p2 := 39) rfl rfl (by decide) (by omega) (by omega) rfl (fun hb => absurd hb (show ¬ (¬ (0 < 100)) by omega)) (fun _ => ?_)
  refine q_load (v := (6, 478, 0)) (p2 := 40) rfl rfl rfl rfl ?_
  refine q_const (p2 := 41) rfl rfl ?_
  refine q_load (v := (2, v, 0)) (p2 := 42) rfl rfl rfl rfl ?_
  refine q_load (v := (2, 100, 0)) (p2 := 43) rfl rfl rfl rfl ?_
  refine q_ldr9 (z := (v / 100)) (p2 := 44) rfl (by omega) (by omega) (by omega) (by omega) rfl ?_
  refine q_const (p2 := 45) rfl rfl ?_
  refine q_ldr10 (z := ((v / 100) % 10)) (p2 := 46) rfl (by omega) (by omega) (by omega) (by omega) rfl ?_
  refine q_laddz (z := (48 + ((v / 100) % 10))) (p2 := 47) rfl (by omega) (by omega) rfl ?_
  refine q_l2i (z := (48 + ((v / 100) % 10))) (p2 := 48) rfl (Nat.mod_eq_of_lt (by omega)) rfl ?_
  refine q_callvE (xs := [(0, (48 + ((v / 100) % 10)), 0), (6, 478, 0)]) (p2 := 49) rfl rfl rfl rfl (x_rcv_s 478 (zD_478 hD).choose_spec.1) rfl (zc_addD hD (by omega) (by omega)) (Nat.le_refl _) (Nat.le_refl _) rfl (fun φ1 hR1 => ?_)
  obtain ⟨hD1, frn1⟩ := hR1
  refine q_load (v := (2, 100, 0)) (p2 := 50) rfl rfl rfl rfl ?_
  refine q_const (p2 := 51) rfl rfl ?_
  refine q_ldr9 (z := 10) (p2 := 52) rfl (by omega) (by omega) (by omega) (by omega) rfl ?_
  refine q_store2 (loc2 := [(6, 478, 0), (2, v, 0), (11, 0, 0), (2, v, 0), (11, 0, 0), (2, 10, 0), (11, 0, 0), (0, 2, 0)]) (p2 := 53) rfl rfl rfl rfl rfl ?_
  refine q_goto rfl ?_
  refine q_load (v := (2, 10, 0)) (p2 := 36) rfl rfl rfl rfl ?_
  refine q_const (p2 := 37) rfl rfl ?_
  refine q_lcif (p2 := 39) rfl rfl (by decide) (by omega) (by omega) rfl (fun hb => absurd hb (show ¬ (¬ (0 < 10)) by omega)) (fun _ => ?_)
  refine q_load (v := (6, 478, 0)) (p2 := 40) rfl rfl rfl rfl ?_
  refine q_const (p2 := 41) rfl rfl ?_
  refine q_load (v := (2, v, 0)) (p2 := 42) rfl rfl rfl rfl ?_
  refine q_load (v := (2, 10, 0)) (p2 := 43) rfl rfl rfl rfl ?_
  refine q_ldr9 (z := (v / 10)) (p2 := 44) rfl (by omega) (by omega) (by omega) (by omega) rfl ?_
  refine q_const (p2 := 45) rfl rfl ?_
  refine q_ldr10 (z := ((v / 10) % 10)) (p2 := 46) rfl (by omega) (by omega) (by omega) (by omega) rfl ?_
  refine q_laddz (z := (48 + ((v / 10) % 10))) (p2 := 47) rfl (by omega) (by omega) rfl ?_
  refine q_l2i (z := (48 + ((v / 10) % 10))) (p2 := 48) rfl (Nat.mod_eq_of_lt (by omega)) rfl ?_
  refine q_callvE (xs := [(0, (48 + ((v / 10) % 10)), 0), (6, 478, 0)]) (p2 := 49) rfl rfl rfl rfl (x_rcv_s 478 (zD_478 hD1).choose_spec.1) rfl (zc_addD hD1 (by omega) (by omega)) (Nat.le_refl _) (Nat.le_refl _) rfl (fun φ2 hR2 => ?_)
  obtain ⟨hD2, frn2⟩ := hR2
  refine q_load (v := (2, 10, 0)) (p2 := 50) rfl rfl rfl rfl ?_
  refine q_const (p2 := 51) rfl rfl ?_
  refine q_ldr9 (z := 1) (p2 := 52) rfl (by omega) (by omega) (by omega) (by omega) rfl ?_
  refine q_store2 (loc2 := [(6, 478, 0), (2, v, 0), (11, 0, 0), (2, v, 0), (11, 0, 0), (2, 1, 0), (11, 0, 0), (0, 2, 0)]) (p2 := 53) rfl rfl rfl rfl rfl ?_
  refine q_goto rfl ?_
  refine q_load (v := (2, 1, 0)) (p2 := 36) rfl rfl rfl rfl ?_
  refine q_const (p2 := 37) rfl rfl ?_
  refine q_lcif (p2 := 39) rfl rfl (by decide) (by omega) (by omega) rfl (fun hb => absurd hb (show ¬ (¬ (0 < 1)) by omega)) (fun _ => ?_)
  refine q_load (v := (6, 478, 0)) (p2 := 40) rfl rfl rfl rfl ?_
  refine q_const (p2 := 41) rfl rfl ?_
  refine q_load (v := (2, v, 0)) (p2 := 42) rfl rfl rfl rfl ?_
  refine q_load (v := (2, 1, 0)) (p2 := 43) rfl rfl rfl rfl ?_
  refine q_ldr9 (z := (v / 1)) (p2 := 44) rfl (by omega) (by omega) (by omega) (by omega) rfl ?_
  refine q_const (p2 := 45) rfl rfl ?_
  refine q_ldr10 (z := ((v / 1) % 10)) (p2 := 46) rfl (by omega) (by omega) (by omega) (by omega) rfl ?_
  refine q_laddz (z := (48 + ((v / 1) % 10))) (p2 := 47) rfl (by omega) (by omega) rfl ?_
  refine q_l2i (z := (48 + ((v / 1) % 10))) (p2 := 48) rfl (Nat.mod_eq_of_lt (by omega)) rfl ?_
  refine q_callvE (xs := [(0, (48 + ((v / 1) % 10)), 0), (6, 478, 0)]) (p2 := 49) rfl rfl rfl rfl (x_rcv_s 478 (zD_478 hD2).choose_spec.1) rfl (zc_addD hD2 (by omega) (by omega)) (Nat.le_refl _) (Nat.le_refl _) rfl (fun φ3 hR3 => ?_)
  obtain ⟨hD3, frn3⟩ := hR3
  refine q_load (v := (2, 1, 0)) (p2 := 50) rfl rfl rfl rfl ?_
  refine q_const (p2 := 51) rfl rfl ?_
  refine q_ldr9 (z := 0) (p2 := 52) rfl (by omega) (by omega) (by omega) (by omega) rfl ?_
  refine q_store2 (loc2 := [(6, 478, 0), (2, v, 0), (11, 0, 0), (2, v, 0), (11, 0, 0), (2, 0, 0), (11, 0, 0), (0, 2, 0)]) (p2 := 53) rfl rfl rfl rfl rfl ?_
  refine q_goto rfl ?_
  refine q_load (v := (2, 0, 0)) (p2 := 36) rfl rfl rfl rfl ?_
  refine q_const (p2 := 37) rfl rfl ?_
  refine q_lcif (p2 := 39) rfl rfl (by decide) (by omega) (by omega) rfl (fun _ => ?_) (fun hb => absurd (show ¬ (0 < 0) by omega) hb)
  exact q_ret rfl (⟨rfl, rfl, rfl, hD3, fun j hj0 hj1 hj2 => ((frn3 j (by omega) (by omega) (by omega)).trans ((frn2 j (by omega) (by omega) (by omega)).trans (frn1 j (by omega) (by omega) (by omega))))⟩)
theorem zc_wnum_4 {d n sl : Nat} {φ : FH} {sz b v : Nat} {bw : Nat → Nat} {L : List Nat} (hD : zD φ sz bw L b) (hv : 1000 ≤ v ∧ v ≤ 1023) (hb : b < 5900) : x_f x_P (d + 2) 129 [(6, 478, 0), (2, v, 0), (11, 0, 0), (11, 0, 0), (11, 0, 0), (11, 0, 0), (11, 0, 0), (11, 0, 0)] φ n sl (x_vR n sl (fun φ2 => zD φ2 sz bw ((((L ++ [(48 + ((v / 1000) % 10))]) ++ [(48 + ((v / 100) % 10))]) ++ [(48 + ((v / 10) % 10))]) ++ [(48 + ((v / 1) % 10))]) (b + 4) ∧ ∀ j, j ≠ 478 → j ≠ 479 → j ≠ 480 → φ2 j = φ j)) := by
  refine x_f_of rfl ?_
  refine q_load (v := (2, v, 0)) (p2 := 1) rfl rfl rfl rfl ?_
  refine q_const (p2 := 2) rfl rfl ?_
  refine q_lcif (p2 := 4) rfl rfl (by decide) (by omega) (by omega) rfl (fun _ => ?_) (fun hb => absurd (show ¬ (v < 0) by omega) hb)
  refine q_load (v := (2, v, 0)) (p2 := 8) rfl rfl rfl rfl ?_
  refine q_const (p2 := 9) rfl rfl ?_
  refine q_lcif (p2 := 11) rfl rfl (by decide) (by omega) (by omega) rfl (fun _ => ?_) (fun hb => absurd (show ¬ (v < 0) by omega) hb)
  refine q_load (v := (2, v, 0)) (p2 := 15) rfl rfl rfl rfl ?_
  refine q_store2 (loc2 := [(6, 478, 0), (2, v, 0), (11, 0, 0), (2, v, 0), (11, 0, 0), (11, 0, 0), (11, 0, 0), (11, 0, 0)]) (p2 := 16) rfl rfl rfl rfl rfl ?_
  refine q_const (p2 := 17) rfl rfl ?_
  refine q_store2 (loc2 := [(6, 478, 0), (2, v, 0), (11, 0, 0), (2, v, 0), (11, 0, 0), (2, 1, 0), (11, 0, 0), (11, 0, 0)]) (p2 := 18) rfl rfl rfl rfl rfl ?_
  refine q_const (p2 := 19) rfl rfl ?_
  refine q_store (loc2 := [(6, 478, 0), (2, v, 0), (11, 0, 0), (2, v, 0), (11, 0, 0), (2, 1, 0), (11, 0, 0), (0, 0, 0)]) (p2 := 20) rfl rfl rfl rfl rfl ?_
  refine q_load (v := (0, 0, 0)) (p2 := 21) rfl rfl rfl rfl ?_
  refine q_const (p2 := 22) rfl rfl ?_
  refine q_icmp_s (p2 := 23) rfl (by decide) (by omega) (by omega) rfl (fun hb => absurd hb (show ¬ (¬ (0 < 18)) by omega)) (fun _ => ?_)
  refine q_load (v := (2, 1, 0)) (p2 := 24) rfl rfl rfl rfl ?_
  refine q_load (v := (2, v, 0)) (p2 := 25) rfl rfl rfl rfl ?_
  refine q_const (p2 := 26) rfl rfl ?_
  refine q_ldr9 (z := (v / 10)) (p2 := 27) rfl (by omega) (by omega) (by omega) (by omega) rfl ?_
  refine q_lcif (p2 := 29) rfl rfl (by decide) (by omega) (by omega) rfl (fun hb => absurd hb (show ¬ ((v / 10) < 1) by omega)) (fun _ => ?_)
  refine q_load (v := (2, 1, 0)) (p2 := 30) rfl rfl rfl rfl ?_
  refine q_const (p2 := 31) rfl rfl ?_
  refine q_lmulz (z := 10) (p2 := 32) rfl (by omega) (by omega) rfl ?_
  refine q_store2 (loc2 := [(6, 478, 0), (2, v, 0), (11, 0, 0), (2, v, 0), (11, 0, 0), (2, 10, 0), (11, 0, 0), (0, 0, 0)]) (p2 := 33) rfl rfl rfl rfl rfl ?_
  refine q_iinc (z := 1) (loc2 := [(6, 478, 0), (2, v, 0), (11, 0, 0), (2, v, 0), (11, 0, 0), (2, 10, 0), (11, 0, 0), (0, 1, 0)]) (p2 := 34) rfl rfl (by decide) rfl rfl ?_
  refine q_goto rfl ?_
  refine q_load (v := (0, 1, 0)) (p2 := 21) rfl rfl rfl rfl ?_
  refine q_const (p2 := 22) rfl rfl ?_
  refine q_icmp_s (p2 := 23) rfl (by decide) (by omega) (by omega) rfl (fun hb => absurd hb (show ¬ (¬ (1 < 18)) by omega)) (fun _ => ?_)
  refine q_load (v := (2, 10, 0)) (p2 := 24) rfl rfl rfl rfl ?_
  refine q_load (v := (2, v, 0)) (p2 := 25) rfl rfl rfl rfl ?_
  refine q_const (p2 := 26) rfl rfl ?_
  refine q_ldr9 (z := (v / 10)) (p2 := 27) rfl (by omega) (by omega) (by omega) (by omega) rfl ?_
  refine q_lcif (p2 := 29) rfl rfl (by decide) (by omega) (by omega) rfl (fun hb => absurd hb (show ¬ ((v / 10) < 10) by omega)) (fun _ => ?_)
  refine q_load (v := (2, 10, 0)) (p2 := 30) rfl rfl rfl rfl ?_
  refine q_const (p2 := 31) rfl rfl ?_
  refine q_lmulz (z := 100) (p2 := 32) rfl (by omega) (by omega) rfl ?_
  refine q_store2 (loc2 := [(6, 478, 0), (2, v, 0), (11, 0, 0), (2, v, 0), (11, 0, 0), (2, 100, 0), (11, 0, 0), (0, 1, 0)]) (p2 := 33) rfl rfl rfl rfl rfl ?_
  refine q_iinc (z := 2) (loc2 := [(6, 478, 0), (2, v, 0), (11, 0, 0), (2, v, 0), (11, 0, 0), (2, 100, 0), (11, 0, 0), (0, 2, 0)]) (p2 := 34) rfl rfl (by decide) rfl rfl ?_
  refine q_goto rfl ?_
  refine q_load (v := (0, 2, 0)) (p2 := 21) rfl rfl rfl rfl ?_
  refine q_const (p2 := 22) rfl rfl ?_
  refine q_icmp_s (p2 := 23) rfl (by decide) (by omega) (by omega) rfl (fun hb => absurd hb (show ¬ (¬ (2 < 18)) by omega)) (fun _ => ?_)
  refine q_load (v := (2, 100, 0)) (p2 := 24) rfl rfl rfl rfl ?_
  refine q_load (v := (2, v, 0)) (p2 := 25) rfl rfl rfl rfl ?_
  refine q_const (p2 := 26) rfl rfl ?_
  refine q_ldr9 (z := (v / 10)) (p2 := 27) rfl (by omega) (by omega) (by omega) (by omega) rfl ?_
  refine q_lcif (p2 := 29) rfl rfl (by decide) (by omega) (by omega) rfl (fun hb => absurd hb (show ¬ ((v / 10) < 100) by omega)) (fun _ => ?_)
  refine q_load (v := (2, 100, 0)) (p2 := 30) rfl rfl rfl rfl ?_
  refine q_const (p2 := 31) rfl rfl ?_
  refine q_lmulz (z := 1000) (p2 := 32) rfl (by omega) (by omega) rfl ?_
  refine q_store2 (loc2 := [(6, 478, 0), (2, v, 0), (11, 0, 0), (2, v, 0), (11, 0, 0), (2, 1000, 0), (11, 0, 0), (0, 2, 0)]) (p2 := 33) rfl rfl rfl rfl rfl ?_
  refine q_iinc (z := 3) (loc2 := [(6, 478, 0), (2, v, 0), (11, 0, 0), (2, v, 0), (11, 0, 0), (2, 1000, 0), (11, 0, 0), (0, 3, 0)]) (p2 := 34) rfl rfl (by decide) rfl rfl ?_
  refine q_goto rfl ?_
  refine q_load (v := (0, 3, 0)) (p2 := 21) rfl rfl rfl rfl ?_
  refine q_const (p2 := 22) rfl rfl ?_
  refine q_icmp_s (p2 := 23) rfl (by decide) (by omega) (by omega) rfl (fun hb => absurd hb (show ¬ (¬ (3 < 18)) by omega)) (fun _ => ?_)
  refine q_load (v := (2, 1000, 0)) (p2 := 24) rfl rfl rfl rfl ?_
  refine q_load (v := (2, v, 0)) (p2 := 25) rfl rfl rfl rfl ?_
  refine q_const (p2 := 26) rfl rfl ?_
  refine q_ldr9 (z := (v / 10)) (p2 := 27) rfl (by omega) (by omega) (by omega) (by omega) rfl ?_
  refine q_lcif (p2 := 29) rfl rfl (by decide) (by omega) (by omega) rfl (fun _ => ?_) (fun hb => absurd (show (v / 10) < 1000 by omega) hb)
  refine q_load (v := (2, 1000, 0)) (p2 := 36) rfl rfl rfl rfl ?_
  refine q_const (p2 := 37) rfl rfl ?_
  refine q_lcif (p2 := 39) rfl rfl (by decide) (by omega) (by omega) rfl (fun hb => absurd hb (show ¬ (¬ (0 < 1000)) by omega)) (fun _ => ?_)
  refine q_load (v := (6, 478, 0)) (p2 := 40) rfl rfl rfl rfl ?_
  refine q_const (p2 := 41) rfl rfl ?_
  refine q_load (v := (2, v, 0)) (p2 := 42) rfl rfl rfl rfl ?_
  refine q_load (v := (2, 1000, 0)) (p2 := 43) rfl rfl rfl rfl ?_
  refine q_ldr9 (z := (v / 1000)) (p2 := 44) rfl (by omega) (by omega) (by omega) (by omega) rfl ?_
  refine q_const (p2 := 45) rfl rfl ?_
  refine q_ldr10 (z := ((v / 1000) % 10)) (p2 := 46) rfl (by omega) (by omega) (by omega) (by omega) rfl ?_
  refine q_laddz (z := (48 + ((v / 1000) % 10))) (p2 := 47) rfl (by omega) (by omega) rfl ?_
  refine q_l2i (z := (48 + ((v / 1000) % 10))) (p2 := 48) rfl (Nat.mod_eq_of_lt (by omega)) rfl ?_
  refine q_callvE (xs := [(0, (48 + ((v / 1000) % 10)), 0), (6, 478, 0)]) (p2 := 49) rfl rfl rfl rfl (x_rcv_s 478 (zD_478 hD).choose_spec.1) rfl (zc_addD hD (by omega) (by omega)) (Nat.le_refl _) (Nat.le_refl _) rfl (fun φ1 hR1 => ?_)
  obtain ⟨hD1, frn1⟩ := hR1
  refine q_load (v := (2, 1000, 0)) (p2 := 50) rfl rfl rfl rfl ?_
  refine q_const (p2 := 51) rfl rfl ?_
  refine q_ldr9 (z := 100) (p2 := 52) rfl (by omega) (by omega) (by omega) (by omega) rfl ?_
  refine q_store2 (loc2 := [(6, 478, 0), (2, v, 0), (11, 0, 0), (2, v, 0), (11, 0, 0), (2, 100, 0), (11, 0, 0), (0, 3, 0)]) (p2 := 53) rfl rfl rfl rfl rfl ?_
  refine q_goto rfl ?_
  refine q_load (v := (2, 100, 0)) (p2 := 36) rfl rfl rfl rfl ?_
  refine q_const (p2 := 37) rfl rfl ?_
  refine q_lcif (p2 := 39) rfl rfl (by decide) (by omega) (by omega) rfl (fun hb => absurd hb (show ¬ (¬ (0 < 100)) by omega)) (fun _ => ?_)
  refine q_load (v := (6, 478, 0)) (p2 := 40) rfl rfl rfl rfl ?_
  refine q_const (p2 := 41) rfl rfl ?_
  refine q_load (v := (2, v, 0)) (p2 := 42) rfl rfl rfl rfl ?_
  refine q_load (v := (2, 100, 0)) (p2 := 43) rfl rfl rfl rfl ?_
  refine q_ldr9 (z := (v / 100)) (p2 := 44) rfl (by omega) (by omega) (by omega) (by omega) rfl ?_
  refine q_const (p2 := 45) rfl rfl ?_
  refine q_ldr10 (z := ((v / 100) % 10)) (p2 := 46) rfl (by omega) (by omega) (by omega) (by omega) rfl ?_
  refine q_laddz (z := (48 + ((v / 100) % 10))) (p2 := 47) rfl (by omega) (by omega) rfl ?_
  refine q_l2i (z := (48 + ((v / 100) % 10))) (p2 := 48) rfl (Nat.mod_eq_of_lt (by omega)) rfl ?_
  refine q_callvE (xs := [(0, (48 + ((v / 100) % 10)), 0), (6, 478, 0)]) (p2 := 49) rfl rfl rfl rfl (x_rcv_s 478 (zD_478 hD1).choose_spec.1) rfl (zc_addD hD1 (by omega) (by omega)) (Nat.le_refl _) (Nat.le_refl _) rfl (fun φ2 hR2 => ?_)
  obtain ⟨hD2, frn2⟩ := hR2
  refine q_load (v := (2, 100, 0)) (p2 := 50) rfl rfl rfl rfl ?_
  refine q_const (p2 := 51) rfl rfl ?_
  refine q_ldr9 (z := 10) (p2 := 52) rfl (by omega) (by omega) (by omega) (by omega) rfl ?_
  refine q_store2 (loc2 := [(6, 478, 0), (2, v, 0), (11, 0, 0), (2, v, 0), (11, 0, 0), (2, 10, 0), (11, 0, 0), (0, 3, 0)]) (p2 := 53) rfl rfl rfl rfl rfl ?_
  refine q_goto rfl ?_
  refine q_load (v := (2, 10, 0)) (p2 := 36) rfl rfl rfl rfl ?_
  refine q_const (p2 := 37) rfl rfl ?_
  refine q_lcif (p2 := 39) rfl rfl (by decide) (by omega) (by omega) rfl (fun hb => absurd hb (show ¬ (¬ (0 < 10)) by omega)) (fun _ => ?_)
  refine q_load (v := (6, 478, 0)) (p2 := 40) rfl rfl rfl rfl ?_
  refine q_const (p2 := 41) rfl rfl ?_
  refine q_load (v := (2, v, 0)) (p2 := 42) rfl rfl rfl rfl ?_
  refine q_load (v := (2, 10, 0)) (p2 := 43) rfl rfl rfl rfl ?_
  refine q_ldr9 (z := (v / 10)) (p2 := 44) rfl (by omega) (by omega) (by omega) (by omega) rfl ?_
  refine q_const (p2 := 45) rfl rfl ?_
  refine q_ldr10 (z := ((v / 10) % 10)) (p2 := 46) rfl (by omega) (by omega) (by omega) (by omega) rfl ?_
  refine q_laddz (z := (48 + ((v / 10) % 10))) (p2 := 47) rfl (by omega) (by omega) rfl ?_
  refine q_l2i (z := (48 + ((v / 10) % 10))) (p2 := 48) rfl (Nat.mod_eq_of_lt (by omega)) rfl ?_
  refine q_callvE (xs := [(0, (48 + ((v / 10) % 10)), 0), (6, 478, 0)]) (p2 := 49) rfl rfl rfl rfl (x_rcv_s 478 (zD_478 hD2).choose_spec.1) rfl (zc_addD hD2 (by omega) (by omega)) (Nat.le_refl _) (Nat.le_refl _) rfl (fun φ3 hR3 => ?_)
  obtain ⟨hD3, frn3⟩ := hR3
  refine q_load (v := (2, 10, 0)) (p2 := 50) rfl rfl rfl rfl ?_
  refine q_const (p2 := 51) rfl rfl ?_
  refine q_ldr9 (z := 1) (p2 := 52) rfl (by omega) (by omega) (by omega) (by omega) rfl ?_
  refine q_store2 (loc2 := [(6, 478, 0), (2, v, 0), (11, 0, 0), (2, v, 0), (11, 0, 0), (2, 1, 0), (11, 0, 0), (0, 3, 0)]) (p2 := 53) rfl rfl rfl rfl rfl ?_
  refine q_goto rfl ?_
  refine q_load (v := (2, 1, 0)) (p2 := 36) rfl rfl rfl rfl ?_
  refine q_const (p2 := 37) rfl rfl ?_
  refine q_lcif (p2 := 39) rfl rfl (by decide) (by omega) (by omega) rfl (fun hb => absurd hb (show ¬ (¬ (0 < 1)) by omega)) (fun _ => ?_)
  refine q_load (v := (6, 478, 0)) (p2 := 40) rfl rfl rfl rfl ?_
  refine q_const (p2 := 41) rfl rfl ?_
  refine q_load (v := (2, v, 0)) (p2 := 42) rfl rfl rfl rfl ?_
  refine q_load (v := (2, 1, 0)) (p2 := 43) rfl rfl rfl rfl ?_
  refine q_ldr9 (z := (v / 1)) (p2 := 44) rfl (by omega) (by omega) (by omega) (by omega) rfl ?_
  refine q_const (p2 := 45) rfl rfl ?_
  refine q_ldr10 (z := ((v / 1) % 10)) (p2 := 46) rfl (by omega) (by omega) (by omega) (by omega) rfl ?_
  refine q_laddz (z := (48 + ((v / 1) % 10))) (p2 := 47) rfl (by omega) (by omega) rfl ?_
  refine q_l2i (z := (48 + ((v / 1) % 10))) (p2 := 48) rfl (Nat.mod_eq_of_lt (by omega)) rfl ?_
  refine q_callvE (xs := [(0, (48 + ((v / 1) % 10)), 0), (6, 478, 0)]) (p2 := 49) rfl rfl rfl rfl (x_rcv_s 478 (zD_478 hD3).choose_spec.1) rfl (zc_addD hD3 (by omega) (by omega)) (Nat.le_refl _) (Nat.le_refl _) rfl (fun φ4 hR4 => ?_)
  obtain ⟨hD4, frn4⟩ := hR4
  refine q_load (v := (2, 1, 0)) (p2 := 50) rfl rfl rfl rfl ?_
  refine q_const (p2 := 51) rfl rfl ?_
  refine q_ldr9 (z := 0) (p2 := 52) rfl (by omega) (by omega) (by omega) (by omega) rfl ?_
  refine q_store2 (loc2 := [(6, 478, 0), (2, v, 0), (11, 0, 0), (2, v, 0), (11, 0, 0), (2, 0, 0), (11, 0, 0), (0, 3, 0)]) (p2 := 53) rfl rfl rfl rfl rfl ?_
  refine q_goto rfl ?_
  refine q_load (v := (2, 0, 0)) (p2 := 36) rfl rfl rfl rfl ?_
  refine q_const (p2 := 37) rfl rfl ?_
  refine q_lcif (p2 := 39) rfl rfl (by decide) (by omega) (by omega) rfl (fun _ => ?_) (fun hb => absurd (show ¬ (0 < 0) by omega) hb)
  exact q_ret rfl (⟨rfl, rfl, rfl, hD4, fun j hj0 hj1 hj2 => ((frn4 j (by omega) (by omega) (by omega)).trans ((frn3 j (by omega) (by omega) (by omega)).trans ((frn2 j (by omega) (by omega) (by omega)).trans (frn1 j (by omega) (by omega) (by omega)))))⟩)
/-- a number below 1024 in decimal -/
def xdec (v : Nat) : List Nat := if v ≤ 9 then [(48 + ((v / 1) % 10))] else if v ≤ 99 then [(48 + ((v / 10) % 10))] ++ [(48 + ((v / 1) % 10))] else if v ≤ 999 then [(48 + ((v / 100) % 10))] ++ [(48 + ((v / 10) % 10))] ++ [(48 + ((v / 1) % 10))] else [(48 + ((v / 1000) % 10))] ++ [(48 + ((v / 100) % 10))] ++ [(48 + ((v / 10) % 10))] ++ [(48 + ((v / 1) % 10))]
theorem zc_wnum {d n sl : Nat} {φ : FH} {sz b v : Nat} {bw : Nat → Nat} {L : List Nat} (hD : zD φ sz bw L b) (hv : v < 1024) (hb : b < 5900) : x_f x_P (d + 2) 129 [(6, 478, 0), (2, v, 0), (11, 0, 0), (11, 0, 0), (11, 0, 0), (11, 0, 0), (11, 0, 0), (11, 0, 0)] φ n sl (x_vR n sl (fun φ2 => zD φ2 sz bw (L ++ xdec v) (b + 4) ∧ ∀ j, j ≠ 478 → j ≠ 479 → j ≠ 480 → φ2 j = φ j)) := by
  have key : ∀ (K : List Nat) (k : Nat), k ≤ 4 → L ++ xdec v = K → ∀ (u : Nat) (w : XV) (φ2 : FH) (n2 sl2 : Nat), x_vR n sl (fun φ2 => zD φ2 sz bw K (b + k) ∧ ∀ j, j ≠ 478 → j ≠ 479 → j ≠ 480 → φ2 j = φ j) u w φ2 n2 sl2 → x_vR n sl (fun φ2 => zD φ2 sz bw (L ++ xdec v) (b + 4) ∧ ∀ j, j ≠ 478 → j ≠ 479 → j ≠ 480 → φ2 j = φ j) u w φ2 n2 sl2 := fun K k hk e u w φ2 n2 sl2 q => ⟨q.1, q.2.1, q.2.2.1, zD_eq (zD_le q.2.2.2.1 (by omega)) e.symm, q.2.2.2.2⟩
  unfold xdec at key ⊢
  by_cases h1 : v ≤ 9
  · rw [if_pos h1] at key ⊢
    exact x_f_mono (zc_wnum_1 (d := d + 0) hD ⟨by omega, h1⟩ hb) (key _ 1 (by decide) (by simp only [List.append_assoc]))
  · rw [if_neg h1] at key ⊢
    by_cases h2 : v ≤ 99
    · rw [if_pos h2] at key ⊢
      exact x_f_mono (zc_wnum_2 (d := d + 0) hD ⟨by omega, h2⟩ hb) (key _ 2 (by decide) (by simp only [List.append_assoc]))
    · rw [if_neg h2] at key ⊢
      by_cases h3 : v ≤ 999
      · rw [if_pos h3] at key ⊢
        exact x_f_mono (zc_wnum_3 (d := d + 0) hD ⟨by omega, h3⟩ hb) (key _ 3 (by decide) (by simp only [List.append_assoc]))
      · rw [if_neg h3] at key ⊢
        exact x_f_mono (zc_wnum_4 (d := d + 0) hD ⟨by omega, by omega⟩ hb) (key _ 4 (by decide) (by simp only [List.append_assoc]))
end FPOP70
