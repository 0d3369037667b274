section FPOP43
def zq_tp (φ : FH) (tp : Nat → Nat) : Prop := φ 1 = some (2, 0, 3000, fun i => (0, tp i, 0))
theorem zq_tp_at {φ φ1 : FH} {tp : Nat → Nat} (h : zq_tp φ tp) (e0 : φ1 1 = φ 1) : zq_tp φ1 tp := e0.trans h
theorem zq_tp_st_1 {φ φ1 : FH} {tp : Nat → Nat} {x_j x_new : Nat} {f1 : Nat → XV} (h : zq_tp φ tp) (hh : φ1 1 = some (2, 0, 3000, f1)) (hg : f1 x_j = (0, x_new, 0)) (ho : ∀ i, i ≠ x_j → f1 i = (0, tp i, 0)) (fr : ∀ j, j ≠ 1 → φ1 j = φ j) : zq_tp φ1 (x_s tp x_j x_new) := hh.trans (x_arf hg ho)
theorem zc_dg_isLetter {d n sl : Nat} {φ : FH} {dd : Nat}  (hc0 : 48 ≤ dd ∧ dd ≤ 57) : x_f x_P (d + 1) 141 [(0, dd, 0)] φ n sl (x_r φ n sl (0, 0, 0)) := by
  refine x_f_of rfl ?_
  refine q_load (v := (0, dd, 0)) (p2 := 1) rfl rfl rfl rfl ?_
  refine q_const (p2 := 2) rfl rfl ?_
  refine q_icmp_s (p2 := 3) rfl (by decide) (by omega) (by omega) rfl (fun _ => ?_) (fun hb => absurd (show dd < 97 by omega) hb)
  refine q_const (p2 := 9) rfl rfl ?_
  exact q_retv (v := (0, 0, 0)) rfl rfl (⟨rfl, rfl, rfl, rfl, rfl⟩)
theorem zc_dg_isDigit {d n sl : Nat} {φ : FH} {dd : Nat}  (hc0 : 48 ≤ dd ∧ dd ≤ 57) : x_f x_P (d + 1) 143 [(0, dd, 0)] φ n sl (x_r φ n sl (0, 1, 0)) := by
  refine x_f_of rfl ?_
  refine q_load (v := (0, dd, 0)) (p2 := 1) rfl rfl rfl rfl ?_
  refine q_const (p2 := 2) rfl rfl ?_
  refine q_icmp_s (p2 := 3) rfl (by decide) (by omega) (by omega) rfl (fun hb => absurd hb (show ¬ (dd < 48) by omega)) (fun _ => ?_)
  refine q_load (v := (0, dd, 0)) (p2 := 4) rfl rfl rfl rfl ?_
  refine q_const (p2 := 5) rfl rfl ?_
  refine q_icmp_s (p2 := 6) rfl (by decide) (by omega) (by omega) rfl (fun hb => absurd hb (show ¬ (57 < dd) by omega)) (fun _ => ?_)
  refine q_const (p2 := 7) rfl rfl ?_
  refine q_goto rfl ?_
  exact q_retv (v := (0, 1, 0)) rfl rfl (⟨rfl, rfl, rfl, rfl, rfl⟩)
theorem zc_dg_isBlank {d n sl : Nat} {φ : FH} {dd : Nat}  (hc0 : 48 ≤ dd ∧ dd ≤ 57) : x_f x_P (d + 1) 87 [(0, dd, 0)] φ n sl (x_r φ n sl (0, 0, 0)) := by
  refine x_f_of rfl ?_
  refine q_load (v := (0, dd, 0)) (p2 := 1) rfl rfl rfl rfl ?_
  refine q_const (p2 := 2) rfl rfl ?_
  refine q_icmp_s (p2 := 3) rfl (by decide) (by omega) (by omega) rfl (fun hb => absurd hb (show ¬ (dd = 32) by omega)) (fun _ => ?_)
  refine q_load (v := (0, dd, 0)) (p2 := 4) rfl rfl rfl rfl ?_
  refine q_const (p2 := 5) rfl rfl ?_
  refine q_icmp_s (p2 := 6) rfl (by decide) (by omega) (by omega) rfl (fun _ => ?_) (fun hb => absurd (show ¬ (dd = 10) by omega) hb)
  refine q_const (p2 := 9) rfl rfl ?_
  exact q_retv (v := (0, 0, 0)) rfl rfl (⟨rfl, rfl, rfl, rfl, rfl⟩)
theorem zc_ls_35 {d n sl : Nat} {φ : FH} {x2 : Nat} {x3 : Nat}   : x_f x_P (d + 1) 145 [(0, 35, 0), (0, x2, 0), (0, x3, 0)] φ n sl (x_r φ n sl (0, 4, 0)) := by
  refine x_f_of rfl ?_
  refine q_load (v := (0, 35, 0)) (p2 := 1) rfl rfl rfl rfl ?_
  refine q_switch (tgt := 36) rfl (by decide) rfl ?_
  refine q_const (p2 := 37) rfl rfl ?_
  exact q_retv (v := (0, 4, 0)) rfl rfl (⟨rfl, rfl, rfl, rfl, rfl⟩)
theorem zc_ls_91 {d n sl : Nat} {φ : FH} {x2 : Nat} {x3 : Nat}   : x_f x_P (d + 1) 145 [(0, 91, 0), (0, x2, 0), (0, x3, 0)] φ n sl (x_r φ n sl (0, 4, 0)) := by
  refine x_f_of rfl ?_
  refine q_load (v := (0, 91, 0)) (p2 := 1) rfl rfl rfl rfl ?_
  refine q_switch (tgt := 36) rfl (by decide) rfl ?_
  refine q_const (p2 := 37) rfl rfl ?_
  exact q_retv (v := (0, 4, 0)) rfl rfl (⟨rfl, rfl, rfl, rfl, rfl⟩)
theorem zc_ls_93 {d n sl : Nat} {φ : FH} {x2 : Nat} {x3 : Nat}   : x_f x_P (d + 1) 145 [(0, 93, 0), (0, x2, 0), (0, x3, 0)] φ n sl (x_r φ n sl (0, 4, 0)) := by
  refine x_f_of rfl ?_
  refine q_load (v := (0, 93, 0)) (p2 := 1) rfl rfl rfl rfl ?_
  refine q_switch (tgt := 36) rfl (by decide) rfl ?_
  refine q_const (p2 := 37) rfl rfl ?_
  exact q_retv (v := (0, 4, 0)) rfl rfl (⟨rfl, rfl, rfl, rfl, rfl⟩)
theorem zc_ls_44 {d n sl : Nat} {φ : FH} {x2 : Nat} {x3 : Nat}   : x_f x_P (d + 1) 145 [(0, 44, 0), (0, x2, 0), (0, x3, 0)] φ n sl (x_r φ n sl (0, 4, 0)) := by
  refine x_f_of rfl ?_
  refine q_load (v := (0, 44, 0)) (p2 := 1) rfl rfl rfl rfl ?_
  refine q_switch (tgt := 36) rfl (by decide) rfl ?_
  refine q_const (p2 := 37) rfl rfl ?_
  exact q_retv (v := (0, 4, 0)) rfl rfl (⟨rfl, rfl, rfl, rfl, rfl⟩)
theorem zc_ls_61 {d n sl : Nat} {φ : FH} {x2 : Nat} {x3 : Nat}   : x_f x_P (d + 1) 145 [(0, 61, 0), (0, x2, 0), (0, x3, 0)] φ n sl (x_r φ n sl (0, 4, 0)) := by
  refine x_f_of rfl ?_
  refine q_load (v := (0, 61, 0)) (p2 := 1) rfl rfl rfl rfl ?_
  refine q_switch (tgt := 36) rfl (by decide) rfl ?_
  refine q_const (p2 := 37) rfl rfl ?_
  exact q_retv (v := (0, 4, 0)) rfl rfl (⟨rfl, rfl, rfl, rfl, rfl⟩)
theorem zc_ls_40 {d n sl : Nat} {φ : FH} {x2 : Nat} {x3 : Nat}   : x_f x_P (d + 1) 145 [(0, 40, 0), (0, x2, 0), (0, x3, 0)] φ n sl (x_r φ n sl (0, 4, 0)) := by
  refine x_f_of rfl ?_
  refine q_load (v := (0, 40, 0)) (p2 := 1) rfl rfl rfl rfl ?_
  refine q_switch (tgt := 36) rfl (by decide) rfl ?_
  refine q_const (p2 := 37) rfl rfl ?_
  exact q_retv (v := (0, 4, 0)) rfl rfl (⟨rfl, rfl, rfl, rfl, rfl⟩)
theorem zc_ls_41 {d n sl : Nat} {φ : FH} {x2 : Nat} {x3 : Nat}   : x_f x_P (d + 1) 145 [(0, 41, 0), (0, x2, 0), (0, x3, 0)] φ n sl (x_r φ n sl (0, 4, 0)) := by
  refine x_f_of rfl ?_
  refine q_load (v := (0, 41, 0)) (p2 := 1) rfl rfl rfl rfl ?_
  refine q_switch (tgt := 36) rfl (by decide) rfl ?_
  refine q_const (p2 := 37) rfl rfl ?_
  exact q_retv (v := (0, 4, 0)) rfl rfl (⟨rfl, rfl, rfl, rfl, rfl⟩)
theorem zc_ls_43 {d n sl : Nat} {φ : FH} {x2 : Nat} {x3 : Nat}   : x_f x_P (d + 1) 145 [(0, 43, 0), (0, x2, 0), (0, x3, 0)] φ n sl (x_r φ n sl (0, 4, 0)) := by
  refine x_f_of rfl ?_
  refine q_load (v := (0, 43, 0)) (p2 := 1) rfl rfl rfl rfl ?_
  refine q_switch (tgt := 36) rfl (by decide) rfl ?_
  refine q_const (p2 := 37) rfl rfl ?_
  exact q_retv (v := (0, 4, 0)) rfl rfl (⟨rfl, rfl, rfl, rfl, rfl⟩)
theorem zc_a_141_35 {d n sl : Nat} {φ : FH}    : x_f x_P (d + 1) 141 [(0, 35, 0)] φ n sl (x_r φ n sl (0, 0, 0)) := by
  refine x_f_of rfl ?_
  refine q_load (v := (0, 35, 0)) (p2 := 1) rfl rfl rfl rfl ?_
  refine q_const (p2 := 2) rfl rfl ?_
  refine q_icmp_s (p2 := 3) rfl (by decide) (by omega) (by omega) rfl (fun _ => ?_) (fun hb => absurd (show 35 < 97 by omega) hb)
  refine q_const (p2 := 9) rfl rfl ?_
  exact q_retv (v := (0, 0, 0)) rfl rfl (⟨rfl, rfl, rfl, rfl, rfl⟩)
theorem zc_a_143_35 {d n sl : Nat} {φ : FH}    : x_f x_P (d + 1) 143 [(0, 35, 0)] φ n sl (x_r φ n sl (0, 0, 0)) := by
  refine x_f_of rfl ?_
  refine q_load (v := (0, 35, 0)) (p2 := 1) rfl rfl rfl rfl ?_
  refine q_const (p2 := 2) rfl rfl ?_
  refine q_icmp_s (p2 := 3) rfl (by decide) (by omega) (by omega) rfl (fun _ => ?_) (fun hb => absurd (show 35 < 48 by omega) hb)
  refine q_const (p2 := 9) rfl rfl ?_
  exact q_retv (v := (0, 0, 0)) rfl rfl (⟨rfl, rfl, rfl, rfl, rfl⟩)
theorem zc_a_146_35 {d n sl : Nat} {φ : FH}    : x_f x_P (d + 1) 146 [(0, 35, 0)] φ n sl (x_r φ n sl (0, 82, 0)) := by
  refine x_f_of rfl ?_
  refine q_load (v := (0, 35, 0)) (p2 := 1) rfl rfl rfl rfl ?_
  refine q_switch (tgt := 36) rfl (by decide) rfl ?_
  refine q_const (p2 := 37) rfl rfl ?_
  exact q_retv (v := (0, 82, 0)) rfl rfl (⟨rfl, rfl, rfl, rfl, rfl⟩)
theorem zc_sc_35a {d n sl : Nat} {φ : FH} {tot : Nat} {at_ : Nat} {cur : Nat} {pl : Nat} {va : Nat} {fa : Nat} {fp : Nat} {sf : Nat} {sp : Nat} {no : Nat} {op : Nat} {K : Nat → Nat} {P : Nat → Nat} {V : Nat → Nat} {p : Nat} {le : Nat} {x2 : Nat} {x3 : Nat} {tp : Nat → Nat} (hT : zq_T φ tot at_ cur pl va fa fp sf sp no op K P V) (hB : zq_tp φ tp) (hc0 : p + 2 < le ∧ le ≤ 3000) (hc1 : tp p = 35) (hc2 : tot < 3002) (hc3 : tp (p + 1) = x2) (hc4 : tp (p + 2) = x3) : x_f x_P (d + 2) 88 [(6, 2, 0), (6, 1, 0), (0, le, 0), (0, p, 0), (11, 0, 0), (11, 0, 0), (11, 0, 0)] φ n sl (x_rR (0, 1, 0) n sl (fun φ2 => zq_T φ2 (tot + 1) at_ cur pl va fa fp sf sp no op (x_s K tot 82) (x_s P tot p) (x_s V tot 0) ∧ ∀ j, j ≠ 2 → j ≠ 4 → j ≠ 5 → j ≠ 6 → φ2 j = φ j)) := by
  refine x_f_of rfl ?_
  refine q_load (v := (6, 1, 0)) (p2 := 1) rfl rfl rfl rfl ?_
  refine q_load (v := (0, p, 0)) (p2 := 2) rfl rfl rfl rfl ?_
  refine q_aldT (tag := 0) (v := 35) (p2 := 3) rfl hB (by omega) (by omega) hc1 rfl ?_
  refine q_callr (xs := [(0, 35, 0)]) (p2 := 4) rfl rfl rfl rfl (fun _ _ => rfl) rfl (zc_a_141_35 ) (Nat.le_refl _) (Nat.le_refl _) rfl ?_
  refine q_if0_s (p2 := 5) rfl (by decide) (by omega) rfl (fun _ => ?_) (fun hb => absurd (show 0 = 0 by omega) hb)
  refine q_load (v := (6, 1, 0)) (p2 := 12) rfl rfl rfl rfl ?_
  refine q_load (v := (0, p, 0)) (p2 := 13) rfl rfl rfl rfl ?_
  refine q_aldT (tag := 0) (v := 35) (p2 := 14) rfl hB (by omega) (by omega) hc1 rfl ?_
  refine q_callr (xs := [(0, 35, 0)]) (p2 := 15) rfl rfl rfl rfl (fun _ _ => rfl) rfl (zc_a_143_35 ) (Nat.le_refl _) (Nat.le_refl _) rfl ?_
  refine q_if0_s (p2 := 16) rfl (by decide) (by omega) rfl (fun _ => ?_) (fun hb => absurd (show 0 = 0 by omega) hb)
  refine q_load (v := (0, p, 0)) (p2 := 23) rfl rfl rfl rfl ?_
  refine q_const (p2 := 24) rfl rfl ?_
  refine q_iaddz (z := p + 1) (p2 := 25) rfl (by omega) (by omega) rfl ?_
  refine q_load (v := (0, le, 0)) (p2 := 26) rfl rfl rfl rfl ?_
  refine q_icmp_s (p2 := 27) rfl (by decide) (by omega) (by omega) rfl (fun hb => absurd hb (show ¬ (¬ (p + 1 < le)) by omega)) (fun _ => ?_)
  refine q_load (v := (6, 1, 0)) (p2 := 28) rfl rfl rfl rfl ?_
  refine q_load (v := (0, p, 0)) (p2 := 29) rfl rfl rfl rfl ?_
  refine q_const (p2 := 30) rfl rfl ?_
  refine q_iaddz (z := p + 1) (p2 := 31) rfl (by omega) (by omega) rfl ?_
  refine q_aldT (tag := 0) (v := x2) (p2 := 32) rfl hB (by omega) (by omega) hc3 rfl ?_
  refine q_goto rfl ?_
  refine q_store (loc2 := [(6, 2, 0), (6, 1, 0), (0, le, 0), (0, p, 0), (0, x2, 0), (11, 0, 0), (11, 0, 0)]) (p2 := 35) rfl rfl rfl rfl rfl ?_
  refine q_load (v := (0, p, 0)) (p2 := 36) rfl rfl rfl rfl ?_
  refine q_const (p2 := 37) rfl rfl ?_
  refine q_iaddz (z := p + 2) (p2 := 38) rfl (by omega) (by omega) rfl ?_
  refine q_load (v := (0, le, 0)) (p2 := 39) rfl rfl rfl rfl ?_
  refine q_icmp_s (p2 := 40) rfl (by decide) (by omega) (by omega) rfl (fun hb => absurd hb (show ¬ (¬ (p + 2 < le)) by omega)) (fun _ => ?_)
  refine q_load (v := (6, 1, 0)) (p2 := 41) rfl rfl rfl rfl ?_
  refine q_load (v := (0, p, 0)) (p2 := 42) rfl rfl rfl rfl ?_
  refine q_const (p2 := 43) rfl rfl ?_
  refine q_iaddz (z := p + 2) (p2 := 44) rfl (by omega) (by omega) rfl ?_
  refine q_aldT (tag := 0) (v := x3) (p2 := 45) rfl hB (by omega) (by omega) hc4 rfl ?_
  refine q_goto rfl ?_
  refine q_store (loc2 := [(6, 2, 0), (6, 1, 0), (0, le, 0), (0, p, 0), (0, x2, 0), (0, x3, 0), (11, 0, 0)]) (p2 := 48) rfl rfl rfl rfl rfl ?_
  refine q_load (v := (6, 1, 0)) (p2 := 49) rfl rfl rfl rfl ?_
  refine q_load (v := (0, p, 0)) (p2 := 50) rfl rfl rfl rfl ?_
  refine q_aldT (tag := 0) (v := 35) (p2 := 51) rfl hB (by omega) (by omega) hc1 rfl ?_
  refine q_load (v := (0, x2, 0)) (p2 := 52) rfl rfl rfl rfl ?_
  refine q_load (v := (0, x3, 0)) (p2 := 53) rfl rfl rfl rfl ?_
  refine q_callr (xs := [(0, x3, 0), (0, x2, 0), (0, 35, 0)]) (p2 := 54) rfl rfl rfl rfl (fun _ _ => rfl) rfl (zc_ls_35 ) (Nat.le_refl _) (Nat.le_refl _) rfl ?_
  refine q_store (loc2 := [(6, 2, 0), (6, 1, 0), (0, le, 0), (0, p, 0), (0, x2, 0), (0, x3, 0), (0, 4, 0)]) (p2 := 55) rfl rfl rfl rfl rfl ?_
  refine q_load (v := (0, 4, 0)) (p2 := 56) rfl rfl rfl rfl ?_
  refine q_const (p2 := 57) rfl rfl ?_
  refine q_icmp_s (p2 := 58) rfl (by decide) (by omega) (by omega) rfl (fun _ => ?_) (fun hb => absurd (show 4 = 4 by omega) hb)
  refine q_load (v := (6, 1, 0)) (p2 := 71) rfl rfl rfl rfl ?_
  refine q_load (v := (0, p, 0)) (p2 := 72) rfl rfl rfl rfl ?_
  refine q_aldT (tag := 0) (v := 35) (p2 := 73) rfl hB (by omega) (by omega) hc1 rfl ?_
  refine q_callr (xs := [(0, 35, 0)]) (p2 := 74) rfl rfl rfl rfl (fun _ _ => rfl) rfl (zc_a_146_35 ) (Nat.le_refl _) (Nat.le_refl _) rfl ?_
  refine q_store (loc2 := [(6, 2, 0), (6, 1, 0), (0, le, 0), (0, p, 0), (0, x2, 0), (0, x3, 0), (0, 82, 0)]) (p2 := 75) rfl rfl rfl rfl rfl ?_
  refine q_load (v := (0, 82, 0)) (p2 := 76) rfl rfl rfl rfl ?_
  refine q_const (p2 := 77) rfl rfl ?_
  refine q_icmp_s (p2 := 78) rfl (by decide) (by omega) (by omega) rfl (fun _ => ?_) (fun hb => absurd (show ¬ (82 = 4) by omega) hb)
  refine q_load (v := (6, 2, 0)) (p2 := 81) rfl rfl rfl rfl ?_
  refine q_load (v := (0, 82, 0)) (p2 := 82) rfl rfl rfl rfl ?_
  refine q_load (v := (0, p, 0)) (p2 := 83) rfl rfl rfl rfl ?_
  refine q_const (p2 := 84) rfl rfl ?_
  refine q_callvE (xs := [(2, 0, 0), (0, p, 0), (0, 82, 0), (6, 2, 0)]) (p2 := 85) rfl rfl rfl rfl (x_rcv_s 2 hT.1) rfl (zc_t_add hT (by omega)) (Nat.le_refl _) (Nat.le_refl _) rfl (fun φ1 hR1 => ?_)
  obtain ⟨hs1_0, fr1⟩ := hR1
  refine q_const (p2 := 86) rfl rfl ?_
  exact q_retv (v := (0, 1, 0)) rfl rfl (⟨rfl, rfl, rfl, rfl, hs1_0, fun j hj0 hj1 hj2 hj3 => (fr1 j (by omega) (by omega) (by omega) (by omega))⟩)
theorem zc_sc_35b {d n sl : Nat} {φ : FH} {tot : Nat} {at_ : Nat} {cur : Nat} {pl : Nat} {va : Nat} {fa : Nat} {fp : Nat} {sf : Nat} {sp : Nat} {no : Nat} {op : Nat} {K : Nat → Nat} {P : Nat → Nat} {V : Nat → Nat} {p : Nat} {le : Nat} {x2 : Nat} {tp : Nat → Nat} (hT : zq_T φ tot at_ cur pl va fa fp sf sp no op K P V) (hB : zq_tp φ tp) (hc0 : le = p + 2 ∧ le ≤ 3000) (hc1 : tp p = 35) (hc2 : tot < 3002) (hc3 : tp (p + 1) = x2) : x_f x_P (d + 2) 88 [(6, 2, 0), (6, 1, 0), (0, le, 0), (0, p, 0), (11, 0, 0), (11, 0, 0), (11, 0, 0)] φ n sl (x_rR (0, 1, 0) n sl (fun φ2 => zq_T φ2 (tot + 1) at_ cur pl va fa fp sf sp no op (x_s K tot 82) (x_s P tot p) (x_s V tot 0) ∧ ∀ j, j ≠ 2 → j ≠ 4 → j ≠ 5 → j ≠ 6 → φ2 j = φ j)) := by
  refine x_f_of rfl ?_
  refine q_load (v := (6, 1, 0)) (p2 := 1) rfl rfl rfl rfl ?_
  refine q_load (v := (0, p, 0)) (p2 := 2) rfl rfl rfl rfl ?_
  refine q_aldT (tag := 0) (v := 35) (p2 := 3) rfl hB (by omega) (by omega) hc1 rfl ?_
  refine q_callr (xs := [(0, 35, 0)]) (p2 := 4) rfl rfl rfl rfl (fun _ _ => rfl) rfl (zc_a_141_35 ) (Nat.le_refl _) (Nat.le_refl _) rfl ?_
  refine q_if0_s (p2 := 5) rfl (by decide) (by omega) rfl (fun _ => ?_) (fun hb => absurd (show 0 = 0 by omega) hb)
  refine q_load (v := (6, 1, 0)) (p2 := 12) rfl rfl rfl rfl ?_
  refine q_load (v := (0, p, 0)) (p2 := 13) rfl rfl rfl rfl ?_
  refine q_aldT (tag := 0) (v := 35) (p2 := 14) rfl hB (by omega) (by omega) hc1 rfl ?_
  refine q_callr (xs := [(0, 35, 0)]) (p2 := 15) rfl rfl rfl rfl (fun _ _ => rfl) rfl (zc_a_143_35 ) (Nat.le_refl _) (Nat.le_refl _) rfl ?_
  refine q_if0_s (p2 := 16) rfl (by decide) (by omega) rfl (fun _ => ?_) (fun hb => absurd (show 0 = 0 by omega) hb)
  refine q_load (v := (0, p, 0)) (p2 := 23) rfl rfl rfl rfl ?_
  refine q_const (p2 := 24) rfl rfl ?_
  refine q_iaddz (z := p + 1) (p2 := 25) rfl (by omega) (by omega) rfl ?_
  refine q_load (v := (0, le, 0)) (p2 := 26) rfl rfl rfl rfl ?_
  refine q_icmp_s (p2 := 27) rfl (by decide) (by omega) (by omega) rfl (fun hb => absurd hb (show ¬ (¬ (p + 1 < le)) by omega)) (fun _ => ?_)
  refine q_load (v := (6, 1, 0)) (p2 := 28) rfl rfl rfl rfl ?_
  refine q_load (v := (0, p, 0)) (p2 := 29) rfl rfl rfl rfl ?_
  refine q_const (p2 := 30) rfl rfl ?_
  refine q_iaddz (z := p + 1) (p2 := 31) rfl (by omega) (by omega) rfl ?_
  refine q_aldT (tag := 0) (v := x2) (p2 := 32) rfl hB (by omega) (by omega) hc3 rfl ?_
  refine q_goto rfl ?_
  refine q_store (loc2 := [(6, 2, 0), (6, 1, 0), (0, le, 0), (0, p, 0), (0, x2, 0), (11, 0, 0), (11, 0, 0)]) (p2 := 35) rfl rfl rfl rfl rfl ?_
  refine q_load (v := (0, p, 0)) (p2 := 36) rfl rfl rfl rfl ?_
  refine q_const (p2 := 37) rfl rfl ?_
  refine q_iaddz (z := p + 2) (p2 := 38) rfl (by omega) (by omega) rfl ?_
  refine q_load (v := (0, le, 0)) (p2 := 39) rfl rfl rfl rfl ?_
  refine q_icmp_s (p2 := 40) rfl (by decide) (by omega) (by omega) rfl (fun _ => ?_) (fun hb => absurd (show ¬ (p + 2 < le) by omega) hb)
  refine q_const (p2 := 47) rfl rfl ?_
  refine q_store (loc2 := [(6, 2, 0), (6, 1, 0), (0, le, 0), (0, p, 0), (0, x2, 0), (0, 0, 0), (11, 0, 0)]) (p2 := 48) rfl rfl rfl rfl rfl ?_
  refine q_load (v := (6, 1, 0)) (p2 := 49) rfl rfl rfl rfl ?_
  refine q_load (v := (0, p, 0)) (p2 := 50) rfl rfl rfl rfl ?_
  refine q_aldT (tag := 0) (v := 35) (p2 := 51) rfl hB (by omega) (by omega) hc1 rfl ?_
  refine q_load (v := (0, x2, 0)) (p2 := 52) rfl rfl rfl rfl ?_
  refine q_load (v := (0, 0, 0)) (p2 := 53) rfl rfl rfl rfl ?_
  refine q_callr (xs := [(0, 0, 0), (0, x2, 0), (0, 35, 0)]) (p2 := 54) rfl rfl rfl rfl (fun _ _ => rfl) rfl (zc_ls_35 ) (Nat.le_refl _) (Nat.le_refl _) rfl ?_
  refine q_store (loc2 := [(6, 2, 0), (6, 1, 0), (0, le, 0), (0, p, 0), (0, x2, 0), (0, 0, 0), (0, 4, 0)]) (p2 := 55) rfl rfl rfl rfl rfl ?_
  refine q_load (v := (0, 4, 0)) (p2 := 56) rfl rfl rfl rfl ?_
  refine q_const (p2 := 57) rfl rfl ?_
  refine q_icmp_s (p2 := 58) rfl (by decide) (by omega) (by omega) rfl (fun _ => ?_) (fun hb => absurd (show 4 = 4 by omega) hb)
  refine q_load (v := (6, 1, 0)) (p2 := 71) rfl rfl rfl rfl ?_
  refine q_load (v := (0, p, 0)) (p2 := 72) rfl rfl rfl rfl ?_
  refine q_aldT (tag := 0) (v := 35) (p2 := 73) rfl hB (by omega) (by omega) hc1 rfl ?_
  refine q_callr (xs := [(0, 35, 0)]) (p2 := 74) rfl rfl rfl rfl (fun _ _ => rfl) rfl (zc_a_146_35 ) (Nat.le_refl _) (Nat.le_refl _) rfl ?_
  refine q_store (loc2 := [(6, 2, 0), (6, 1, 0), (0, le, 0), (0, p, 0), (0, x2, 0), (0, 0, 0), (0, 82, 0)]) (p2 := 75) rfl rfl rfl rfl rfl ?_
  refine q_load (v := (0, 82, 0)) (p2 := 76) rfl rfl rfl rfl ?_
  refine q_const (p2 := 77) rfl rfl ?_
  refine q_icmp_s (p2 := 78) rfl (by decide) (by omega) (by omega) rfl (fun _ => ?_) (fun hb => absurd (show ¬ (82 = 4) by omega) hb)
  refine q_load (v := (6, 2, 0)) (p2 := 81) rfl rfl rfl rfl ?_
  refine q_load (v := (0, 82, 0)) (p2 := 82) rfl rfl rfl rfl ?_
  refine q_load (v := (0, p, 0)) (p2 := 83) rfl rfl rfl rfl ?_
  refine q_const (p2 := 84) rfl rfl ?_
  refine q_callvE (xs := [(2, 0, 0), (0, p, 0), (0, 82, 0), (6, 2, 0)]) (p2 := 85) rfl rfl rfl rfl (x_rcv_s 2 hT.1) rfl (zc_t_add hT (by omega)) (Nat.le_refl _) (Nat.le_refl _) rfl (fun φ1 hR1 => ?_)
  obtain ⟨hs1_0, fr1⟩ := hR1
  refine q_const (p2 := 86) rfl rfl ?_
  exact q_retv (v := (0, 1, 0)) rfl rfl (⟨rfl, rfl, rfl, rfl, hs1_0, fun j hj0 hj1 hj2 hj3 => (fr1 j (by omega) (by omega) (by omega) (by omega))⟩)
theorem zc_sc_35c {d n sl : Nat} {φ : FH} {tot : Nat} {at_ : Nat} {cur : Nat} {pl : Nat} {va : Nat} {fa : Nat} {fp : Nat} {sf : Nat} {sp : Nat} {no : Nat} {op : Nat} {K : Nat → Nat} {P : Nat → Nat} {V : Nat → Nat} {p : Nat} {le : Nat} {tp : Nat → Nat} (hT : zq_T φ tot at_ cur pl va fa fp sf sp no op K P V) (hB : zq_tp φ tp) (hc0 : le = p + 1 ∧ le ≤ 3000) (hc1 : tp p = 35) (hc2 : tot < 3002) : x_f x_P (d + 2) 88 [(6, 2, 0), (6, 1, 0), (0, le, 0), (0, p, 0), (11, 0, 0), (11, 0, 0), (11, 0, 0)] φ n sl (x_rR (0, 1, 0) n sl (fun φ2 => zq_T φ2 (tot + 1) at_ cur pl va fa fp sf sp no op (x_s K tot 82) (x_s P tot p) (x_s V tot 0) ∧ ∀ j, j ≠ 2 → j ≠ 4 → j ≠ 5 → j ≠ 6 → φ2 j = φ j)) := by
  refine x_f_of rfl ?_
  refine q_load (v := (6, 1, 0)) (p2 := 1) rfl rfl rfl rfl ?_
  refine q_load (v := (0, p, 0)) (p2 := 2) rfl rfl rfl rfl ?_
  refine q_aldT (tag := 0) (v := 35) (p2 := 3) rfl hB (by omega) (by omega) hc1 rfl ?_
  refine q_callr (xs := [(0, 35, 0)]) (p2 := 4) rfl rfl rfl rfl (fun _ _ => rfl) rfl (zc_a_141_35 ) (Nat.le_refl _) (Nat.le_refl _) rfl ?_
  refine q_if0_s (p2 := 5) rfl (by decide) (by omega) rfl (fun _ => ?_) (fun hb => absurd (show 0 = 0 by omega) hb)
  refine q_load (v := (6, 1, 0)) (p2 := 12) rfl rfl rfl rfl ?_
  refine q_load (v := (0, p, 0)) (p2 := 13) rfl rfl rfl rfl ?_
  refine q_aldT (tag := 0) (v := 35) (p2 := 14) rfl hB (by omega) (by omega) hc1 rfl ?_
  refine q_callr (xs := [(0, 35, 0)]) (p2 := 15) rfl rfl rfl rfl (fun _ _ => rfl) rfl (zc_a_143_35 ) (Nat.le_refl _) (Nat.le_refl _) rfl ?_
  refine q_if0_s (p2 := 16) rfl (by decide) (by omega) rfl (fun _ => ?_) (fun hb => absurd (show 0 = 0 by omega) hb)
  refine q_load (v := (0, p, 0)) (p2 := 23) rfl rfl rfl rfl ?_
  refine q_const (p2 := 24) rfl rfl ?_
  refine q_iaddz (z := p + 1) (p2 := 25) rfl (by omega) (by omega) rfl ?_
  refine q_load (v := (0, le, 0)) (p2 := 26) rfl rfl rfl rfl ?_
  refine q_icmp_s (p2 := 27) rfl (by decide) (by omega) (by omega) rfl (fun _ => ?_) (fun hb => absurd (show ¬ (p + 1 < le) by omega) hb)
  refine q_const (p2 := 34) rfl rfl ?_
  refine q_store (loc2 := [(6, 2, 0), (6, 1, 0), (0, le, 0), (0, p, 0), (0, 0, 0), (11, 0, 0), (11, 0, 0)]) (p2 := 35) rfl rfl rfl rfl rfl ?_
  refine q_load (v := (0, p, 0)) (p2 := 36) rfl rfl rfl rfl ?_
  refine q_const (p2 := 37) rfl rfl ?_
  refine q_iaddz (z := p + 2) (p2 := 38) rfl (by omega) (by omega) rfl ?_
  refine q_load (v := (0, le, 0)) (p2 := 39) rfl rfl rfl rfl ?_
  refine q_icmp_s (p2 := 40) rfl (by decide) (by omega) (by omega) rfl (fun _ => ?_) (fun hb => absurd (show ¬ (p + 2 < le) by omega) hb)
  refine q_const (p2 := 47) rfl rfl ?_
  refine q_store (loc2 := [(6, 2, 0), (6, 1, 0), (0, le, 0), (0, p, 0), (0, 0, 0), (0, 0, 0), (11, 0, 0)]) (p2 := 48) rfl rfl rfl rfl rfl ?_
  refine q_load (v := (6, 1, 0)) (p2 := 49) rfl rfl rfl rfl ?_
  refine q_load (v := (0, p, 0)) (p2 := 50) rfl rfl rfl rfl ?_
  refine q_aldT (tag := 0) (v := 35) (p2 := 51) rfl hB (by omega) (by omega) hc1 rfl ?_
  refine q_load (v := (0, 0, 0)) (p2 := 52) rfl rfl rfl rfl ?_
  refine q_load (v := (0, 0, 0)) (p2 := 53) rfl rfl rfl rfl ?_
  refine q_callr (xs := [(0, 0, 0), (0, 0, 0), (0, 35, 0)]) (p2 := 54) rfl rfl rfl rfl (fun _ _ => rfl) rfl (zc_ls_35 ) (Nat.le_refl _) (Nat.le_refl _) rfl ?_
  refine q_store (loc2 := [(6, 2, 0), (6, 1, 0), (0, le, 0), (0, p, 0), (0, 0, 0), (0, 0, 0), (0, 4, 0)]) (p2 := 55) rfl rfl rfl rfl rfl ?_
  refine q_load (v := (0, 4, 0)) (p2 := 56) rfl rfl rfl rfl ?_
  refine q_const (p2 := 57) rfl rfl ?_
  refine q_icmp_s (p2 := 58) rfl (by decide) (by omega) (by omega) rfl (fun _ => ?_) (fun hb => absurd (show 4 = 4 by omega) hb)
  refine q_load (v := (6, 1, 0)) (p2 := 71) rfl rfl rfl rfl ?_
  refine q_load (v := (0, p, 0)) (p2 := 72) rfl rfl rfl rfl ?_
  refine q_aldT (tag := 0) (v := 35) (p2 := 73) rfl hB (by omega) (by omega) hc1 rfl ?_
  refine q_callr (xs := [(0, 35, 0)]) (p2 := 74) rfl rfl rfl rfl (fun _ _ => rfl) rfl (zc_a_146_35 ) (Nat.le_refl _) (Nat.le_refl _) rfl ?_
  refine q_store (loc2 := [(6, 2, 0), (6, 1, 0), (0, le, 0), (0, p, 0), (0, 0, 0), (0, 0, 0), (0, 82, 0)]) (p2 := 75) rfl rfl rfl rfl rfl ?_
  refine q_load (v := (0, 82, 0)) (p2 := 76) rfl rfl rfl rfl ?_
  refine q_const (p2 := 77) rfl rfl ?_
  refine q_icmp_s (p2 := 78) rfl (by decide) (by omega) (by omega) rfl (fun _ => ?_) (fun hb => absurd (show ¬ (82 = 4) by omega) hb)
  refine q_load (v := (6, 2, 0)) (p2 := 81) rfl rfl rfl rfl ?_
  refine q_load (v := (0, 82, 0)) (p2 := 82) rfl rfl rfl rfl ?_
  refine q_load (v := (0, p, 0)) (p2 := 83) rfl rfl rfl rfl ?_
  refine q_const (p2 := 84) rfl rfl ?_
  refine q_callvE (xs := [(2, 0, 0), (0, p, 0), (0, 82, 0), (6, 2, 0)]) (p2 := 85) rfl rfl rfl rfl (x_rcv_s 2 hT.1) rfl (zc_t_add hT (by omega)) (Nat.le_refl _) (Nat.le_refl _) rfl (fun φ1 hR1 => ?_)
  obtain ⟨hs1_0, fr1⟩ := hR1
  refine q_const (p2 := 86) rfl rfl ?_
  exact q_retv (v := (0, 1, 0)) rfl rfl (⟨rfl, rfl, rfl, rfl, hs1_0, fun j hj0 hj1 hj2 hj3 => (fr1 j (by omega) (by omega) (by omega) (by omega))⟩)
theorem zc_a_141_91 {d n sl : Nat} {φ : FH}    : x_f x_P (d + 1) 141 [(0, 91, 0)] φ n sl (x_r φ n sl (0, 0, 0)) := by
  refine x_f_of rfl ?_
  refine q_load (v := (0, 91, 0)) (p2 := 1) rfl rfl rfl rfl ?_
  refine q_const (p2 := 2) rfl rfl ?_
  refine q_icmp_s (p2 := 3) rfl (by decide) (by omega) (by omega) rfl (fun _ => ?_) (fun hb => absurd (show 91 < 97 by omega) hb)
  refine q_const (p2 := 9) rfl rfl ?_
  exact q_retv (v := (0, 0, 0)) rfl rfl (⟨rfl, rfl, rfl, rfl, rfl⟩)
theorem zc_a_143_91 {d n sl : Nat} {φ : FH}    : x_f x_P (d + 1) 143 [(0, 91, 0)] φ n sl (x_r φ n sl (0, 0, 0)) := by
  refine x_f_of rfl ?_
  refine q_load (v := (0, 91, 0)) (p2 := 1) rfl rfl rfl rfl ?_
  refine q_const (p2 := 2) rfl rfl ?_
  refine q_icmp_s (p2 := 3) rfl (by decide) (by omega) (by omega) rfl (fun hb => absurd hb (show ¬ (91 < 48) by omega)) (fun _ => ?_)
  refine q_load (v := (0, 91, 0)) (p2 := 4) rfl rfl rfl rfl ?_
  refine q_const (p2 := 5) rfl rfl ?_
  refine q_icmp_s (p2 := 6) rfl (by decide) (by omega) (by omega) rfl (fun _ => ?_) (fun hb => absurd (show 57 < 91 by omega) hb)
  refine q_const (p2 := 9) rfl rfl ?_
  exact q_retv (v := (0, 0, 0)) rfl rfl (⟨rfl, rfl, rfl, rfl, rfl⟩)
theorem zc_a_146_91 {d n sl : Nat} {φ : FH}    : x_f x_P (d + 1) 146 [(0, 91, 0)] φ n sl (x_r φ n sl (0, 75, 0)) := by
  refine x_f_of rfl ?_
  refine q_load (v := (0, 91, 0)) (p2 := 1) rfl rfl rfl rfl ?_
  refine q_switch (tgt := 22) rfl (by decide) rfl ?_
  refine q_const (p2 := 23) rfl rfl ?_
  exact q_retv (v := (0, 75, 0)) rfl rfl (⟨rfl, rfl, rfl, rfl, rfl⟩)
theorem zc_sc_91a {d n sl : Nat} {φ : FH} {tot : Nat} {at_ : Nat} {cur : Nat} {pl : Nat} {va : Nat} {fa : Nat} {fp : Nat} {sf : Nat} {sp : Nat} {no : Nat} {op : Nat} {K : Nat → Nat} {P : Nat → Nat} {V : Nat → Nat} {p : Nat} {le : Nat} {x2 : Nat} {x3 : Nat} {tp : Nat → Nat} (hT : zq_T φ tot at_ cur pl va fa fp sf sp no op K P V) (hB : zq_tp φ tp) (hc0 : p + 2 < le ∧ le ≤ 3000) (hc1 : tp p = 91) (hc2 : tot < 3002) (hc3 : tp (p + 1) = x2) (hc4 : tp (p + 2) = x3) : x_f x_P (d + 2) 88 [(6, 2, 0), (6, 1, 0), (0, le, 0), (0, p, 0), (11, 0, 0), (11, 0, 0), (11, 0, 0)] φ n sl (x_rR (0, 1, 0) n sl (fun φ2 => zq_T φ2 (tot + 1) at_ cur pl va fa fp sf sp no op (x_s K tot 75) (x_s P tot p) (x_s V tot 0) ∧ ∀ j, j ≠ 2 → j ≠ 4 → j ≠ 5 → j ≠ 6 → φ2 j = φ j)) := by
  refine x_f_of rfl ?_
  refine q_load (v := (6, 1, 0)) (p2 := 1) rfl rfl rfl rfl ?_
  refine q_load (v := (0, p, 0)) (p2 := 2) rfl rfl rfl rfl ?_
  refine q_aldT (tag := 0) (v := 91) (p2 := 3) rfl hB (by omega) (by omega) hc1 rfl ?_
  refine q_callr (xs := [(0, 91, 0)]) (p2 := 4) rfl rfl rfl rfl (fun _ _ => rfl) rfl (zc_a_141_91 ) (Nat.le_refl _) (Nat.le_refl _) rfl ?_
  refine q_if0_s (p2 := 5) rfl (by decide) (by omega) rfl (fun _ => ?_) (fun hb => absurd (show 0 = 0 by omega) hb)
  refine q_load (v := (6, 1, 0)) (p2 := 12) rfl rfl rfl rfl ?_
  refine q_load (v := (0, p, 0)) (p2 := 13) rfl rfl rfl rfl ?_
  refine q_aldT (tag := 0) (v := 91) (p2 := 14) rfl hB (by omega) (by omega) hc1 rfl ?_
  refine q_callr (xs := [(0, 91, 0)]) (p2 := 15) rfl rfl rfl rfl (fun _ _ => rfl) rfl (zc_a_143_91 ) (Nat.le_refl _) (Nat.le_refl _) rfl ?_
  refine q_if0_s (p2 := 16) rfl (by decide) (by omega) rfl (fun _ => ?_) (fun hb => absurd (show 0 = 0 by omega) hb)
  refine q_load (v := (0, p, 0)) (p2 := 23) rfl rfl rfl rfl ?_
  refine q_const (p2 := 24) rfl rfl ?_
  refine q_iaddz (z := p + 1) (p2 := 25) rfl (by omega) (by omega) rfl ?_
  refine q_load (v := (0, le, 0)) (p2 := 26) rfl rfl rfl rfl ?_
  refine q_icmp_s (p2 := 27) rfl (by decide) (by omega) (by omega) rfl (fun hb => absurd hb (show ¬ (¬ (p + 1 < le)) by omega)) (fun _ => ?_)
  refine q_load (v := (6, 1, 0)) (p2 := 28) rfl rfl rfl rfl ?_
  refine q_load (v := (0, p, 0)) (p2 := 29) rfl rfl rfl rfl ?_
  refine q_const (p2 := 30) rfl rfl ?_
  refine q_iaddz (z := p + 1) (p2 := 31) rfl (by omega) (by omega) rfl ?_
  refine q_aldT (tag := 0) (v := x2) (p2 := 32) rfl hB (by omega) (by omega) hc3 rfl ?_
  refine q_goto rfl ?_
  refine q_store (loc2 := [(6, 2, 0), (6, 1, 0), (0, le, 0), (0, p, 0), (0, x2, 0), (11, 0, 0), (11, 0, 0)]) (p2 := 35) rfl rfl rfl rfl rfl ?_
  refine q_load (v := (0, p, 0)) (p2 := 36) rfl rfl rfl rfl ?_
  refine q_const (p2 := 37) rfl rfl ?_
  refine q_iaddz (z := p + 2) (p2 := 38) rfl (by omega) (by omega) rfl ?_
  refine q_load (v := (0, le, 0)) (p2 := 39) rfl rfl rfl rfl ?_
  refine q_icmp_s (p2 := 40) rfl (by decide) (by omega) (by omega) rfl (fun hb => absurd hb (show ¬ (¬ (p + 2 < le)) by omega)) (fun _ => ?_)
  refine q_load (v := (6, 1, 0)) (p2 := 41) rfl rfl rfl rfl ?_
  refine q_load (v := (0, p, 0)) (p2 := 42) rfl rfl rfl rfl ?_
  refine q_const (p2 := 43) rfl rfl ?_
  refine q_iaddz (z := p + 2) (p2 := 44) rfl (by omega) (by omega) rfl ?_
  refine q_aldT (tag := 0) (v := x3) (p2 := 45) rfl hB (by omega) (by omega) hc4 rfl ?_
  refine q_goto rfl ?_
  refine q_store (loc2 := [(6, 2, 0), (6, 1, 0), (0, le, 0), (0, p, 0), (0, x2, 0), (0, x3, 0), (11, 0, 0)]) (p2 := 48) rfl rfl rfl rfl rfl ?_
  refine q_load (v := (6, 1, 0)) (p2 := 49) rfl rfl rfl rfl ?_
  refine q_load (v := (0, p, 0)) (p2 := 50) rfl rfl rfl rfl ?_
  refine q_aldT (tag := 0) (v := 91) (p2 := 51) rfl hB (by omega) (by omega) hc1 rfl ?_
  refine q_load (v := (0, x2, 0)) (p2 := 52) rfl rfl rfl rfl ?_
  refine q_load (v := (0, x3, 0)) (p2 := 53) rfl rfl rfl rfl ?_
  refine q_callr (xs := [(0, x3, 0), (0, x2, 0), (0, 91, 0)]) (p2 := 54) rfl rfl rfl rfl (fun _ _ => rfl) rfl (zc_ls_91 ) (Nat.le_refl _) (Nat.le_refl _) rfl ?_
  refine q_store (loc2 := [(6, 2, 0), (6, 1, 0), (0, le, 0), (0, p, 0), (0, x2, 0), (0, x3, 0), (0, 4, 0)]) (p2 := 55) rfl rfl rfl rfl rfl ?_
  refine q_load (v := (0, 4, 0)) (p2 := 56) rfl rfl rfl rfl ?_
  refine q_const (p2 := 57) rfl rfl ?_
  refine q_icmp_s (p2 := 58) rfl (by decide) (by omega) (by omega) rfl (fun _ => ?_) (fun hb => absurd (show 4 = 4 by omega) hb)
  refine q_load (v := (6, 1, 0)) (p2 := 71) rfl rfl rfl rfl ?_
  refine q_load (v := (0, p, 0)) (p2 := 72) rfl rfl rfl rfl ?_
  refine q_aldT (tag := 0) (v := 91) (p2 := 73) rfl hB (by omega) (by omega) hc1 rfl ?_
  refine q_callr (xs := [(0, 91, 0)]) (p2 := 74) rfl rfl rfl rfl (fun _ _ => rfl) rfl (zc_a_146_91 ) (Nat.le_refl _) (Nat.le_refl _) rfl ?_
  refine q_store (loc2 := [(6, 2, 0), (6, 1, 0), (0, le, 0), (0, p, 0), (0, x2, 0), (0, x3, 0), (0, 75, 0)]) (p2 := 75) rfl rfl rfl rfl rfl ?_
  refine q_load (v := (0, 75, 0)) (p2 := 76) rfl rfl rfl rfl ?_
  refine q_const (p2 := 77) rfl rfl ?_
  refine q_icmp_s (p2 := 78) rfl (by decide) (by omega) (by omega) rfl (fun _ => ?_) (fun hb => absurd (show ¬ (75 = 4) by omega) hb)
  refine q_load (v := (6, 2, 0)) (p2 := 81) rfl rfl rfl rfl ?_
  refine q_load (v := (0, 75, 0)) (p2 := 82) rfl rfl rfl rfl ?_
  refine q_load (v := (0, p, 0)) (p2 := 83) rfl rfl rfl rfl ?_
  refine q_const (p2 := 84) rfl rfl ?_
  refine q_callvE (xs := [(2, 0, 0), (0, p, 0), (0, 75, 0), (6, 2, 0)]) (p2 := 85) rfl rfl rfl rfl (x_rcv_s 2 hT.1) rfl (zc_t_add hT (by omega)) (Nat.le_refl _) (Nat.le_refl _) rfl (fun φ1 hR1 => ?_)
  obtain ⟨hs1_0, fr1⟩ := hR1
  refine q_const (p2 := 86) rfl rfl ?_
  exact q_retv (v := (0, 1, 0)) rfl rfl (⟨rfl, rfl, rfl, rfl, hs1_0, fun j hj0 hj1 hj2 hj3 => (fr1 j (by omega) (by omega) (by omega) (by omega))⟩)
theorem zc_sc_91b {d n sl : Nat} {φ : FH} {tot : Nat} {at_ : Nat} {cur : Nat} {pl : Nat} {va : Nat} {fa : Nat} {fp : Nat} {sf : Nat} {sp : Nat} {no : Nat} {op : Nat} {K : Nat → Nat} {P : Nat → Nat} {V : Nat → Nat} {p : Nat} {le : Nat} {x2 : Nat} {tp : Nat → Nat} (hT : zq_T φ tot at_ cur pl va fa fp sf sp no op K P V) (hB : zq_tp φ tp) (hc0 : le = p + 2 ∧ le ≤ 3000) (hc1 : tp p = 91) (hc2 : tot < 3002) (hc3 : tp (p + 1) = x2) : x_f x_P (d + 2) 88 [(6, 2, 0), (6, 1, 0), (0, le, 0), (0, p, 0), (11, 0, 0), (11, 0, 0), (11, 0, 0)] φ n sl (x_rR (0, 1, 0) n sl (fun φ2 => zq_T φ2 (tot + 1) at_ cur pl va fa fp sf sp no op (x_s K tot 75) (x_s P tot p) (x_s V tot 0) ∧ ∀ j, j ≠ 2 → j ≠ 4 → j ≠ 5 → j ≠ 6 → φ2 j = φ j)) := by
  refine x_f_of rfl ?_
  refine q_load (v := (6, 1, 0)) (p2 := 1) rfl rfl rfl rfl ?_
  refine q_load (v := (0, p, 0)) (p2 := 2) rfl rfl rfl rfl ?_
  refine q_aldT (tag := 0) (v := 91) (p2 := 3) rfl hB (by omega) (by omega) hc1 rfl ?_
  refine q_callr (xs := [(0, 91, 0)]) (p2 := 4) rfl rfl rfl rfl (fun _ _ => rfl) rfl (zc_a_141_91 ) (Nat.le_refl _) (Nat.le_refl _) rfl ?_
  refine q_if0_s (p2 := 5) rfl (by decide) (by omega) rfl (fun _ => ?_) (fun hb => absurd (show 0 = 0 by omega) hb)
  refine q_load (v := (6, 1, 0)) (p2 := 12) rfl rfl rfl rfl ?_
  refine q_load (v := (0, p, 0)) (p2 := 13) rfl rfl rfl rfl ?_
  refine q_aldT (tag := 0) (v := 91) (p2 := 14) rfl hB (by omega) (by omega) hc1 rfl ?_
  refine q_callr (xs := [(0, 91, 0)]) (p2 := 15) rfl rfl rfl rfl (fun _ _ => rfl) rfl (zc_a_143_91 ) (Nat.le_refl _) (Nat.le_refl _) rfl ?_
  refine q_if0_s (p2 := 16) rfl (by decide) (by omega) rfl (fun _ => ?_) (fun hb => absurd (show 0 = 0 by omega) hb)
  refine q_load (v := (0, p, 0)) (p2 := 23) rfl rfl rfl rfl ?_
  refine q_const (p2 := 24) rfl rfl ?_
  refine q_iaddz (z := p + 1) (p2 := 25) rfl (by omega) (by omega) rfl ?_
  refine q_load (v := (0, le, 0)) (p2 := 26) rfl rfl rfl rfl ?_
  refine q_icmp_s (p2 := 27) rfl (by decide) (by omega) (by omega) rfl (fun hb => absurd hb (show ¬ (¬ (p + 1 < le)) by omega)) (fun _ => ?_)
  refine q_load (v := (6, 1, 0)) (p2 := 28) rfl rfl rfl rfl ?_
  refine q_load (v := (0, p, 0)) (p2 := 29) rfl rfl rfl rfl ?_
  refine q_const (p2 := 30) rfl rfl ?_
  refine q_iaddz (z := p + 1) (p2 := 31) rfl (by omega) (by omega) rfl ?_
  refine q_aldT (tag := 0) (v := x2) (p2 := 32) rfl hB (by omega) (by omega) hc3 rfl ?_
  refine q_goto rfl ?_
  refine q_store (loc2 := [(6, 2, 0), (6, 1, 0), (0, le, 0), (0, p, 0), (0, x2, 0), (11, 0, 0), (11, 0, 0)]) (p2 := 35) rfl rfl rfl rfl rfl ?_
  refine q_load (v := (0, p, 0)) (p2 := 36) rfl rfl rfl rfl ?_
  refine q_const (p2 := 37) rfl rfl ?_
  refine q_iaddz (z := p + 2) (p2 := 38) rfl (by omega) (by omega) rfl ?_
  refine q_load (v := (0, le, 0)) (p2 := 39) rfl rfl rfl rfl ?_
  refine q_icmp_s (p2 := 40) rfl (by decide) (by omega) (by omega) rfl (fun _ => ?_) (fun hb => absurd (show ¬ (p + 2 < le) by omega) hb)
  refine q_const (p2 := 47) rfl rfl ?_
  refine q_store (loc2 := [(6, 2, 0), (6, 1, 0), (0, le, 0), (0, p, 0), (0, x2, 0), (0, 0, 0), (11, 0, 0)]) (p2 := 48) rfl rfl rfl rfl rfl ?_
  refine q_load (v := (6, 1, 0)) (p2 := 49) rfl rfl rfl rfl ?_
  refine q_load (v := (0, p, 0)) (p2 := 50) rfl rfl rfl rfl ?_
  refine q_aldT (tag := 0) (v := 91) (p2 := 51) rfl hB (by omega) (by omega) hc1 rfl ?_
  refine q_load (v := (0, x2, 0)) (p2 := 52) rfl rfl rfl rfl ?_
  refine q_load (v := (0, 0, 0)) (p2 := 53) rfl rfl rfl rfl ?_
  refine q_callr (xs := [(0, 0, 0), (0, x2, 0), (0, 91, 0)]) (p2 := 54) rfl rfl rfl rfl (fun _ _ => rfl) rfl (zc_ls_91 ) (Nat.le_refl _) (Nat.le_refl _) rfl ?_
  refine q_store (loc2 := [(6, 2, 0), (6, 1, 0), (0, le, 0), (0, p, 0), (0, x2, 0), (0, 0, 0), (0, 4, 0)]) (p2 := 55) rfl rfl rfl rfl rfl ?_
  refine q_load (v := (0, 4, 0)) (p2 := 56) rfl rfl rfl rfl ?_
  refine q_const (p2 := 57) rfl rfl ?_
  refine q_icmp_s (p2 := 58) rfl (by decide) (by omega) (by omega) rfl (fun _ => ?_) (fun hb => absurd (show 4 = 4 by omega) hb)
  refine q_load (v := (6, 1, 0)) (p2 := 71) rfl rfl rfl rfl ?_
  refine q_load (v := (0, p, 0)) (p2 := 72) rfl rfl rfl rfl ?_
  refine q_aldT (tag := 0) (v := 91) (p2 := 73) rfl hB (by omega) (by omega) hc1 rfl ?_
  refine q_callr (xs := [(0, 91, 0)]) (p2 := 74) rfl rfl rfl rfl (fun _ _ => rfl) rfl (zc_a_146_91 ) (Nat.le_refl _) (Nat.le_refl _) rfl ?_
  refine q_store (loc2 := [(6, 2, 0), (6, 1, 0), (0, le, 0), (0, p, 0), (0, x2, 0), (0, 0, 0), (0, 75, 0)]) (p2 := 75) rfl rfl rfl rfl rfl ?_
  refine q_load (v := (0, 75, 0)) (p2 := 76) rfl rfl rfl rfl ?_
  refine q_const (p2 := 77) rfl rfl ?_
  refine q_icmp_s (p2 := 78) rfl (by decide) (by omega) (by omega) rfl (fun _ => ?_) (fun hb => absurd (show ¬ (75 = 4) by omega) hb)
  refine q_load (v := (6, 2, 0)) (p2 := 81) rfl rfl rfl rfl ?_
  refine q_load (v := (0, 75, 0)) (p2 := 82) rfl rfl rfl rfl ?_
  refine q_load (v := (0, p, 0)) (p2 := 83) rfl rfl rfl rfl ?_
  refine q_const (p2 := 84) rfl rfl ?_
  refine q_callvE (xs := [(2, 0, 0), (0, p, 0), (0, 75, 0), (6, 2, 0)]) (p2 := 85) rfl rfl rfl rfl (x_rcv_s 2 hT.1) rfl (zc_t_add hT (by omega)) (Nat.le_refl _) (Nat.le_refl _) rfl (fun φ1 hR1 => ?_)
  obtain ⟨hs1_0, fr1⟩ := hR1
  refine q_const (p2 := 86) rfl rfl ?_
  exact q_retv (v := (0, 1, 0)) rfl rfl (⟨rfl, rfl, rfl, rfl, hs1_0, fun j hj0 hj1 hj2 hj3 => (fr1 j (by omega) (by omega) (by omega) (by omega))⟩)
theorem zc_sc_91c {d n sl : Nat} {φ : FH} {tot : Nat} {at_ : Nat} {cur : Nat} {pl : Nat} {va : Nat} {fa : Nat} {fp : Nat} {sf : Nat} {sp : Nat} {no : Nat} {op : Nat} {K : Nat → Nat} {P : Nat → Nat} {V : Nat → Nat} {p : Nat} {le : Nat} {tp : Nat → Nat} (hT : zq_T φ tot at_ cur pl va fa fp sf sp no op K P V) (hB : zq_tp φ tp) (hc0 : le = p + 1 ∧ le ≤ 3000) (hc1 : tp p = 91) (hc2 : tot < 3002) : x_f x_P (d + 2) 88 [(6, 2, 0), (6, 1, 0), (0, le, 0), (0, p, 0), (11, 0, 0), (11, 0, 0), (11, 0, 0)] φ n sl (x_rR (0, 1, 0) n sl (fun φ2 => zq_T φ2 (tot + 1) at_ cur pl va fa fp sf sp no op (x_s K tot 75) (x_s P tot p) (x_s V tot 0) ∧ ∀ j, j ≠ 2 → j ≠ 4 → j ≠ 5 → j ≠ 6 → φ2 j = φ j)) := by
  refine x_f_of rfl ?_
  refine q_load (v := (6, 1, 0)) (p2 := 1) rfl rfl rfl rfl ?_
  refine q_load (v := (0, p, 0)) (p2 := 2) rfl rfl rfl rfl ?_
  refine q_aldT (tag := 0) (v := 91) (p2 := 3) rfl hB (by omega) (by omega) hc1 rfl ?_
  refine q_callr (xs := [(0, 91, 0)]) (p2 := 4) rfl rfl rfl rfl (fun _ _ => rfl) rfl (zc_a_141_91 ) (Nat.le_refl _) (Nat.le_refl _) rfl ?_
  refine q_if0_s (p2 := 5) rfl (by decide) (by omega) rfl (fun _ => ?_) (fun hb => absurd (show 0 = 0 by omega) hb)
  refine q_load (v := (6, 1, 0)) (p2 := 12) rfl rfl rfl rfl ?_
  refine q_load (v := (0, p, 0)) (p2 := 13) rfl rfl rfl rfl ?_
  refine q_aldT (tag := 0) (v := 91) (p2 := 14) rfl hB (by omega) (by omega) hc1 rfl ?_
  refine q_callr (xs := [(0, 91, 0)]) (p2 := 15) rfl rfl rfl rfl (fun _ _ => rfl) rfl (zc_a_143_91 ) (Nat.le_refl _) (Nat.le_refl _) rfl ?_
  refine q_if0_s (p2 := 16) rfl (by decide) (by omega) rfl (fun _ => ?_) (fun hb => absurd (show 0 = 0 by omega) hb)
  refine q_load (v := (0, p, 0)) (p2 := 23) rfl rfl rfl rfl ?_
  refine q_const (p2 := 24) rfl rfl ?_
  refine q_iaddz (z := p + 1) (p2 := 25) rfl (by omega) (by omega) rfl ?_
  refine q_load (v := (0, le, 0)) (p2 := 26) rfl rfl rfl rfl ?_
  refine q_icmp_s (p2 := 27) rfl (by decide) (by omega) (by omega) rfl (fun _ => ?_) (fun hb => absurd (show ¬ (p + 1 < le) by omega) hb)
  refine q_const (p2 := 34) rfl rfl ?_
  refine q_store (loc2 := [(6, 2, 0), (6, 1, 0), (0, le, 0), (0, p, 0), (0, 0, 0), (11, 0, 0), (11, 0, 0)]) (p2 := 35) rfl rfl rfl rfl rfl ?_
  refine q_load (v := (0, p, 0)) (p2 := 36) rfl rfl rfl rfl ?_
  refine q_const (p2 := 37) rfl rfl ?_
  refine q_iaddz (z := p + 2) (p2 := 38) rfl (by omega) (by omega) rfl ?_
  refine q_load (v := (0, le, 0)) (p2 := 39) rfl rfl rfl rfl ?_
  refine q_icmp_s (p2 := 40) rfl (by decide) (by omega) (by omega) rfl (fun _ => ?_) (fun hb => absurd (show ¬ (p + 2 < le) by omega) hb)
  refine q_const (p2 := 47) rfl rfl ?_
  refine q_store (loc2 := [(6, 2, 0), (6, 1, 0), (0, le, 0), (0, p, 0), (0, 0, 0), (0, 0, 0), (11, 0, 0)]) (p2 := 48) rfl rfl rfl rfl rfl ?_
  refine q_load (v := (6, 1, 0)) (p2 := 49) rfl rfl rfl rfl ?_
  refine q_load (v := (0, p, 0)) (p2 := 50) rfl rfl rfl rfl ?_
  refine q_aldT (tag := 0) (v := 91) (p2 := 51) rfl hB (by omega) (by omega) hc1 rfl ?_
  refine q_load (v := (0, 0, 0)) (p2 := 52) rfl rfl rfl rfl ?_
  refine q_load (v := (0, 0, 0)) (p2 := 53) rfl rfl rfl rfl ?_
  refine q_callr (xs := [(0, 0, 0), (0, 0, 0), (0, 91, 0)]) (p2 := 54) rfl rfl rfl rfl (fun _ _ => rfl) rfl (zc_ls_91 ) (Nat.le_refl _) (Nat.le_refl _) rfl ?_
  refine q_store (loc2 := [(6, 2, 0), (6, 1, 0), (0, le, 0), (0, p, 0), (0, 0, 0), (0, 0, 0), (0, 4, 0)]) (p2 := 55) rfl rfl rfl rfl rfl ?_
  refine q_load (v := (0, 4, 0)) (p2 := 56) rfl rfl rfl rfl ?_
  refine q_const (p2 := 57) rfl rfl ?_
  refine q_icmp_s (p2 := 58) rfl (by decide) (by omega) (by omega) rfl (fun _ => ?_) (fun hb => absurd (show 4 = 4 by omega) hb)
  refine q_load (v := (6, 1, 0)) (p2 := 71) rfl rfl rfl rfl ?_
  refine q_load (v := (0, p, 0)) (p2 := 72) rfl rfl rfl rfl ?_
  refine q_aldT (tag := 0) (v := 91) (p2 := 73) rfl hB (by omega) (by omega) hc1 rfl ?_
  refine q_callr (xs := [(0, 91, 0)]) (p2 := 74) rfl rfl rfl rfl (fun _ _ => rfl) rfl (zc_a_146_91 ) (Nat.le_refl _) (Nat.le_refl _) rfl ?_
  refine q_store (loc2 := [(6, 2, 0), (6, 1, 0), (0, le, 0), (0, p, 0), (0, 0, 0), (0, 0, 0), (0, 75, 0)]) (p2 := 75) rfl rfl rfl rfl rfl ?_
  refine q_load (v := (0, 75, 0)) (p2 := 76) rfl rfl rfl rfl ?_
  refine q_const (p2 := 77) rfl rfl ?_
  refine q_icmp_s (p2 := 78) rfl (by decide) (by omega) (by omega) rfl (fun _ => ?_) (fun hb => absurd (show ¬ (75 = 4) by omega) hb)
  refine q_load (v := (6, 2, 0)) (p2 := 81) rfl rfl rfl rfl ?_
  refine q_load (v := (0, 75, 0)) (p2 := 82) rfl rfl rfl rfl ?_
  refine q_load (v := (0, p, 0)) (p2 := 83) rfl rfl rfl rfl ?_
  refine q_const (p2 := 84) rfl rfl ?_
  refine q_callvE (xs := [(2, 0, 0), (0, p, 0), (0, 75, 0), (6, 2, 0)]) (p2 := 85) rfl rfl rfl rfl (x_rcv_s 2 hT.1) rfl (zc_t_add hT (by omega)) (Nat.le_refl _) (Nat.le_refl _) rfl (fun φ1 hR1 => ?_)
  obtain ⟨hs1_0, fr1⟩ := hR1
  refine q_const (p2 := 86) rfl rfl ?_
  exact q_retv (v := (0, 1, 0)) rfl rfl (⟨rfl, rfl, rfl, rfl, hs1_0, fun j hj0 hj1 hj2 hj3 => (fr1 j (by omega) (by omega) (by omega) (by omega))⟩)
theorem zc_a_141_93 {d n sl : Nat} {φ : FH}    : x_f x_P (d + 1) 141 [(0, 93, 0)] φ n sl (x_r φ n sl (0, 0, 0)) := by
  refine x_f_of rfl ?_
  refine q_load (v := (0, 93, 0)) (p2 := 1) rfl rfl rfl rfl ?_
  refine q_const (p2 := 2) rfl rfl ?_
  refine q_icmp_s (p2 := 3) rfl (by decide) (by omega) (by omega) rfl (fun _ => ?_) (fun hb => absurd (show 93 < 97 by omega) hb)
  refine q_const (p2 := 9) rfl rfl ?_
  exact q_retv (v := (0, 0, 0)) rfl rfl (⟨rfl, rfl, rfl, rfl, rfl⟩)
theorem zc_a_143_93 {d n sl : Nat} {φ : FH}    : x_f x_P (d + 1) 143 [(0, 93, 0)] φ n sl (x_r φ n sl (0, 0, 0)) := by
  refine x_f_of rfl ?_
  refine q_load (v := (0, 93, 0)) (p2 := 1) rfl rfl rfl rfl ?_
  refine q_const (p2 := 2) rfl rfl ?_
  refine q_icmp_s (p2 := 3) rfl (by decide) (by omega) (by omega) rfl (fun hb => absurd hb (show ¬ (93 < 48) by omega)) (fun _ => ?_)
  refine q_load (v := (0, 93, 0)) (p2 := 4) rfl rfl rfl rfl ?_
  refine q_const (p2 := 5) rfl rfl ?_
  refine q_icmp_s (p2 := 6) rfl (by decide) (by omega) (by omega) rfl (fun _ => ?_) (fun hb => absurd (show 57 < 93 by omega) hb)
  refine q_const (p2 := 9) rfl rfl ?_
  exact q_retv (v := (0, 0, 0)) rfl rfl (⟨rfl, rfl, rfl, rfl, rfl⟩)
theorem zc_a_146_93 {d n sl : Nat} {φ : FH}    : x_f x_P (d + 1) 146 [(0, 93, 0)] φ n sl (x_r φ n sl (0, 76, 0)) := by
  refine x_f_of rfl ?_
  refine q_load (v := (0, 93, 0)) (p2 := 1) rfl rfl rfl rfl ?_
  refine q_switch (tgt := 24) rfl (by decide) rfl ?_
  refine q_const (p2 := 25) rfl rfl ?_
  exact q_retv (v := (0, 76, 0)) rfl rfl (⟨rfl, rfl, rfl, rfl, rfl⟩)
theorem zc_sc_93a {d n sl : Nat} {φ : FH} {tot : Nat} {at_ : Nat} {cur : Nat} {pl : Nat} {va : Nat} {fa : Nat} {fp : Nat} {sf : Nat} {sp : Nat} {no : Nat} {op : Nat} {K : Nat → Nat} {P : Nat → Nat} {V : Nat → Nat} {p : Nat} {le : Nat} {x2 : Nat} {x3 : Nat} {tp : Nat → Nat} (hT : zq_T φ tot at_ cur pl va fa fp sf sp no op K P V) (hB : zq_tp φ tp) (hc0 : p + 2 < le ∧ le ≤ 3000) (hc1 : tp p = 93) (hc2 : tot < 3002) (hc3 : tp (p + 1) = x2) (hc4 : tp (p + 2) = x3) : x_f x_P (d + 2) 88 [(6, 2, 0), (6, 1, 0), (0, le, 0), (0, p, 0), (11, 0, 0), (11, 0, 0), (11, 0, 0)] φ n sl (x_rR (0, 1, 0) n sl (fun φ2 => zq_T φ2 (tot + 1) at_ cur pl va fa fp sf sp no op (x_s K tot 76) (x_s P tot p) (x_s V tot 0) ∧ ∀ j, j ≠ 2 → j ≠ 4 → j ≠ 5 → j ≠ 6 → φ2 j = φ j)) := by
  refine x_f_of rfl ?_
  refine q_load (v := (6, 1, 0)) (p2 := 1) rfl rfl rfl rfl ?_
  refine q_load (v := (0, p, 0)) (p2 := 2) rfl rfl rfl rfl ?_
  refine q_aldT (tag := 0) (v := 93) (p2 := 3) rfl hB (by omega) (by omega) hc1 rfl ?_
  refine q_callr (xs := [(0, 93, 0)]) (p2 := 4) rfl rfl rfl rfl (fun _ _ => rfl) rfl (zc_a_141_93 ) (Nat.le_refl _) (Nat.le_refl _) rfl ?_
  refine q_if0_s (p2 := 5) rfl (by decide) (by omega) rfl (fun _ => ?_) (fun hb => absurd (show 0 = 0 by omega) hb)
  refine q_load (v := (6, 1, 0)) (p2 := 12) rfl rfl rfl rfl ?_
  refine q_load (v := (0, p, 0)) (p2 := 13) rfl rfl rfl rfl ?_
  refine q_aldT (tag := 0) (v := 93) (p2 := 14) rfl hB (by omega) (by omega) hc1 rfl ?_
  refine q_callr (xs := [(0, 93, 0)]) (p2 := 15) rfl rfl rfl rfl (fun _ _ => rfl) rfl (zc_a_143_93 ) (Nat.le_refl _) (Nat.le_refl _) rfl ?_
  refine q_if0_s (p2 := 16) rfl (by decide) (by omega) rfl (fun _ => ?_) (fun hb => absurd (show 0 = 0 by omega) hb)
  refine q_load (v := (0, p, 0)) (p2 := 23) rfl rfl rfl rfl ?_
  refine q_const (p2 := 24) rfl rfl ?_
  refine q_iaddz (z := p + 1) (p2 := 25) rfl (by omega) (by omega) rfl ?_
  refine q_load (v := (0, le, 0)) (p2 := 26) rfl rfl rfl rfl ?_
  refine q_icmp_s (p2 := 27) rfl (by decide) (by omega) (by omega) rfl (fun hb => absurd hb (show ¬ (¬ (p + 1 < le)) by omega)) (fun _ => ?_)
  refine q_load (v := (6, 1, 0)) (p2 := 28) rfl rfl rfl rfl ?_
  refine q_load (v := (0, p, 0)) (p2 := 29) rfl rfl rfl rfl ?_
  refine q_const (p2 := 30) rfl rfl ?_
  refine q_iaddz (z := p + 1) (p2 := 31) rfl (by omega) (by omega) rfl ?_
  refine q_aldT (tag := 0) (v := x2) (p2 := 32) rfl hB (by omega) (by omega) hc3 rfl ?_
  refine q_goto rfl ?_
  refine q_store (loc2 := [(6, 2, 0), (6, 1, 0), (0, le, 0), (0, p, 0), (0, x2, 0), (11, 0, 0), (11, 0, 0)]) (p2 := 35) rfl rfl rfl rfl rfl ?_
  refine q_load (v := (0, p, 0)) (p2 := 36) rfl rfl rfl rfl ?_
  refine q_const (p2 := 37) rfl rfl ?_
  refine q_iaddz (z := p + 2) (p2 := 38) rfl (by omega) (by omega) rfl ?_
  refine q_load (v := (0, le, 0)) (p2 := 39) rfl rfl rfl rfl ?_
  refine q_icmp_s (p2 := 40) rfl (by decide) (by omega) (by omega) rfl (fun hb => absurd hb (show ¬ (¬ (p + 2 < le)) by omega)) (fun _ => ?_)
  refine q_load (v := (6, 1, 0)) (p2 := 41) rfl rfl rfl rfl ?_
  refine q_load (v := (0, p, 0)) (p2 := 42) rfl rfl rfl rfl ?_
  refine q_const (p2 := 43) rfl rfl ?_
  refine q_iaddz (z := p + 2) (p2 := 44) rfl (by omega) (by omega) rfl ?_
  refine q_aldT (tag := 0) (v := x3) (p2 := 45) rfl hB (by omega) (by omega) hc4 rfl ?_
  refine q_goto rfl ?_
  refine q_store (loc2 := [(6, 2, 0), (6, 1, 0), (0, le, 0), (0, p, 0), (0, x2, 0), (0, x3, 0), (11, 0, 0)]) (p2 := 48) rfl rfl rfl rfl rfl ?_
  refine q_load (v := (6, 1, 0)) (p2 := 49) rfl rfl rfl rfl ?_
  refine q_load (v := (0, p, 0)) (p2 := 50) rfl rfl rfl rfl ?_
  refine q_aldT (tag := 0) (v := 93) (p2 := 51) rfl hB (by omega) (by omega) hc1 rfl ?_
  refine q_load (v := (0, x2, 0)) (p2 := 52) rfl rfl rfl rfl ?_
  refine q_load (v := (0, x3, 0)) (p2 := 53) rfl rfl rfl rfl ?_
  refine q_callr (xs := [(0, x3, 0), (0, x2, 0), (0, 93, 0)]) (p2 := 54) rfl rfl rfl rfl (fun _ _ => rfl) rfl (zc_ls_93 ) (Nat.le_refl _) (Nat.le_refl _) rfl ?_
  refine q_store (loc2 := [(6, 2, 0), (6, 1, 0), (0, le, 0), (0, p, 0), (0, x2, 0), (0, x3, 0), (0, 4, 0)]) (p2 := 55) rfl rfl rfl rfl rfl ?_
  refine q_load (v := (0, 4, 0)) (p2 := 56) rfl rfl rfl rfl ?_
  refine q_const (p2 := 57) rfl rfl ?_
  refine q_icmp_s (p2 := 58) rfl (by decide) (by omega) (by omega) rfl (fun _ => ?_) (fun hb => absurd (show 4 = 4 by omega) hb)
  refine q_load (v := (6, 1, 0)) (p2 := 71) rfl rfl rfl rfl ?_
  refine q_load (v := (0, p, 0)) (p2 := 72) rfl rfl rfl rfl ?_
  refine q_aldT (tag := 0) (v := 93) (p2 := 73) rfl hB (by omega) (by omega) hc1 rfl ?_
  refine q_callr (xs := [(0, 93, 0)]) (p2 := 74) rfl rfl rfl rfl (fun _ _ => rfl) rfl (zc_a_146_93 ) (Nat.le_refl _) (Nat.le_refl _) rfl ?_
  refine q_store (loc2 := [(6, 2, 0), (6, 1, 0), (0, le, 0), (0, p, 0), (0, x2, 0), (0, x3, 0), (0, 76, 0)]) (p2 := 75) rfl rfl rfl rfl rfl ?_
  refine q_load (v := (0, 76, 0)) (p2 := 76) rfl rfl rfl rfl ?_
  refine q_const (p2 := 77) rfl rfl ?_
  refine q_icmp_s (p2 := 78) rfl (by decide) (by omega) (by omega) rfl (fun _ => ?_) (fun hb => absurd (show ¬ (76 = 4) by omega) hb)
  refine q_load (v := (6, 2, 0)) (p2 := 81) rfl rfl rfl rfl ?_
  refine q_load (v := (0, 76, 0)) (p2 := 82) rfl rfl rfl rfl ?_
  refine q_load (v := (0, p, 0)) (p2 := 83) rfl rfl rfl rfl ?_
  refine q_const (p2 := 84) rfl rfl ?_
  refine q_callvE (xs := [(2, 0, 0), (0, p, 0), (0, 76, 0), (6, 2, 0)]) (p2 := 85) rfl rfl rfl rfl (x_rcv_s 2 hT.1) rfl (zc_t_add hT (by omega)) (Nat.le_refl _) (Nat.le_refl _) rfl (fun φ1 hR1 => ?_)
  obtain ⟨hs1_0, fr1⟩ := hR1
  refine q_const (p2 := 86) rfl rfl ?_
  exact q_retv (v := (0, 1, 0)) rfl rfl (⟨rfl, rfl, rfl, rfl, hs1_0, fun j hj0 hj1 hj2 hj3 => (fr1 j (by omega) (by omega) (by omega) (by omega))⟩)
theorem zc_sc_93b {d n sl : Nat} {φ : FH} {tot : Nat} {at_ : Nat} {cur : Nat} {pl : Nat} {va : Nat} {fa : Nat} {fp : Nat} {sf : Nat} {sp : Nat} {no : Nat} {op : Nat} {K : Nat → Nat} {P : Nat → Nat} {V : Nat → Nat} {p : Nat} {le : Nat} {x2 : Nat} {tp : Nat → Nat} (hT : zq_T φ tot at_ cur pl va fa fp sf sp no op K P V) (hB : zq_tp φ tp) (hc0 : le = p + 2 ∧ le ≤ 3000) (hc1 : tp p = 93) (hc2 : tot < 3002) (hc3 : tp (p + 1) = x2) : x_f x_P (d + 2) 88 [(6, 2, 0), (6, 1, 0), (0, le, 0), (0, p, 0), (11, 0, 0), (11, 0, 0), (11, 0, 0)] φ n sl (x_rR (0, 1, 0) n sl (fun φ2 => zq_T φ2 (tot + 1) at_ cur pl va fa fp sf sp no op (x_s K tot 76) (x_s P tot p) (x_s V tot 0) ∧ ∀ j, j ≠ 2 → j ≠ 4 → j ≠ 5 → j ≠ 6 → φ2 j = φ j)) := by
  refine x_f_of rfl ?_
  refine q_load (v := (6, 1, 0)) (p2 := 1) rfl rfl rfl rfl ?_
  refine q_load (v := (0, p, 0)) (p2 := 2) rfl rfl rfl rfl ?_
  refine q_aldT (tag := 0) (v := 93) (p2 := 3) rfl hB (by omega) (by omega) hc1 rfl ?_
  refine q_callr (xs := [(0, 93, 0)]) (p2 := 4) rfl rfl rfl rfl (fun _ _ => rfl) rfl (zc_a_141_93 ) (Nat.le_refl _) (Nat.le_refl _) rfl ?_
  refine q_if0_s (p2 := 5) rfl (by decide) (by omega) rfl (fun _ => ?_) (fun hb => absurd (show 0 = 0 by omega) hb)
  refine q_load (v := (6, 1, 0)) (p2 := 12) rfl rfl rfl rfl ?_
  refine q_load (v := (0, p, 0)) (p2 := 13) rfl rfl rfl rfl ?_
  refine q_aldT (tag := 0) (v := 93) (p2 := 14) rfl hB (by omega) (by omega) hc1 rfl ?_
  refine q_callr (xs := [(0, 93, 0)]) (p2 := 15) rfl rfl rfl rfl (fun _ _ => rfl) rfl (zc_a_143_93 ) (Nat.le_refl _) (Nat.le_refl _) rfl ?_
  refine q_if0_s (p2 := 16) rfl (by decide) (by omega) rfl (fun _ => ?_) (fun hb => absurd (show 0 = 0 by omega) hb)
  refine q_load (v := (0, p, 0)) (p2 := 23) rfl rfl rfl rfl ?_
  refine q_const (p2 := 24) rfl rfl ?_
  refine q_iaddz (z := p + 1) (p2 := 25) rfl (by omega) (by omega) rfl ?_
  refine q_load (v := (0, le, 0)) (p2 := 26) rfl rfl rfl rfl ?_
  refine q_icmp_s (p2 := 27) rfl (by decide) (by omega) (by omega) rfl (fun hb => absurd hb (show ¬ (¬ (p + 1 < le)) by omega)) (fun _ => ?_)
  refine q_load (v := (6, 1, 0)) (p2 := 28) rfl rfl rfl rfl ?_
  refine q_load (v := (0, p, 0)) (p2 := 29) rfl rfl rfl rfl ?_
  refine q_const (p2 := 30) rfl rfl ?_
  refine q_iaddz (z := p + 1) (p2 := 31) rfl (by omega) (by omega) rfl ?_
  refine q_aldT (tag := 0) (v := x2) (p2 := 32) rfl hB (by omega) (by omega) hc3 rfl ?_
  refine q_goto rfl ?_
  refine q_store (loc2 := [(6, 2, 0), (6, 1, 0), (0, le, 0), (0, p, 0), (0, x2, 0), (11, 0, 0), (11, 0, 0)]) (p2 := 35) rfl rfl rfl rfl rfl ?_
  refine q_load (v := (0, p, 0)) (p2 := 36) rfl rfl rfl rfl ?_
  refine q_const (p2 := 37) rfl rfl ?_
  refine q_iaddz (z := p + 2) (p2 := 38) rfl (by omega) (by omega) rfl ?_
  refine q_load (v := (0, le, 0)) (p2 := 39) rfl rfl rfl rfl ?_
  refine q_icmp_s (p2 := 40) rfl (by decide) (by omega) (by omega) rfl (fun _ => ?_) (fun hb => absurd (show ¬ (p + 2 < le) by omega) hb)
  refine q_const (p2 := 47) rfl rfl ?_
  refine q_store (loc2 := [(6, 2, 0), (6, 1, 0), (0, le, 0), (0, p, 0), (0, x2, 0), (0, 0, 0), (11, 0, 0)]) (p2 := 48) rfl rfl rfl rfl rfl ?_
  refine q_load (v := (6, 1, 0)) (p2 := 49) rfl rfl rfl rfl ?_
  refine q_load (v := (0, p, 0)) (p2 := 50) rfl rfl rfl rfl ?_
  refine q_aldT (tag := 0) (v := 93) (p2 := 51) rfl hB (by omega) (by omega) hc1 rfl ?_
  refine q_load (v := (0, x2, 0)) (p2 := 52) rfl rfl rfl rfl ?_
  refine q_load (v := (0, 0, 0)) (p2 := 53) rfl rfl rfl rfl ?_
  refine q_callr (xs := [(0, 0, 0), (0, x2, 0), (0, 93, 0)]) (p2 := 54) rfl rfl rfl rfl (fun _ _ => rfl) rfl (zc_ls_93 ) (Nat.le_refl _) (Nat.le_refl _) rfl ?_
  refine q_store (loc2 := [(6, 2, 0), (6, 1, 0), (0, le, 0), (0, p, 0), (0, x2, 0), (0, 0, 0), (0, 4, 0)]) (p2 := 55) rfl rfl rfl rfl rfl ?_
  refine q_load (v := (0, 4, 0)) (p2 := 56) rfl rfl rfl rfl ?_
  refine q_const (p2 := 57) rfl rfl ?_
  refine q_icmp_s (p2 := 58) rfl (by decide) (by omega) (by omega) rfl (fun _ => ?_) (fun hb => absurd (show 4 = 4 by omega) hb)
  refine q_load (v := (6, 1, 0)) (p2 := 71) rfl rfl rfl rfl ?_
  refine q_load (v := (0, p, 0)) (p2 := 72) rfl rfl rfl rfl ?_
  refine q_aldT (tag := 0) (v := 93) (p2 := 73) rfl hB (by omega) (by omega) hc1 rfl ?_
  refine q_callr (xs := [(0, 93, 0)]) (p2 := 74) rfl rfl rfl rfl (fun _ _ => rfl) rfl (zc_a_146_93 ) (Nat.le_refl _) (Nat.le_refl _) rfl ?_
  refine q_store (loc2 := [(6, 2, 0), (6, 1, 0), (0, le, 0), (0, p, 0), (0, x2, 0), (0, 0, 0), (0, 76, 0)]) (p2 := 75) rfl rfl rfl rfl rfl ?_
  refine q_load (v := (0, 76, 0)) (p2 := 76) rfl rfl rfl rfl ?_
  refine q_const (p2 := 77) rfl rfl ?_
  refine q_icmp_s (p2 := 78) rfl (by decide) (by omega) (by omega) rfl (fun _ => ?_) (fun hb => absurd (show ¬ (76 = 4) by omega) hb)
  refine q_load (v := (6, 2, 0)) (p2 := 81) rfl rfl rfl rfl ?_
  refine q_load (v := (0, 76, 0)) (p2 := 82) rfl rfl rfl rfl ?_
  refine q_load (v := (0, p, 0)) (p2 := 83) rfl rfl rfl rfl ?_
  refine q_const (p2 := 84) rfl rfl ?_
  refine q_callvE (xs := [(2, 0, 0), (0, p, 0), (0, 76, 0), (6, 2, 0)]) (p2 := 85) rfl rfl rfl rfl (x_rcv_s 2 hT.1) rfl (zc_t_add hT (by omega)) (Nat.le_refl _) (Nat.le_refl _) rfl (fun φ1 hR1 => ?_)
  obtain ⟨hs1_0, fr1⟩ := hR1
  refine q_const (p2 := 86) rfl rfl ?_
  exact q_retv (v := (0, 1, 0)) rfl rfl (⟨rfl, rfl, rfl, rfl, hs1_0, fun j hj0 hj1 hj2 hj3 => (fr1 j (by omega) (by omega) (by omega) (by omega))⟩)
theorem zc_sc_93c {d n sl : Nat} {φ : FH} {tot : Nat} {at_ : Nat} {cur : Nat} {pl : Nat} {va : Nat} {fa : Nat} {fp : Nat} {sf : Nat} {sp : Nat} {no : Nat} {op : Nat} {K : Nat → Nat} {P : Nat → Nat} {V : Nat → Nat} {p : Nat} {le : Nat} {tp : Nat → Nat} (hT : zq_T φ tot at_ cur pl va fa fp sf sp no op K P V) (hB : zq_tp φ tp) (hc0 : le = p + 1 ∧ le ≤ 3000) (hc1 : tp p = 93) (hc2 : tot < 3002) : x_f x_P (d + 2) 88 [(6, 2, 0), (6, 1, 0), (0, le, 0), (0, p, 0), (11, 0, 0), (11, 0, 0), (11, 0, 0)] φ n sl (x_rR (0, 1, 0) n sl (fun φ2 => zq_T φ2 (tot + 1) at_ cur pl va fa fp sf sp no op (x_s K tot 76) (x_s P tot p) (x_s V tot 0) ∧ ∀ j, j ≠ 2 → j ≠ 4 → j ≠ 5 → j ≠ 6 → φ2 j = φ j)) := by
  refine x_f_of rfl ?_
  refine q_load (v := (6, 1, 0)) (p2 := 1) rfl rfl rfl rfl ?_
  refine q_load (v := (0, p, 0)) (p2 := 2) rfl rfl rfl rfl ?_
  refine q_aldT (tag := 0) (v := 93) (p2 := 3) rfl hB (by omega) (by omega) hc1 rfl ?_
  refine q_callr (xs := [(0, 93, 0)]) (p2 := 4) rfl rfl rfl rfl (fun _ _ => rfl) rfl (zc_a_141_93 ) (Nat.le_refl _) (Nat.le_refl _) rfl ?_
  refine q_if0_s (p2 := 5) rfl (by decide) (by omega) rfl (fun _ => ?_) (fun hb => absurd (show 0 = 0 by omega) hb)
  refine q_load (v := (6, 1, 0)) (p2 := 12) rfl rfl rfl rfl ?_
  refine q_load (v := (0, p, 0)) (p2 := 13) rfl rfl rfl rfl ?_
  refine q_aldT (tag := 0) (v := 93) (p2 := 14) rfl hB (by omega) (by omega) hc1 rfl ?_
  refine q_callr (xs := [(0, 93, 0)]) (p2 := 15) rfl rfl rfl rfl (fun _ _ => rfl) rfl (zc_a_143_93 ) (Nat.le_refl _) (Nat.le_refl _) rfl ?_
  refine q_if0_s (p2 := 16) rfl (by decide) (by omega) rfl (fun _ => ?_) (fun hb => absurd (show 0 = 0 by omega) hb)
  refine q_load (v := (0, p, 0)) (p2 := 23) rfl rfl rfl rfl ?_
  refine q_const (p2 := 24) rfl rfl ?_
  refine q_iaddz (z := p + 1) (p2 := 25) rfl (by omega) (by omega) rfl ?_
  refine q_load (v := (0, le, 0)) (p2 := 26) rfl rfl rfl rfl ?_
  refine q_icmp_s (p2 := 27) rfl (by decide) (by omega) (by omega) rfl (fun _ => ?_) (fun hb => absurd (show ¬ (p + 1 < le) by omega) hb)
  refine q_const (p2 := 34) rfl rfl ?_
  refine q_store (loc2 := [(6, 2, 0), (6, 1, 0), (0, le, 0), (0, p, 0), (0, 0, 0), (11, 0, 0), (11, 0, 0)]) (p2 := 35) rfl rfl rfl rfl rfl ?_
  refine q_load (v := (0, p, 0)) (p2 := 36) rfl rfl rfl rfl ?_
  refine q_const (p2 := 37) rfl rfl ?_
  refine q_iaddz (z := p + 2) (p2 := 38) rfl (by omega) (by omega) rfl ?_
  refine q_load (v := (0, le, 0)) (p2 := 39) rfl rfl rfl rfl ?_
  refine q_icmp_s (p2 := 40) rfl (by decide) (by omega) (by omega) rfl (fun _ => ?_) (fun hb => absurd (show ¬ (p + 2 < le) by omega) hb)
  refine q_const (p2 := 47) rfl rfl ?_
  refine q_store (loc2 := [(6, 2, 0), (6, 1, 0), (0, le, 0), (0, p, 0), (0, 0, 0), (0, 0, 0), (11, 0, 0)]) (p2 := 48) rfl rfl rfl rfl rfl ?_
  refine q_load (v := (6, 1, 0)) (p2 := 49) rfl rfl rfl rfl ?_
  refine q_load (v := (0, p, 0)) (p2 := 50) rfl rfl rfl rfl ?_
  refine q_aldT (tag := 0) (v := 93) (p2 := 51) rfl hB (by omega) (by omega) hc1 rfl ?_
  refine q_load (v := (0, 0, 0)) (p2 := 52) rfl rfl rfl rfl ?_
  refine q_load (v := (0, 0, 0)) (p2 := 53) rfl rfl rfl rfl ?_
  refine q_callr (xs := [(0, 0, 0), (0, 0, 0), (0, 93, 0)]) (p2 := 54) rfl rfl rfl rfl (fun _ _ => rfl) rfl (zc_ls_93 ) (Nat.le_refl _) (Nat.le_refl _) rfl ?_
  refine q_store (loc2 := [(6, 2, 0), (6, 1, 0), (0, le, 0), (0, p, 0), (0, 0, 0), (0, 0, 0), (0, 4, 0)]) (p2 := 55) rfl rfl rfl rfl rfl ?_
  refine q_load (v := (0, 4, 0)) (p2 := 56) rfl rfl rfl rfl ?_
  refine q_const (p2 := 57) rfl rfl ?_
  refine q_icmp_s (p2 := 58) rfl (by decide) (by omega) (by omega) rfl (fun _ => ?_) (fun hb => absurd (show 4 = 4 by omega) hb)
  refine q_load (v := (6, 1, 0)) (p2 := 71) rfl rfl rfl rfl ?_
  refine q_load (v := (0, p, 0)) (p2 := 72) rfl rfl rfl rfl ?_
  refine q_aldT (tag := 0) (v := 93) (p2 := 73) rfl hB (by omega) (by omega) hc1 rfl ?_
  refine q_callr (xs := [(0, 93, 0)]) (p2 := 74) rfl rfl rfl rfl (fun _ _ => rfl) rfl (zc_a_146_93 ) (Nat.le_refl _) (Nat.le_refl _) rfl ?_
  refine q_store (loc2 := [(6, 2, 0), (6, 1, 0), (0, le, 0), (0, p, 0), (0, 0, 0), (0, 0, 0), (0, 76, 0)]) (p2 := 75) rfl rfl rfl rfl rfl ?_
  refine q_load (v := (0, 76, 0)) (p2 := 76) rfl rfl rfl rfl ?_
  refine q_const (p2 := 77) rfl rfl ?_
  refine q_icmp_s (p2 := 78) rfl (by decide) (by omega) (by omega) rfl (fun _ => ?_) (fun hb => absurd (show ¬ (76 = 4) by omega) hb)
  refine q_load (v := (6, 2, 0)) (p2 := 81) rfl rfl rfl rfl ?_
  refine q_load (v := (0, 76, 0)) (p2 := 82) rfl rfl rfl rfl ?_
  refine q_load (v := (0, p, 0)) (p2 := 83) rfl rfl rfl rfl ?_
  refine q_const (p2 := 84) rfl rfl ?_
  refine q_callvE (xs := [(2, 0, 0), (0, p, 0), (0, 76, 0), (6, 2, 0)]) (p2 := 85) rfl rfl rfl rfl (x_rcv_s 2 hT.1) rfl (zc_t_add hT (by omega)) (Nat.le_refl _) (Nat.le_refl _) rfl (fun φ1 hR1 => ?_)
  obtain ⟨hs1_0, fr1⟩ := hR1
  refine q_const (p2 := 86) rfl rfl ?_
  exact q_retv (v := (0, 1, 0)) rfl rfl (⟨rfl, rfl, rfl, rfl, hs1_0, fun j hj0 hj1 hj2 hj3 => (fr1 j (by omega) (by omega) (by omega) (by omega))⟩)
theorem zc_a_141_44 {d n sl : Nat} {φ : FH}    : x_f x_P (d + 1) 141 [(0, 44, 0)] φ n sl (x_r φ n sl (0, 0, 0)) := by
  refine x_f_of rfl ?_
  refine q_load (v := (0, 44, 0)) (p2 := 1) rfl rfl rfl rfl ?_
  refine q_const (p2 := 2) rfl rfl ?_
  refine q_icmp_s (p2 := 3) rfl (by decide) (by omega) (by omega) rfl (fun _ => ?_) (fun hb => absurd (show 44 < 97 by omega) hb)
  refine q_const (p2 := 9) rfl rfl ?_
  exact q_retv (v := (0, 0, 0)) rfl rfl (⟨rfl, rfl, rfl, rfl, rfl⟩)
theorem zc_a_143_44 {d n sl : Nat} {φ : FH}    : x_f x_P (d + 1) 143 [(0, 44, 0)] φ n sl (x_r φ n sl (0, 0, 0)) := by
  refine x_f_of rfl ?_
  refine q_load (v := (0, 44, 0)) (p2 := 1) rfl rfl rfl rfl ?_
  refine q_const (p2 := 2) rfl rfl ?_
  refine q_icmp_s (p2 := 3) rfl (by decide) (by omega) (by omega) rfl (fun _ => ?_) (fun hb => absurd (show 44 < 48 by omega) hb)
  refine q_const (p2 := 9) rfl rfl ?_
  exact q_retv (v := (0, 0, 0)) rfl rfl (⟨rfl, rfl, rfl, rfl, rfl⟩)
theorem zc_a_146_44 {d n sl : Nat} {φ : FH}    : x_f x_P (d + 1) 146 [(0, 44, 0)] φ n sl (x_r φ n sl (0, 77, 0)) := by
  refine x_f_of rfl ?_
  refine q_load (v := (0, 44, 0)) (p2 := 1) rfl rfl rfl rfl ?_
  refine q_switch (tgt := 26) rfl (by decide) rfl ?_
  refine q_const (p2 := 27) rfl rfl ?_
  exact q_retv (v := (0, 77, 0)) rfl rfl (⟨rfl, rfl, rfl, rfl, rfl⟩)
theorem zc_sc_44a {d n sl : Nat} {φ : FH} {tot : Nat} {at_ : Nat} {cur : Nat} {pl : Nat} {va : Nat} {fa : Nat} {fp : Nat} {sf : Nat} {sp : Nat} {no : Nat} {op : Nat} {K : Nat → Nat} {P : Nat → Nat} {V : Nat → Nat} {p : Nat} {le : Nat} {x2 : Nat} {x3 : Nat} {tp : Nat → Nat} (hT : zq_T φ tot at_ cur pl va fa fp sf sp no op K P V) (hB : zq_tp φ tp) (hc0 : p + 2 < le ∧ le ≤ 3000) (hc1 : tp p = 44) (hc2 : tot < 3002) (hc3 : tp (p + 1) = x2) (hc4 : tp (p + 2) = x3) : x_f x_P (d + 2) 88 [(6, 2, 0), (6, 1, 0), (0, le, 0), (0, p, 0), (11, 0, 0), (11, 0, 0), (11, 0, 0)] φ n sl (x_rR (0, 1, 0) n sl (fun φ2 => zq_T φ2 (tot + 1) at_ cur pl va fa fp sf sp no op (x_s K tot 77) (x_s P tot p) (x_s V tot 0) ∧ ∀ j, j ≠ 2 → j ≠ 4 → j ≠ 5 → j ≠ 6 → φ2 j = φ j)) := by
  refine x_f_of rfl ?_
  refine q_load (v := (6, 1, 0)) (p2 := 1) rfl rfl rfl rfl ?_
  refine q_load (v := (0, p, 0)) (p2 := 2) rfl rfl rfl rfl ?_
  refine q_aldT (tag := 0) (v := 44) (p2 := 3) rfl hB (by omega) (by omega) hc1 rfl ?_
  refine q_callr (xs := [(0, 44, 0)]) (p2 := 4) rfl rfl rfl rfl (fun _ _ => rfl) rfl (zc_a_141_44 ) (Nat.le_refl _) (Nat.le_refl _) rfl ?_
  refine q_if0_s (p2 := 5) rfl (by decide) (by omega) rfl (fun _ => ?_) (fun hb => absurd (show 0 = 0 by omega) hb)
  refine q_load (v := (6, 1, 0)) (p2 := 12) rfl rfl rfl rfl ?_
  refine q_load (v := (0, p, 0)) (p2 := 13) rfl rfl rfl rfl ?_
  refine q_aldT (tag := 0) (v := 44) (p2 := 14) rfl hB (by omega) (by omega) hc1 rfl ?_
  refine q_callr (xs := [(0, 44, 0)]) (p2 := 15) rfl rfl rfl rfl (fun _ _ => rfl) rfl (zc_a_143_44 ) (Nat.le_refl _) (Nat.le_refl _) rfl ?_
  refine q_if0_s (p2 := 16) rfl (by decide) (by omega) rfl (fun _ => ?_) (fun hb => absurd (show 0 = 0 by omega) hb)
  refine q_load (v := (0, p, 0)) (p2 := 23) rfl rfl rfl rfl ?_
  refine q_const (p2 := 24) rfl rfl ?_
  refine q_iaddz (z := p + 1) (p2 := 25) rfl (by omega) (by omega) rfl ?_
  refine q_load (v := (0, le, 0)) (p2 := 26) rfl rfl rfl rfl ?_
  refine q_icmp_s (p2 := 27) rfl (by decide) (by omega) (by omega) rfl (fun hb => absurd hb (show ¬ (¬ (p + 1 < le)) by omega)) (fun _ => ?_)
  refine q_load (v := (6, 1, 0)) (p2 := 28) rfl rfl rfl rfl ?_
  refine q_load (v := (0, p, 0)) (p2 := 29) rfl rfl rfl rfl ?_
  refine q_const (p2 := 30) rfl rfl ?_
  refine q_iaddz (z := p + 1) (p2 := 31) rfl (by omega) (by omega) rfl ?_
  refine q_aldT (tag := 0) (v := x2) (p2 := 32) rfl hB (by omega) (by omega) hc3 rfl ?_
  refine q_goto rfl ?_
  refine q_store (loc2 := [(6, 2, 0), (6, 1, 0), (0, le, 0), (0, p, 0), (0, x2, 0), (11, 0, 0), (11, 0, 0)]) (p2 := 35) rfl rfl rfl rfl rfl ?_
  refine q_load (v := (0, p, 0)) (p2 := 36) rfl rfl rfl rfl ?_
  refine q_const (p2 := 37) rfl rfl ?_
  refine q_iaddz (z := p + 2) (p2 := 38) rfl (by omega) (by omega) rfl ?_
  refine q_load (v := (0, le, 0)) (p2 := 39) rfl rfl rfl rfl ?_
  refine q_icmp_s (p2 := 40) rfl (by decide) (by omega) (by omega) rfl (fun hb => absurd hb (show ¬ (¬ (p + 2 < le)) by omega)) (fun _ => ?_)
  refine q_load (v := (6, 1, 0)) (p2 := 41) rfl rfl rfl rfl ?_
  refine q_load (v := (0, p, 0)) (p2 := 42) rfl rfl rfl rfl ?_
  refine q_const (p2 := 43) rfl rfl ?_
  refine q_iaddz (z := p + 2) (p2 := 44) rfl (by omega) (by omega) rfl ?_
  refine q_aldT (tag := 0) (v := x3) (p2 := 45) rfl hB (by omega) (by omega) hc4 rfl ?_
  refine q_goto rfl ?_
  refine q_store (loc2 := [(6, 2, 0), (6, 1, 0), (0, le, 0), (0, p, 0), (0, x2, 0), (0, x3, 0), (11, 0, 0)]) (p2 := 48) rfl rfl rfl rfl rfl ?_
  refine q_load (v := (6, 1, 0)) (p2 := 49) rfl rfl rfl rfl ?_
  refine q_load (v := (0, p, 0)) (p2 := 50) rfl rfl rfl rfl ?_
  refine q_aldT (tag := 0) (v := 44) (p2 := 51) rfl hB (by omega) (by omega) hc1 rfl ?_
  refine q_load (v := (0, x2, 0)) (p2 := 52) rfl rfl rfl rfl ?_
  refine q_load (v := (0, x3, 0)) (p2 := 53) rfl rfl rfl rfl ?_
  refine q_callr (xs := [(0, x3, 0), (0, x2, 0), (0, 44, 0)]) (p2 := 54) rfl rfl rfl rfl (fun _ _ => rfl) rfl (zc_ls_44 ) (Nat.le_refl _) (Nat.le_refl _) rfl ?_
  refine q_store (loc2 := [(6, 2, 0), (6, 1, 0), (0, le, 0), (0, p, 0), (0, x2, 0), (0, x3, 0), (0, 4, 0)]) (p2 := 55) rfl rfl rfl rfl rfl ?_
  refine q_load (v := (0, 4, 0)) (p2 := 56) rfl rfl rfl rfl ?_
  refine q_const (p2 := 57) rfl rfl ?_
  refine q_icmp_s (p2 := 58) rfl (by decide) (by omega) (by omega) rfl (fun _ => ?_) (fun hb => absurd (show 4 = 4 by omega) hb)
  refine q_load (v := (6, 1, 0)) (p2 := 71) rfl rfl rfl rfl ?_
  refine q_load (v := (0, p, 0)) (p2 := 72) rfl rfl rfl rfl ?_
  refine q_aldT (tag := 0) (v := 44) (p2 := 73) rfl hB (by omega) (by omega) hc1 rfl ?_
  refine q_callr (xs := [(0, 44, 0)]) (p2 := 74) rfl rfl rfl rfl (fun _ _ => rfl) rfl (zc_a_146_44 ) (Nat.le_refl _) (Nat.le_refl _) rfl ?_
  refine q_store (loc2 := [(6, 2, 0), (6, 1, 0), (0, le, 0), (0, p, 0), (0, x2, 0), (0, x3, 0), (0, 77, 0)]) (p2 := 75) rfl rfl rfl rfl rfl ?_
  refine q_load (v := (0, 77, 0)) (p2 := 76) rfl rfl rfl rfl ?_
  refine q_const (p2 := 77) rfl rfl ?_
  refine q_icmp_s (p2 := 78) rfl (by decide) (by omega) (by omega) rfl (fun _ => ?_) (fun hb => absurd (show ¬ (77 = 4) by omega) hb)
  refine q_load (v := (6, 2, 0)) (p2 := 81) rfl rfl rfl rfl ?_
  refine q_load (v := (0, 77, 0)) (p2 := 82) rfl rfl rfl rfl ?_
  refine q_load (v := (0, p, 0)) (p2 := 83) rfl rfl rfl rfl ?_
  refine q_const (p2 := 84) rfl rfl ?_
  refine q_callvE (xs := [(2, 0, 0), (0, p, 0), (0, 77, 0), (6, 2, 0)]) (p2 := 85) rfl rfl rfl rfl (x_rcv_s 2 hT.1) rfl (zc_t_add hT (by omega)) (Nat.le_refl _) (Nat.le_refl _) rfl (fun φ1 hR1 => ?_)
  obtain ⟨hs1_0, fr1⟩ := hR1
  refine q_const (p2 := 86) rfl rfl ?_
  exact q_retv (v := (0, 1, 0)) rfl rfl (⟨rfl, rfl, rfl, rfl, hs1_0, fun j hj0 hj1 hj2 hj3 => (fr1 j (by omega) (by omega) (by omega) (by omega))⟩)
theorem zc_sc_44b {d n sl : Nat} {φ : FH} {tot : Nat} {at_ : Nat} {cur : Nat} {pl : Nat} {va : Nat} {fa : Nat} {fp : Nat} {sf : Nat} {sp : Nat} {no : Nat} {op : Nat} {K : Nat → Nat} {P : Nat → Nat} {V : Nat → Nat} {p : Nat} {le : Nat} {x2 : Nat} {tp : Nat → Nat} (hT : zq_T φ tot at_ cur pl va fa fp sf sp no op K P V) (hB : zq_tp φ tp) (hc0 : le = p + 2 ∧ le ≤ 3000) (hc1 : tp p = 44) (hc2 : tot < 3002) (hc3 : tp (p + 1) = x2) : x_f x_P (d + 2) 88 [(6, 2, 0), (6, 1, 0), (0, le, 0), (0, p, 0), (11, 0, 0), (11, 0, 0), (11, 0, 0)] φ n sl (x_rR (0, 1, 0) n sl (fun φ2 => zq_T φ2 (tot + 1) at_ cur pl va fa fp sf sp no op (x_s K tot 77) (x_s P tot p) (x_s V tot 0) ∧ ∀ j, j ≠ 2 → j ≠ 4 → j ≠ 5 → j ≠ 6 → φ2 j = φ j)) := by
  refine x_f_of rfl ?_
  refine q_load (v := (6, 1, 0)) (p2 := 1) rfl rfl rfl rfl ?_
  refine q_load (v := (0, p, 0)) (p2 := 2) rfl rfl rfl rfl ?_
  refine q_aldT (tag := 0) (v := 44) (p2 := 3) rfl hB (by omega) (by omega) hc1 rfl ?_
  refine q_callr (xs := [(0, 44, 0)]) (p2 := 4) rfl rfl rfl rfl (fun _ _ => rfl) rfl (zc_a_141_44 ) (Nat.le_refl _) (Nat.le_refl _) rfl ?_
  refine q_if0_s (p2 := 5) rfl (by decide) (by omega) rfl (fun _ => ?_) (fun hb => absurd (show 0 = 0 by omega) hb)
  refine q_load (v := (6, 1, 0)) (p2 := 12) rfl rfl rfl rfl ?_
  refine q_load (v := (0, p, 0)) (p2 := 13) rfl rfl rfl rfl ?_
  refine q_aldT (tag := 0) (v := 44) (p2 := 14) rfl hB (by omega) (by omega) hc1 rfl ?_
  refine q_callr (xs := [(0, 44, 0)]) (p2 := 15) rfl rfl rfl rfl (fun _ _ => rfl) rfl (zc_a_143_44 ) (Nat.le_refl _) (Nat.le_refl _) rfl ?_
  refine q_if0_s (p2 := 16) rfl (by decide) (by omega) rfl (fun _ => ?_) (fun hb => absurd (show 0 = 0 by omega) hb)
  refine q_load (v := (0, p, 0)) (p2 := 23) rfl rfl rfl rfl ?_
  refine q_const (p2 := 24) rfl rfl ?_
  refine q_iaddz (z := p + 1) (p2 := 25) rfl (by omega) (by omega) rfl ?_
  refine q_load (v := (0, le, 0)) (p2 := 26) rfl rfl rfl rfl ?_
  refine q_icmp_s (p2 := 27) rfl (by decide) (by omega) (by omega) rfl (fun hb => absurd hb (show ¬ (¬ (p + 1 < le)) by omega)) (fun _ => ?_)
  refine q_load (v := (6, 1, 0)) (p2 := 28) rfl rfl rfl rfl ?_
  refine q_load (v := (0, p, 0)) (p2 := 29) rfl rfl rfl rfl ?_
  refine q_const (p2 := 30) rfl rfl ?_
  refine q_iaddz (z := p + 1) (p2 := 31) rfl (by omega) (by omega) rfl ?_
  refine q_aldT (tag := 0) (v := x2) (p2 := 32) rfl hB (by omega) (by omega) hc3 rfl ?_
  refine q_goto rfl ?_
  refine q_store (loc2 := [(6, 2, 0), (6, 1, 0), (0, le, 0), (0, p, 0), (0, x2, 0), (11, 0, 0), (11, 0, 0)]) (p2 := 35) rfl rfl rfl rfl rfl ?_
  refine q_load (v := (0, p, 0)) (p2 := 36) rfl rfl rfl rfl ?_
  refine q_const (p2 := 37) rfl rfl ?_
  refine q_iaddz (z := p + 2) (p2 := 38) rfl (by omega) (by omega) rfl ?_
  refine q_load (v := (0, le, 0)) (p2 := 39) rfl rfl rfl rfl ?_
  refine q_icmp_s (p2 := 40) rfl (by decide) (by omega) (by omega) rfl (fun _ => ?_) (fun hb => absurd (show ¬ (p + 2 < le) by omega) hb)
  refine q_const (p2 := 47) rfl rfl ?_
  refine q_store (loc2 := [(6, 2, 0), (6, 1, 0), (0, le, 0), (0, p, 0), (0, x2, 0), (0, 0, 0), (11, 0, 0)]) (p2 := 48) rfl rfl rfl rfl rfl ?_
  refine q_load (v := (6, 1, 0)) (p2 := 49) rfl rfl rfl rfl ?_
  refine q_load (v := (0, p, 0)) (p2 := 50) rfl rfl rfl rfl ?_
  refine q_aldT (tag := 0) (v := 44) (p2 := 51) rfl hB (by omega) (by omega) hc1 rfl ?_
  refine q_load (v := (0, x2, 0)) (p2 := 52) rfl rfl rfl rfl ?_
  refine q_load (v := (0, 0, 0)) (p2 := 53) rfl rfl rfl rfl ?_
  refine q_callr (xs := [(0, 0, 0), (0, x2, 0), (0, 44, 0)]) (p2 := 54) rfl rfl rfl rfl (fun _ _ => rfl) rfl (zc_ls_44 ) (Nat.le_refl _) (Nat.le_refl _) rfl ?_
  refine q_store (loc2 := [(6, 2, 0), (6, 1, 0), (0, le, 0), (0, p, 0), (0, x2, 0), (0, 0, 0), (0, 4, 0)]) (p2 := 55) rfl rfl rfl rfl rfl ?_
  refine q_load (v := (0, 4, 0)) (p2 := 56) rfl rfl rfl rfl ?_
  refine q_const (p2 := 57) rfl rfl ?_
  refine q_icmp_s (p2 := 58) rfl (by decide) (by omega) (by omega) rfl (fun _ => ?_) (fun hb => absurd (show 4 = 4 by omega) hb)
  refine q_load (v := (6, 1, 0)) (p2 := 71) rfl rfl rfl rfl ?_
  refine q_load (v := (0, p, 0)) (p2 := 72) rfl rfl rfl rfl ?_
  refine q_aldT (tag := 0) (v := 44) (p2 := 73) rfl hB (by omega) (by omega) hc1 rfl ?_
  refine q_callr (xs := [(0, 44, 0)]) (p2 := 74) rfl rfl rfl rfl (fun _ _ => rfl) rfl (zc_a_146_44 ) (Nat.le_refl _) (Nat.le_refl _) rfl ?_
  refine q_store (loc2 := [(6, 2, 0), (6, 1, 0), (0, le, 0), (0, p, 0), (0, x2, 0), (0, 0, 0), (0, 77, 0)]) (p2 := 75) rfl rfl rfl rfl rfl ?_
  refine q_load (v := (0, 77, 0)) (p2 := 76) rfl rfl rfl rfl ?_
  refine q_const (p2 := 77) rfl rfl ?_
  refine q_icmp_s (p2 := 78) rfl (by decide) (by omega) (by omega) rfl (fun _ => ?_) (fun hb => absurd (show ¬ (77 = 4) by omega) hb)
  refine q_load (v := (6, 2, 0)) (p2 := 81) rfl rfl rfl rfl ?_
  refine q_load (v := (0, 77, 0)) (p2 := 82) rfl rfl rfl rfl ?_
  refine q_load (v := (0, p, 0)) (p2 := 83) rfl rfl rfl rfl ?_
  refine q_const (p2 := 84) rfl rfl ?_
  refine q_callvE (xs := [(2, 0, 0), (0, p, 0), (0, 77, 0), (6, 2, 0)]) (p2 := 85) rfl rfl rfl rfl (x_rcv_s 2 hT.1) rfl (zc_t_add hT (by omega)) (Nat.le_refl _) (Nat.le_refl _) rfl (fun φ1 hR1 => ?_)
  obtain ⟨hs1_0, fr1⟩ := hR1
  refine q_const (p2 := 86) rfl rfl ?_
  exact q_retv (v := (0, 1, 0)) rfl rfl (⟨rfl, rfl, rfl, rfl, hs1_0, fun j hj0 hj1 hj2 hj3 => (fr1 j (by omega) (by omega) (by omega) (by omega))⟩)
theorem zc_sc_44c {d n sl : Nat} {φ : FH} {tot : Nat} {at_ : Nat} {cur : Nat} {pl : Nat} {va : Nat} {fa : Nat} {fp : Nat} {sf : Nat} {sp : Nat} {no : Nat} {op : Nat} {K : Nat → Nat} {P : Nat → Nat} {V : Nat → Nat} {p : Nat} {le : Nat} {tp : Nat → Nat} (hT : zq_T φ tot at_ cur pl va fa fp sf sp no op K P V) (hB : zq_tp φ tp) (hc0 : le = p + 1 ∧ le ≤ 3000) (hc1 : tp p = 44) (hc2 : tot < 3002) : x_f x_P (d + 2) 88 [(6, 2, 0), (6, 1, 0), (0, le, 0), (0, p, 0), (11, 0, 0), (11, 0, 0), (11, 0, 0)] φ n sl (x_rR (0, 1, 0) n sl (fun φ2 => zq_T φ2 (tot + 1) at_ cur pl va fa fp sf sp no op (x_s K tot 77) (x_s P tot p) (x_s V tot 0) ∧ ∀ j, j ≠ 2 → j ≠ 4 → j ≠ 5 → j ≠ 6 → φ2 j = φ j)) := by
  refine x_f_of rfl ?_
  refine q_load (v := (6, 1, 0)) (p2 := 1) rfl rfl rfl rfl ?_
  refine q_load (v := (0, p, 0)) (p2 := 2) rfl rfl rfl rfl ?_
  refine q_aldT (tag := 0) (v := 44) (p2 := 3) rfl hB (by omega) (by omega) hc1 rfl ?_
  refine q_callr (xs := [(0, 44, 0)]) (p2 := 4) rfl rfl rfl rfl (fun _ _ => rfl) rfl (zc_a_141_44 ) (Nat.le_refl _) (Nat.le_refl _) rfl ?_
  refine q_if0_s (p2 := 5) rfl (by decide) (by omega) rfl (fun _ => ?_) (fun hb => absurd (show 0 = 0 by omega) hb)
  refine q_load (v := (6, 1, 0)) (p2 := 12) rfl rfl rfl rfl ?_
  refine q_load (v := (0, p, 0)) (p2 := 13) rfl rfl rfl rfl ?_
  refine q_aldT (tag := 0) (v := 44) (p2 := 14) rfl hB (by omega) (by omega) hc1 rfl ?_
  refine q_callr (xs := [(0, 44, 0)]) (p2 := 15) rfl rfl rfl rfl (fun _ _ => rfl) rfl (zc_a_143_44 ) (Nat.le_refl _) (Nat.le_refl _) rfl ?_
  refine q_if0_s (p2 := 16) rfl (by decide) (by omega) rfl (fun _ => ?_) (fun hb => absurd (show 0 = 0 by omega) hb)
  refine q_load (v := (0, p, 0)) (p2 := 23) rfl rfl rfl rfl ?_
  refine q_const (p2 := 24) rfl rfl ?_
  refine q_iaddz (z := p + 1) (p2 := 25) rfl (by omega) (by omega) rfl ?_
  refine q_load (v := (0, le, 0)) (p2 := 26) rfl rfl rfl rfl ?_
  refine q_icmp_s (p2 := 27) rfl (by decide) (by omega) (by omega) rfl (fun _ => ?_) (fun hb => absurd (show ¬ (p + 1 < le) by omega) hb)
  refine q_const (p2 := 34) rfl rfl ?_
  refine q_store (loc2 := [(6, 2, 0), (6, 1, 0), (0, le, 0), (0, p, 0), (0, 0, 0), (11, 0, 0), (11, 0, 0)]) (p2 := 35) rfl rfl rfl rfl rfl ?_
  refine q_load (v := (0, p, 0)) (p2 := 36) rfl rfl rfl rfl ?_
  refine q_const (p2 := 37) rfl rfl ?_
  refine q_iaddz (z := p + 2) (p2 := 38) rfl (by omega) (by omega) rfl ?_
  refine q_load (v := (0, le, 0)) (p2 := 39) rfl rfl rfl rfl ?_
  refine q_icmp_s (p2 := 40) rfl (by decide) (by omega) (by omega) rfl (fun _ => ?_) (fun hb => absurd (show ¬ (p + 2 < le) by omega) hb)
  refine q_const (p2 := 47) rfl rfl ?_
  refine q_store (loc2 := [(6, 2, 0), (6, 1, 0), (0, le, 0), (0, p, 0), (0, 0, 0), (0, 0, 0), (11, 0, 0)]) (p2 := 48) rfl rfl rfl rfl rfl ?_
  refine q_load (v := (6, 1, 0)) (p2 := 49) rfl rfl rfl rfl ?_
  refine q_load (v := (0, p, 0)) (p2 := 50) rfl rfl rfl rfl ?_
  refine q_aldT (tag := 0) (v := 44) (p2 := 51) rfl hB (by omega) (by omega) hc1 rfl ?_
  refine q_load (v := (0, 0, 0)) (p2 := 52) rfl rfl rfl rfl ?_
  refine q_load (v := (0, 0, 0)) (p2 := 53) rfl rfl rfl rfl ?_
  refine q_callr (xs := [(0, 0, 0), (0, 0, 0), (0, 44, 0)]) (p2 := 54) rfl rfl rfl rfl (fun _ _ => rfl) rfl (zc_ls_44 ) (Nat.le_refl _) (Nat.le_refl _) rfl ?_
  refine q_store (loc2 := [(6, 2, 0), (6, 1, 0), (0, le, 0), (0, p, 0), (0, 0, 0), (0, 0, 0), (0, 4, 0)]) (p2 := 55) rfl rfl rfl rfl rfl ?_
  refine q_load (v := (0, 4, 0)) (p2 := 56) rfl rfl rfl rfl ?_
  refine q_const (p2 := 57) rfl rfl ?_
  refine q_icmp_s (p2 := 58) rfl (by decide) (by omega) (by omega) rfl (fun _ => ?_) (fun hb => absurd (show 4 = 4 by omega) hb)
  refine q_load (v := (6, 1, 0)) (p2 := 71) rfl rfl rfl rfl ?_
  refine q_load (v := (0, p, 0)) (p2 := 72) rfl rfl rfl rfl ?_
  refine q_aldT (tag := 0) (v := 44) (p2 := 73) rfl hB (by omega) (by omega) hc1 rfl ?_
  refine q_callr (xs := [(0, 44, 0)]) (p2 := 74) rfl rfl rfl rfl (fun _ _ => rfl) rfl (zc_a_146_44 ) (Nat.le_refl _) (Nat.le_refl _) rfl ?_
  refine q_store (loc2 := [(6, 2, 0), (6, 1, 0), (0, le, 0), (0, p, 0), (0, 0, 0), (0, 0, 0), (0, 77, 0)]) (p2 := 75) rfl rfl rfl rfl rfl ?_
  refine q_load (v := (0, 77, 0)) (p2 := 76) rfl rfl rfl rfl ?_
  refine q_const (p2 := 77) rfl rfl ?_
  refine q_icmp_s (p2 := 78) rfl (by decide) (by omega) (by omega) rfl (fun _ => ?_) (fun hb => absurd (show ¬ (77 = 4) by omega) hb)
  refine q_load (v := (6, 2, 0)) (p2 := 81) rfl rfl rfl rfl ?_
  refine q_load (v := (0, 77, 0)) (p2 := 82) rfl rfl rfl rfl ?_
  refine q_load (v := (0, p, 0)) (p2 := 83) rfl rfl rfl rfl ?_
  refine q_const (p2 := 84) rfl rfl ?_
  refine q_callvE (xs := [(2, 0, 0), (0, p, 0), (0, 77, 0), (6, 2, 0)]) (p2 := 85) rfl rfl rfl rfl (x_rcv_s 2 hT.1) rfl (zc_t_add hT (by omega)) (Nat.le_refl _) (Nat.le_refl _) rfl (fun φ1 hR1 => ?_)
  obtain ⟨hs1_0, fr1⟩ := hR1
  refine q_const (p2 := 86) rfl rfl ?_
  exact q_retv (v := (0, 1, 0)) rfl rfl (⟨rfl, rfl, rfl, rfl, hs1_0, fun j hj0 hj1 hj2 hj3 => (fr1 j (by omega) (by omega) (by omega) (by omega))⟩)
theorem zc_a_141_61 {d n sl : Nat} {φ : FH}    : x_f x_P (d + 1) 141 [(0, 61, 0)] φ n sl (x_r φ n sl (0, 0, 0)) := by
  refine x_f_of rfl ?_
  refine q_load (v := (0, 61, 0)) (p2 := 1) rfl rfl rfl rfl ?_
  refine q_const (p2 := 2) rfl rfl ?_
  refine q_icmp_s (p2 := 3) rfl (by decide) (by omega) (by omega) rfl (fun _ => ?_) (fun hb => absurd (show 61 < 97 by omega) hb)
  refine q_const (p2 := 9) rfl rfl ?_
  exact q_retv (v := (0, 0, 0)) rfl rfl (⟨rfl, rfl, rfl, rfl, rfl⟩)
theorem zc_a_143_61 {d n sl : Nat} {φ : FH}    : x_f x_P (d + 1) 143 [(0, 61, 0)] φ n sl (x_r φ n sl (0, 0, 0)) := by
  refine x_f_of rfl ?_
  refine q_load (v := (0, 61, 0)) (p2 := 1) rfl rfl rfl rfl ?_
  refine q_const (p2 := 2) rfl rfl ?_
  refine q_icmp_s (p2 := 3) rfl (by decide) (by omega) (by omega) rfl (fun hb => absurd hb (show ¬ (61 < 48) by omega)) (fun _ => ?_)
  refine q_load (v := (0, 61, 0)) (p2 := 4) rfl rfl rfl rfl ?_
  refine q_const (p2 := 5) rfl rfl ?_
  refine q_icmp_s (p2 := 6) rfl (by decide) (by omega) (by omega) rfl (fun _ => ?_) (fun hb => absurd (show 57 < 61 by omega) hb)
  refine q_const (p2 := 9) rfl rfl ?_
  exact q_retv (v := (0, 0, 0)) rfl rfl (⟨rfl, rfl, rfl, rfl, rfl⟩)
theorem zc_a_146_61 {d n sl : Nat} {φ : FH}    : x_f x_P (d + 1) 146 [(0, 61, 0)] φ n sl (x_r φ n sl (0, 64, 0)) := by
  refine x_f_of rfl ?_
  refine q_load (v := (0, 61, 0)) (p2 := 1) rfl rfl rfl rfl ?_
  refine q_switch (tgt := 6) rfl (by decide) rfl ?_
  refine q_const (p2 := 7) rfl rfl ?_
  exact q_retv (v := (0, 64, 0)) rfl rfl (⟨rfl, rfl, rfl, rfl, rfl⟩)
theorem zc_sc_61a {d n sl : Nat} {φ : FH} {tot : Nat} {at_ : Nat} {cur : Nat} {pl : Nat} {va : Nat} {fa : Nat} {fp : Nat} {sf : Nat} {sp : Nat} {no : Nat} {op : Nat} {K : Nat → Nat} {P : Nat → Nat} {V : Nat → Nat} {p : Nat} {le : Nat} {x2 : Nat} {x3 : Nat} {tp : Nat → Nat} (hT : zq_T φ tot at_ cur pl va fa fp sf sp no op K P V) (hB : zq_tp φ tp) (hc0 : p + 2 < le ∧ le ≤ 3000) (hc1 : tp p = 61) (hc2 : tot < 3002) (hc3 : tp (p + 1) = x2) (hc4 : tp (p + 2) = x3) : x_f x_P (d + 2) 88 [(6, 2, 0), (6, 1, 0), (0, le, 0), (0, p, 0), (11, 0, 0), (11, 0, 0), (11, 0, 0)] φ n sl (x_rR (0, 1, 0) n sl (fun φ2 => zq_T φ2 (tot + 1) at_ cur pl va fa fp sf sp no op (x_s K tot 64) (x_s P tot p) (x_s V tot 0) ∧ ∀ j, j ≠ 2 → j ≠ 4 → j ≠ 5 → j ≠ 6 → φ2 j = φ j)) := by
  refine x_f_of rfl ?_
  refine q_load (v := (6, 1, 0)) (p2 := 1) rfl rfl rfl rfl ?_
  refine q_load (v := (0, p, 0)) (p2 := 2) rfl rfl rfl rfl ?_
  refine q_aldT (tag := 0) (v := 61) (p2 := 3) rfl hB (by omega) (by omega) hc1 rfl ?_
  refine q_callr (xs := [(0, 61, 0)]) (p2 := 4) rfl rfl rfl rfl (fun _ _ => rfl) rfl (zc_a_141_61 ) (Nat.le_refl _) (Nat.le_refl _) rfl ?_
  refine q_if0_s (p2 := 5) rfl (by decide) (by omega) rfl (fun _ => ?_) (fun hb => absurd (show 0 = 0 by omega) hb)
  refine q_load (v := (6, 1, 0)) (p2 := 12) rfl rfl rfl rfl ?_
  refine q_load (v := (0, p, 0)) (p2 := 13) rfl rfl rfl rfl ?_
  refine q_aldT (tag := 0) (v := 61) (p2 := 14) rfl hB (by omega) (by omega) hc1 rfl ?_
  refine q_callr (xs := [(0, 61, 0)]) (p2 := 15) rfl rfl rfl rfl (fun _ _ => rfl) rfl (zc_a_143_61 ) (Nat.le_refl _) (Nat.le_refl _) rfl ?_
  refine q_if0_s (p2 := 16) rfl (by decide) (by omega) rfl (fun _ => ?_) (fun hb => absurd (show 0 = 0 by omega) hb)
  refine q_load (v := (0, p, 0)) (p2 := 23) rfl rfl rfl rfl ?_
  refine q_const (p2 := 24) rfl rfl ?_
  refine q_iaddz (z := p + 1) (p2 := 25) rfl (by omega) (by omega) rfl ?_
  refine q_load (v := (0, le, 0)) (p2 := 26) rfl rfl rfl rfl ?_
  refine q_icmp_s (p2 := 27) rfl (by decide) (by omega) (by omega) rfl (fun hb => absurd hb (show ¬ (¬ (p + 1 < le)) by omega)) (fun _ => ?_)
  refine q_load (v := (6, 1, 0)) (p2 := 28) rfl rfl rfl rfl ?_
  refine q_load (v := (0, p, 0)) (p2 := 29) rfl rfl rfl rfl ?_
  refine q_const (p2 := 30) rfl rfl ?_
  refine q_iaddz (z := p + 1) (p2 := 31) rfl (by omega) (by omega) rfl ?_
  refine q_aldT (tag := 0) (v := x2) (p2 := 32) rfl hB (by omega) (by omega) hc3 rfl ?_
  refine q_goto rfl ?_
  refine q_store (loc2 := [(6, 2, 0), (6, 1, 0), (0, le, 0), (0, p, 0), (0, x2, 0), (11, 0, 0), (11, 0, 0)]) (p2 := 35) rfl rfl rfl rfl rfl ?_
  refine q_load (v := (0, p, 0)) (p2 := 36) rfl rfl rfl rfl ?_
  refine q_const (p2 := 37) rfl rfl ?_
  refine q_iaddz (z := p + 2) (p2 := 38) rfl (by omega) (by omega) rfl ?_
  refine q_load (v := (0, le, 0)) (p2 := 39) rfl rfl rfl rfl ?_
  refine q_icmp_s (p2 := 40) rfl (by decide) (by omega) (by omega) rfl (fun hb => absurd hb (show ¬ (¬ (p + 2 < le)) by omega)) (fun _ => ?_)
  refine q_load (v := (6, 1, 0)) (p2 := 41) rfl rfl rfl rfl ?_
  refine q_load (v := (0, p, 0)) (p2 := 42) rfl rfl rfl rfl ?_
  refine q_const (p2 := 43) rfl rfl ?_
  refine q_iaddz (z := p + 2) (p2 := 44) rfl (by omega) (by omega) rfl ?_
  refine q_aldT (tag := 0) (v := x3) (p2 := 45) rfl hB (by omega) (by omega) hc4 rfl ?_
  refine q_goto rfl ?_
  refine q_store (loc2 := [(6, 2, 0), (6, 1, 0), (0, le, 0), (0, p, 0), (0, x2, 0), (0, x3, 0), (11, 0, 0)]) (p2 := 48) rfl rfl rfl rfl rfl ?_
  refine q_load (v := (6, 1, 0)) (p2 := 49) rfl rfl rfl rfl ?_
  refine q_load (v := (0, p, 0)) (p2 := 50) rfl rfl rfl rfl ?_
  refine q_aldT (tag := 0) (v := 61) (p2 := 51) rfl hB (by omega) (by omega) hc1 rfl ?_
  refine q_load (v := (0, x2, 0)) (p2 := 52) rfl rfl rfl rfl ?_
  refine q_load (v := (0, x3, 0)) (p2 := 53) rfl rfl rfl rfl ?_
  refine q_callr (xs := [(0, x3, 0), (0, x2, 0), (0, 61, 0)]) (p2 := 54) rfl rfl rfl rfl (fun _ _ => rfl) rfl (zc_ls_61 ) (Nat.le_refl _) (Nat.le_refl _) rfl ?_
  refine q_store (loc2 := [(6, 2, 0), (6, 1, 0), (0, le, 0), (0, p, 0), (0, x2, 0), (0, x3, 0), (0, 4, 0)]) (p2 := 55) rfl rfl rfl rfl rfl ?_
  refine q_load (v := (0, 4, 0)) (p2 := 56) rfl rfl rfl rfl ?_
  refine q_const (p2 := 57) rfl rfl ?_
  refine q_icmp_s (p2 := 58) rfl (by decide) (by omega) (by omega) rfl (fun _ => ?_) (fun hb => absurd (show 4 = 4 by omega) hb)
  refine q_load (v := (6, 1, 0)) (p2 := 71) rfl rfl rfl rfl ?_
  refine q_load (v := (0, p, 0)) (p2 := 72) rfl rfl rfl rfl ?_
  refine q_aldT (tag := 0) (v := 61) (p2 := 73) rfl hB (by omega) (by omega) hc1 rfl ?_
  refine q_callr (xs := [(0, 61, 0)]) (p2 := 74) rfl rfl rfl rfl (fun _ _ => rfl) rfl (zc_a_146_61 ) (Nat.le_refl _) (Nat.le_refl _) rfl ?_
  refine q_store (loc2 := [(6, 2, 0), (6, 1, 0), (0, le, 0), (0, p, 0), (0, x2, 0), (0, x3, 0), (0, 64, 0)]) (p2 := 75) rfl rfl rfl rfl rfl ?_
  refine q_load (v := (0, 64, 0)) (p2 := 76) rfl rfl rfl rfl ?_
  refine q_const (p2 := 77) rfl rfl ?_
  refine q_icmp_s (p2 := 78) rfl (by decide) (by omega) (by omega) rfl (fun _ => ?_) (fun hb => absurd (show ¬ (64 = 4) by omega) hb)
  refine q_load (v := (6, 2, 0)) (p2 := 81) rfl rfl rfl rfl ?_
  refine q_load (v := (0, 64, 0)) (p2 := 82) rfl rfl rfl rfl ?_
  refine q_load (v := (0, p, 0)) (p2 := 83) rfl rfl rfl rfl ?_
  refine q_const (p2 := 84) rfl rfl ?_
  refine q_callvE (xs := [(2, 0, 0), (0, p, 0), (0, 64, 0), (6, 2, 0)]) (p2 := 85) rfl rfl rfl rfl (x_rcv_s 2 hT.1) rfl (zc_t_add hT (by omega)) (Nat.le_refl _) (Nat.le_refl _) rfl (fun φ1 hR1 => ?_)
  obtain ⟨hs1_0, fr1⟩ := hR1
  refine q_const (p2 := 86) rfl rfl ?_
  exact q_retv (v := (0, 1, 0)) rfl rfl (⟨rfl, rfl, rfl, rfl, hs1_0, fun j hj0 hj1 hj2 hj3 => (fr1 j (by omega) (by omega) (by omega) (by omega))⟩)
theorem zc_sc_61b {d n sl : Nat} {φ : FH} {tot : Nat} {at_ : Nat} {cur : Nat} {pl : Nat} {va : Nat} {fa : Nat} {fp : Nat} {sf : Nat} {sp : Nat} {no : Nat} {op : Nat} {K : Nat → Nat} {P : Nat → Nat} {V : Nat → Nat} {p : Nat} {le : Nat} {x2 : Nat} {tp : Nat → Nat} (hT : zq_T φ tot at_ cur pl va fa fp sf sp no op K P V) (hB : zq_tp φ tp) (hc0 : le = p + 2 ∧ le ≤ 3000) (hc1 : tp p = 61) (hc2 : tot < 3002) (hc3 : tp (p + 1) = x2) : x_f x_P (d + 2) 88 [(6, 2, 0), (6, 1, 0), (0, le, 0), (0, p, 0), (11, 0, 0), (11, 0, 0), (11, 0, 0)] φ n sl (x_rR (0, 1, 0) n sl (fun φ2 => zq_T φ2 (tot + 1) at_ cur pl va fa fp sf sp no op (x_s K tot 64) (x_s P tot p) (x_s V tot 0) ∧ ∀ j, j ≠ 2 → j ≠ 4 → j ≠ 5 → j ≠ 6 → φ2 j = φ j)) := by
  refine x_f_of rfl ?_
  refine q_load (v := (6, 1, 0)) (p2 := 1) rfl rfl rfl rfl ?_
  refine q_load (v := (0, p, 0)) (p2 := 2) rfl rfl rfl rfl ?_
  refine q_aldT (tag := 0) (v := 61) (p2 := 3) rfl hB (by omega) (by omega) hc1 rfl ?_
  refine q_callr (xs := [(0, 61, 0)]) (p2 := 4) rfl rfl rfl rfl (fun _ _ => rfl) rfl (zc_a_141_61 ) (Nat.le_refl _) (Nat.le_refl _) rfl ?_
  refine q_if0_s (p2 := 5) rfl (by decide) (by omega) rfl (fun _ => ?_) (fun hb => absurd (show 0 = 0 by omega) hb)
  refine q_load (v := (6, 1, 0)) (p2 := 12) rfl rfl rfl rfl ?_
  refine q_load (v := (0, p, 0)) (p2 := 13) rfl rfl rfl rfl ?_
  refine q_aldT (tag := 0) (v := 61) (p2 := 14) rfl hB (by omega) (by omega) hc1 rfl ?_
  refine q_callr (xs := [(0, 61, 0)]) (p2 := 15) rfl rfl rfl rfl (fun _ _ => rfl) rfl (zc_a_143_61 ) (Nat.le_refl _) (Nat.le_refl _) rfl ?_
  refine q_if0_s (p2 := 16) rfl (by decide) (by omega) rfl (fun _ => ?_) (fun hb => absurd (show 0 = 0 by omega) hb)
  refine q_load (v := (0, p, 0)) (p2 := 23) rfl rfl rfl rfl ?_
  refine q_const (p2 := 24) rfl rfl ?_
  refine q_iaddz (z := p + 1) (p2 := 25) rfl (by omega) (by omega) rfl ?_
  refine q_load (v := (0, le, 0)) (p2 := 26) rfl rfl rfl rfl ?_
  refine q_icmp_s (p2 := 27) rfl (by decide) (by omega) (by omega) rfl (fun hb => absurd hb (show ¬ (¬ (p + 1 < le)) by omega)) (fun _ => ?_)
  refine q_load (v := (6, 1, 0)) (p2 := 28) rfl rfl rfl rfl ?_
  refine q_load (v := (0, p, 0)) (p2 := 29) rfl rfl rfl rfl ?_
  refine q_const (p2 := 30) rfl rfl ?_
  refine q_iaddz (z := p + 1) (p2 := 31) rfl (by omega) (by omega) rfl ?_
  refine q_aldT (tag := 0) (v := x2) (p2 := 32) rfl hB (by omega) (by omega) hc3 rfl ?_
  refine q_goto rfl ?_
  refine q_store (loc2 := [(6, 2, 0), (6, 1, 0), (0, le, 0), (0, p, 0), (0, x2, 0), (11, 0, 0), (11, 0, 0)]) (p2 := 35) rfl rfl rfl rfl rfl ?_
  refine q_load (v := (0, p, 0)) (p2 := 36) rfl rfl rfl rfl ?_
  refine q_const (p2 := 37) rfl rfl ?_
  refine q_iaddz (z := p + 2) (p2 := 38) rfl (by omega) (by omega) rfl ?_
  refine q_load (v := (0, le, 0)) (p2 := 39) rfl rfl rfl rfl ?_
  refine q_icmp_s (p2 := 40) rfl (by decide) (by omega) (by omega) rfl (fun _ => ?_) (fun hb => absurd (show ¬ (p + 2 < le) by omega) hb)
  refine q_const (p2 := 47) rfl rfl ?_
  refine q_store (loc2 := [(6, 2, 0), (6, 1, 0), (0, le, 0), (0, p, 0), (0, x2, 0), (0, 0, 0), (11, 0, 0)]) (p2 := 48) rfl rfl rfl rfl rfl ?_
  refine q_load (v := (6, 1, 0)) (p2 := 49) rfl rfl rfl rfl ?_
  refine q_load (v := (0, p, 0)) (p2 := 50) rfl rfl rfl rfl ?_
  refine q_aldT (tag := 0) (v := 61) (p2 := 51) rfl hB (by omega) (by omega) hc1 rfl ?_
  refine q_load (v := (0, x2, 0)) (p2 := 52) rfl rfl rfl rfl ?_
  refine q_load (v := (0, 0, 0)) (p2 := 53) rfl rfl rfl rfl ?_
  refine q_callr (xs := [(0, 0, 0), (0, x2, 0), (0, 61, 0)]) (p2 := 54) rfl rfl rfl rfl (fun _ _ => rfl) rfl (zc_ls_61 ) (Nat.le_refl _) (Nat.le_refl _) rfl ?_
  refine q_store (loc2 := [(6, 2, 0), (6, 1, 0), (0, le, 0), (0, p, 0), (0, x2, 0), (0, 0, 0), (0, 4, 0)]) (p2 := 55) rfl rfl rfl rfl rfl ?_
  refine q_load (v := (0, 4, 0)) (p2 := 56) rfl rfl rfl rfl ?_
  refine q_const (p2 := 57) rfl rfl ?_
  refine q_icmp_s (p2 := 58) rfl (by decide) (by omega) (by omega) rfl (fun _ => ?_) (fun hb => absurd (show 4 = 4 by omega) hb)
  refine q_load (v := (6, 1, 0)) (p2 := 71) rfl rfl rfl rfl ?_
  refine q_load (v := (0, p, 0)) (p2 := 72) rfl rfl rfl rfl ?_
  refine q_aldT (tag := 0) (v := 61) (p2 := 73) rfl hB (by omega) (by omega) hc1 rfl ?_
  refine q_callr (xs := [(0, 61, 0)]) (p2 := 74) rfl rfl rfl rfl (fun _ _ => rfl) rfl (zc_a_146_61 ) (Nat.le_refl _) (Nat.le_refl _) rfl ?_
  refine q_store (loc2 := [(6, 2, 0), (6, 1, 0), (0, le, 0), (0, p, 0), (0, x2, 0), (0, 0, 0), (0, 64, 0)]) (p2 := 75) rfl rfl rfl rfl rfl ?_
  refine q_load (v := (0, 64, 0)) (p2 := 76) rfl rfl rfl rfl ?_
  refine q_const (p2 := 77) rfl rfl ?_
  refine q_icmp_s (p2 := 78) rfl (by decide) (by omega) (by omega) rfl (fun _ => ?_) (fun hb => absurd (show ¬ (64 = 4) by omega) hb)
  refine q_load (v := (6, 2, 0)) (p2 := 81) rfl rfl rfl rfl ?_
  refine q_load (v := (0, 64, 0)) (p2 := 82) rfl rfl rfl rfl ?_
  refine q_load (v := (0, p, 0)) (p2 := 83) rfl rfl rfl rfl ?_
  refine q_const (p2 := 84) rfl rfl ?_
  refine q_callvE (xs := [(2, 0, 0), (0, p, 0), (0, 64, 0), (6, 2, 0)]) (p2 := 85) rfl rfl rfl rfl (x_rcv_s 2 hT.1) rfl (zc_t_add hT (by omega)) (Nat.le_refl _) (Nat.le_refl _) rfl (fun φ1 hR1 => ?_)
  obtain ⟨hs1_0, fr1⟩ := hR1
  refine q_const (p2 := 86) rfl rfl ?_
  exact q_retv (v := (0, 1, 0)) rfl rfl (⟨rfl, rfl, rfl, rfl, hs1_0, fun j hj0 hj1 hj2 hj3 => (fr1 j (by omega) (by omega) (by omega) (by omega))⟩)
theorem zc_sc_61c {d n sl : Nat} {φ : FH} {tot : Nat} {at_ : Nat} {cur : Nat} {pl : Nat} {va : Nat} {fa : Nat} {fp : Nat} {sf : Nat} {sp : Nat} {no : Nat} {op : Nat} {K : Nat → Nat} {P : Nat → Nat} {V : Nat → Nat} {p : Nat} {le : Nat} {tp : Nat → Nat} (hT : zq_T φ tot at_ cur pl va fa fp sf sp no op K P V) (hB : zq_tp φ tp) (hc0 : le = p + 1 ∧ le ≤ 3000) (hc1 : tp p = 61) (hc2 : tot < 3002) : x_f x_P (d + 2) 88 [(6, 2, 0), (6, 1, 0), (0, le, 0), (0, p, 0), (11, 0, 0), (11, 0, 0), (11, 0, 0)] φ n sl (x_rR (0, 1, 0) n sl (fun φ2 => zq_T φ2 (tot + 1) at_ cur pl va fa fp sf sp no op (x_s K tot 64) (x_s P tot p) (x_s V tot 0) ∧ ∀ j, j ≠ 2 → j ≠ 4 → j ≠ 5 → j ≠ 6 → φ2 j = φ j)) := by
  refine x_f_of rfl ?_
  refine q_load (v := (6, 1, 0)) (p2 := 1) rfl rfl rfl rfl ?_
  refine q_load (v := (0, p, 0)) (p2 := 2) rfl rfl rfl rfl ?_
  refine q_aldT (tag := 0) (v := 61) (p2 := 3) rfl hB (by omega) (by omega) hc1 rfl ?_
  refine q_callr (xs := [(0, 61, 0)]) (p2 := 4) rfl rfl rfl rfl (fun _ _ => rfl) rfl (zc_a_141_61 ) (Nat.le_refl _) (Nat.le_refl _) rfl ?_
  refine q_if0_s (p2 := 5) rfl (by decide) (by omega) rfl (fun _ => ?_) (fun hb => absurd (show 0 = 0 by omega) hb)
  refine q_load (v := (6, 1, 0)) (p2 := 12) rfl rfl rfl rfl ?_
  refine q_load (v := (0, p, 0)) (p2 := 13) rfl rfl rfl rfl ?_
  refine q_aldT (tag := 0) (v := 61) (p2 := 14) rfl hB (by omega) (by omega) hc1 rfl ?_
  refine q_callr (xs := [(0, 61, 0)]) (p2 := 15) rfl rfl rfl rfl (fun _ _ => rfl) rfl (zc_a_143_61 ) (Nat.le_refl _) (Nat.le_refl _) rfl ?_
  refine q_if0_s (p2 := 16) rfl (by decide) (by omega) rfl (fun _ => ?_) (fun hb => absurd (show 0 = 0 by omega) hb)
  refine q_load (v := (0, p, 0)) (p2 := 23) rfl rfl rfl rfl ?_
  refine q_const (p2 := 24) rfl rfl ?_
  refine q_iaddz (z := p + 1) (p2 := 25) rfl (by omega) (by omega) rfl ?_
  refine q_load (v := (0, le, 0)) (p2 := 26) rfl rfl rfl rfl ?_
  refine q_icmp_s (p2 := 27) rfl (by decide) (by omega) (by omega) rfl (fun _ => ?_) (fun hb => absurd (show ¬ (p + 1 < le) by omega) hb)
  refine q_const (p2 := 34) rfl rfl ?_
  refine q_store (loc2 := [(6, 2, 0), (6, 1, 0), (0, le, 0), (0, p, 0), (0, 0, 0), (11, 0, 0), (11, 0, 0)]) (p2 := 35) rfl rfl rfl rfl rfl ?_
  refine q_load (v := (0, p, 0)) (p2 := 36) rfl rfl rfl rfl ?_
  refine q_const (p2 := 37) rfl rfl ?_
  refine q_iaddz (z := p + 2) (p2 := 38) rfl (by omega) (by omega) rfl ?_
  refine q_load (v := (0, le, 0)) (p2 := 39) rfl rfl rfl rfl ?_
  refine q_icmp_s (p2 := 40) rfl (by decide) (by omega) (by omega) rfl (fun _ => ?_) (fun hb => absurd (show ¬ (p + 2 < le) by omega) hb)
  refine q_const (p2 := 47) rfl rfl ?_
  refine q_store (loc2 := [(6, 2, 0), (6, 1, 0), (0, le, 0), (0, p, 0), (0, 0, 0), (0, 0, 0), (11, 0, 0)]) (p2 := 48) rfl rfl rfl rfl rfl ?_
  refine q_load (v := (6, 1, 0)) (p2 := 49) rfl rfl rfl rfl ?_
  refine q_load (v := (0, p, 0)) (p2 := 50) rfl rfl rfl rfl ?_
  refine q_aldT (tag := 0) (v := 61) (p2 := 51) rfl hB (by omega) (by omega) hc1 rfl ?_
  refine q_load (v := (0, 0, 0)) (p2 := 52) rfl rfl rfl rfl ?_
  refine q_load (v := (0, 0, 0)) (p2 := 53) rfl rfl rfl rfl ?_
  refine q_callr (xs := [(0, 0, 0), (0, 0, 0), (0, 61, 0)]) (p2 := 54) rfl rfl rfl rfl (fun _ _ => rfl) rfl (zc_ls_61 ) (Nat.le_refl _) (Nat.le_refl _) rfl ?_
  refine q_store (loc2 := [(6, 2, 0), (6, 1, 0), (0, le, 0), (0, p, 0), (0, 0, 0), (0, 0, 0), (0, 4, 0)]) (p2 := 55) rfl rfl rfl rfl rfl ?_
  refine q_load (v := (0, 4, 0)) (p2 := 56) rfl rfl rfl rfl ?_
  refine q_const (p2 := 57) rfl rfl ?_
  refine q_icmp_s (p2 := 58) rfl (by decide) (by omega) (by omega) rfl (fun _ => ?_) (fun hb => absurd (show 4 = 4 by omega) hb)
  refine q_load (v := (6, 1, 0)) (p2 := 71) rfl rfl rfl rfl ?_
  refine q_load (v := (0, p, 0)) (p2 := 72) rfl rfl rfl rfl ?_
  refine q_aldT (tag := 0) (v := 61) (p2 := 73) rfl hB (by omega) (by omega) hc1 rfl ?_
  refine q_callr (xs := [(0, 61, 0)]) (p2 := 74) rfl rfl rfl rfl (fun _ _ => rfl) rfl (zc_a_146_61 ) (Nat.le_refl _) (Nat.le_refl _) rfl ?_
  refine q_store (loc2 := [(6, 2, 0), (6, 1, 0), (0, le, 0), (0, p, 0), (0, 0, 0), (0, 0, 0), (0, 64, 0)]) (p2 := 75) rfl rfl rfl rfl rfl ?_
  refine q_load (v := (0, 64, 0)) (p2 := 76) rfl rfl rfl rfl ?_
  refine q_const (p2 := 77) rfl rfl ?_
  refine q_icmp_s (p2 := 78) rfl (by decide) (by omega) (by omega) rfl (fun _ => ?_) (fun hb => absurd (show ¬ (64 = 4) by omega) hb)
  refine q_load (v := (6, 2, 0)) (p2 := 81) rfl rfl rfl rfl ?_
  refine q_load (v := (0, 64, 0)) (p2 := 82) rfl rfl rfl rfl ?_
  refine q_load (v := (0, p, 0)) (p2 := 83) rfl rfl rfl rfl ?_
  refine q_const (p2 := 84) rfl rfl ?_
  refine q_callvE (xs := [(2, 0, 0), (0, p, 0), (0, 64, 0), (6, 2, 0)]) (p2 := 85) rfl rfl rfl rfl (x_rcv_s 2 hT.1) rfl (zc_t_add hT (by omega)) (Nat.le_refl _) (Nat.le_refl _) rfl (fun φ1 hR1 => ?_)
  obtain ⟨hs1_0, fr1⟩ := hR1
  refine q_const (p2 := 86) rfl rfl ?_
  exact q_retv (v := (0, 1, 0)) rfl rfl (⟨rfl, rfl, rfl, rfl, hs1_0, fun j hj0 hj1 hj2 hj3 => (fr1 j (by omega) (by omega) (by omega) (by omega))⟩)
theorem zc_a_141_40 {d n sl : Nat} {φ : FH}    : x_f x_P (d + 1) 141 [(0, 40, 0)] φ n sl (x_r φ n sl (0, 0, 0)) := by
  refine x_f_of rfl ?_
  refine q_load (v := (0, 40, 0)) (p2 := 1) rfl rfl rfl rfl ?_
  refine q_const (p2 := 2) rfl rfl ?_
  refine q_icmp_s (p2 := 3) rfl (by decide) (by omega) (by omega) rfl (fun _ => ?_) (fun hb => absurd (show 40 < 97 by omega) hb)
  refine q_const (p2 := 9) rfl rfl ?_
  exact q_retv (v := (0, 0, 0)) rfl rfl (⟨rfl, rfl, rfl, rfl, rfl⟩)
theorem zc_a_143_40 {d n sl : Nat} {φ : FH}    : x_f x_P (d + 1) 143 [(0, 40, 0)] φ n sl (x_r φ n sl (0, 0, 0)) := by
  refine x_f_of rfl ?_
  refine q_load (v := (0, 40, 0)) (p2 := 1) rfl rfl rfl rfl ?_
  refine q_const (p2 := 2) rfl rfl ?_
  refine q_icmp_s (p2 := 3) rfl (by decide) (by omega) (by omega) rfl (fun _ => ?_) (fun hb => absurd (show 40 < 48 by omega) hb)
  refine q_const (p2 := 9) rfl rfl ?_
  exact q_retv (v := (0, 0, 0)) rfl rfl (⟨rfl, rfl, rfl, rfl, rfl⟩)
theorem zc_a_146_40 {d n sl : Nat} {φ : FH}    : x_f x_P (d + 1) 146 [(0, 40, 0)] φ n sl (x_r φ n sl (0, 73, 0)) := by
  refine x_f_of rfl ?_
  refine q_load (v := (0, 40, 0)) (p2 := 1) rfl rfl rfl rfl ?_
  refine q_switch (tgt := 18) rfl (by decide) rfl ?_
  refine q_const (p2 := 19) rfl rfl ?_
  exact q_retv (v := (0, 73, 0)) rfl rfl (⟨rfl, rfl, rfl, rfl, rfl⟩)
theorem zc_sc_40a {d n sl : Nat} {φ : FH} {tot : Nat} {at_ : Nat} {cur : Nat} {pl : Nat} {va : Nat} {fa : Nat} {fp : Nat} {sf : Nat} {sp : Nat} {no : Nat} {op : Nat} {K : Nat → Nat} {P : Nat → Nat} {V : Nat → Nat} {p : Nat} {le : Nat} {x2 : Nat} {x3 : Nat} {tp : Nat → Nat} (hT : zq_T φ tot at_ cur pl va fa fp sf sp no op K P V) (hB : zq_tp φ tp) (hc0 : p + 2 < le ∧ le ≤ 3000) (hc1 : tp p = 40) (hc2 : tot < 3002) (hc3 : tp (p + 1) = x2) (hc4 : tp (p + 2) = x3) : x_f x_P (d + 2) 88 [(6, 2, 0), (6, 1, 0), (0, le, 0), (0, p, 0), (11, 0, 0), (11, 0, 0), (11, 0, 0)] φ n sl (x_rR (0, 1, 0) n sl (fun φ2 => zq_T φ2 (tot + 1) at_ cur pl va fa fp sf sp no op (x_s K tot 73) (x_s P tot p) (x_s V tot 0) ∧ ∀ j, j ≠ 2 → j ≠ 4 → j ≠ 5 → j ≠ 6 → φ2 j = φ j)) := by
  refine x_f_of rfl ?_
  refine q_load (v := (6, 1, 0)) (p2 := 1) rfl rfl rfl rfl ?_
  refine q_load (v := (0, p, 0)) (p2 := 2) rfl rfl rfl rfl ?_
  refine q_aldT (tag := 0) (v := 40) (p2 := 3) rfl hB (by omega) (by omega) hc1 rfl ?_
  refine q_callr (xs := [(0, 40, 0)]) (p2 := 4) rfl rfl rfl rfl (fun _ _ => rfl) rfl (zc_a_141_40 ) (Nat.le_refl _) (Nat.le_refl _) rfl ?_
  refine q_if0_s (p2 := 5) rfl (by decide) (by omega) rfl (fun _ => ?_) (fun hb => absurd (show 0 = 0 by omega) hb)
  refine q_load (v := (6, 1, 0)) (p2 := 12) rfl rfl rfl rfl ?_
  refine q_load (v := (0, p, 0)) (p2 := 13) rfl rfl rfl rfl ?_
  refine q_aldT (tag := 0) (v := 40) (p2 := 14) rfl hB (by omega) (by omega) hc1 rfl ?_
  refine q_callr (xs := [(0, 40, 0)]) (p2 := 15) rfl rfl rfl rfl (fun _ _ => rfl) rfl (zc_a_143_40 ) (Nat.le_refl _) (Nat.le_refl _) rfl ?_
  refine q_if0_s (p2 := 16) rfl (by decide) (by omega) rfl (fun _ => ?_) (fun hb => absurd (show 0 = 0 by omega) hb)
  refine q_load (v := (0, p, 0)) (p2 := 23) rfl rfl rfl rfl ?_
  refine q_const (p2 := 24) rfl rfl ?_
  refine q_iaddz (z := p + 1) (p2 := 25) rfl (by omega) (by omega) rfl ?_
  refine q_load (v := (0, le, 0)) (p2 := 26) rfl rfl rfl rfl ?_
  refine q_icmp_s (p2 := 27) rfl (by decide) (by omega) (by omega) rfl (fun hb => absurd hb (show ¬ (¬ (p + 1 < le)) by omega)) (fun _ => ?_)
  refine q_load (v := (6, 1, 0)) (p2 := 28) rfl rfl rfl rfl ?_
  refine q_load (v := (0, p, 0)) (p2 := 29) rfl rfl rfl rfl ?_
  refine q_const (p2 := 30) rfl rfl ?_
  refine q_iaddz (z := p + 1) (p2 := 31) rfl (by omega) (by omega) rfl ?_
  refine q_aldT (tag := 0) (v := x2) (p2 := 32) rfl hB (by omega) (by omega) hc3 rfl ?_
  refine q_goto rfl ?_
  refine q_store (loc2 := [(6, 2, 0), (6, 1, 0), (0, le, 0), (0, p, 0), (0, x2, 0), (11, 0, 0), (11, 0, 0)]) (p2 := 35) rfl rfl rfl rfl rfl ?_
  refine q_load (v := (0, p, 0)) (p2 := 36) rfl rfl rfl rfl ?_
  refine q_const (p2 := 37) rfl rfl ?_
  refine q_iaddz (z := p + 2) (p2 := 38) rfl (by omega) (by omega) rfl ?_
  refine q_load (v := (0, le, 0)) (p2 := 39) rfl rfl rfl rfl ?_
  refine q_icmp_s (p2 := 40) rfl (by decide) (by omega) (by omega) rfl (fun hb => absurd hb (show ¬ (¬ (p + 2 < le)) by omega)) (fun _ => ?_)
  refine q_load (v := (6, 1, 0)) (p2 := 41) rfl rfl rfl rfl ?_
  refine q_load (v := (0, p, 0)) (p2 := 42) rfl rfl rfl rfl ?_
  refine q_const (p2 := 43) rfl rfl ?_
  refine q_iaddz (z := p + 2) (p2 := 44) rfl (by omega) (by omega) rfl ?_
  refine q_aldT (tag := 0) (v := x3) (p2 := 45) rfl hB (by omega) (by omega) hc4 rfl ?_
  refine q_goto rfl ?_
  refine q_store (loc2 := [(6, 2, 0), (6, 1, 0), (0, le, 0), (0, p, 0), (0, x2, 0), (0, x3, 0), (11, 0, 0)]) (p2 := 48) rfl rfl rfl rfl rfl ?_
  refine q_load (v := (6, 1, 0)) (p2 := 49) rfl rfl rfl rfl ?_
  refine q_load (v := (0, p, 0)) (p2 := 50) rfl rfl rfl rfl ?_
  refine q_aldT (tag := 0) (v := 40) (p2 := 51) rfl hB (by omega) (by omega) hc1 rfl ?_
  refine q_load (v := (0, x2, 0)) (p2 := 52) rfl rfl rfl rfl ?_
  refine q_load (v := (0, x3, 0)) (p2 := 53) rfl rfl rfl rfl ?_
  refine q_callr (xs := [(0, x3, 0), (0, x2, 0), (0, 40, 0)]) (p2 := 54) rfl rfl rfl rfl (fun _ _ => rfl) rfl (zc_ls_40 ) (Nat.le_refl _) (Nat.le_refl _) rfl ?_
  refine q_store (loc2 := [(6, 2, 0), (6, 1, 0), (0, le, 0), (0, p, 0), (0, x2, 0), (0, x3, 0), (0, 4, 0)]) (p2 := 55) rfl rfl rfl rfl rfl ?_
  refine q_load (v := (0, 4, 0)) (p2 := 56) rfl rfl rfl rfl ?_
  refine q_const (p2 := 57) rfl rfl ?_
  refine q_icmp_s (p2 := 58) rfl (by decide) (by omega) (by omega) rfl (fun _ => ?_) (fun hb => absurd (show 4 = 4 by omega) hb)
  refine q_load (v := (6, 1, 0)) (p2 := 71) rfl rfl rfl rfl ?_
  refine q_load (v := (0, p, 0)) (p2 := 72) rfl rfl rfl rfl ?_
  refine q_aldT (tag := 0) (v := 40) (p2 := 73) rfl hB (by omega) (by omega) hc1 rfl ?_
  refine q_callr (xs := [(0, 40, 0)]) (p2 := 74) rfl rfl rfl rfl (fun _ _ => rfl) rfl (zc_a_146_40 ) (Nat.le_refl _) (Nat.le_refl _) rfl ?_
  refine q_store (loc2 := [(6, 2, 0), (6, 1, 0), (0, le, 0), (0, p, 0), (0, x2, 0), (0, x3, 0), (0, 73, 0)]) (p2 := 75) rfl rfl rfl rfl rfl ?_
  refine q_load (v := (0, 73, 0)) (p2 := 76) rfl rfl rfl rfl ?_
  refine q_const (p2 := 77) rfl rfl ?_
  refine q_icmp_s (p2 := 78) rfl (by decide) (by omega) (by omega) rfl (fun _ => ?_) (fun hb => absurd (show ¬ (73 = 4) by omega) hb)
  refine q_load (v := (6, 2, 0)) (p2 := 81) rfl rfl rfl rfl ?_
  refine q_load (v := (0, 73, 0)) (p2 := 82) rfl rfl rfl rfl ?_
  refine q_load (v := (0, p, 0)) (p2 := 83) rfl rfl rfl rfl ?_
  refine q_const (p2 := 84) rfl rfl ?_
  refine q_callvE (xs := [(2, 0, 0), (0, p, 0), (0, 73, 0), (6, 2, 0)]) (p2 := 85) rfl rfl rfl rfl (x_rcv_s 2 hT.1) rfl (zc_t_add hT (by omega)) (Nat.le_refl _) (Nat.le_refl _) rfl (fun φ1 hR1 => ?_)
  obtain ⟨hs1_0, fr1⟩ := hR1
  refine q_const (p2 := 86) rfl rfl ?_
  exact q_retv (v := (0, 1, 0)) rfl rfl (⟨rfl, rfl, rfl, rfl, hs1_0, fun j hj0 hj1 hj2 hj3 => (fr1 j (by omega) (by omega) (by omega) (by omega))⟩)
theorem zc_sc_40b {d n sl : Nat} {φ : FH} {tot : Nat} {at_ : Nat} {cur : Nat} {pl : Nat} {va : Nat} {fa : Nat} {fp : Nat} {sf : Nat} {sp : Nat} {no : Nat} {op : Nat} {K : Nat → Nat} {P : Nat → Nat} {V : Nat → Nat} {p : Nat} {le : Nat} {x2 : Nat} {tp : Nat → Nat} (hT : zq_T φ tot at_ cur pl va fa fp sf sp no op K P V) (hB : zq_tp φ tp) (hc0 : le = p + 2 ∧ le ≤ 3000) (hc1 : tp p = 40) (hc2 : tot < 3002) (hc3 : tp (p + 1) = x2) : x_f x_P (d + 2) 88 [(6, 2, 0), (6, 1, 0), (0, le, 0), (0, p, 0), (11, 0, 0), (11, 0, 0), (11, 0, 0)] φ n sl (x_rR (0, 1, 0) n sl (fun φ2 => zq_T φ2 (tot + 1) at_ cur pl va fa fp sf sp no op (x_s K tot 73) (x_s P tot p) (x_s V tot 0) ∧ ∀ j, j ≠ 2 → j ≠ 4 → j ≠ 5 → j ≠ 6 → φ2 j = φ j)) := by
  refine x_f_of rfl ?_
  refine q_load (v := (6, 1, 0)) (p2 := 1) rfl rfl rfl rfl ?_
  refine q_load (v := (0, p, 0)) (p2 := 2) rfl rfl rfl rfl ?_
  refine q_aldT (tag := 0) (v := 40) (p2 := 3) rfl hB (by omega) (by omega) hc1 rfl ?_
  refine q_callr (xs := [(0, 40, 0)]) (p2 := 4) rfl rfl rfl rfl (fun _ _ => rfl) rfl (zc_a_141_40 ) (Nat.le_refl _) (Nat.le_refl _) rfl ?_
  refine q_if0_s (p2 := 5) rfl (by decide) (by omega) rfl (fun _ => ?_) (fun hb => absurd (show 0 = 0 by omega) hb)
  refine q_load (v := (6, 1, 0)) (p2 := 12) rfl rfl rfl rfl ?_
  refine q_load (v := (0, p, 0)) (p2 := 13) rfl rfl rfl rfl ?_
  refine q_aldT (tag := 0) (v := 40) (p2 := 14) rfl hB (by omega) (by omega) hc1 rfl ?_
  refine q_callr (xs := [(0, 40, 0)]) (p2 := 15) rfl rfl rfl rfl (fun _ _ => rfl) rfl (zc_a_143_40 ) (Nat.le_refl _) (Nat.le_refl _) rfl ?_
  refine q_if0_s (p2 := 16) rfl (by decide) (by omega) rfl (fun _ => ?_) (fun hb => absurd (show 0 = 0 by omega) hb)
  refine q_load (v := (0, p, 0)) (p2 := 23) rfl rfl rfl rfl ?_
  refine q_const (p2 := 24) rfl rfl ?_
  refine q_iaddz (z := p + 1) (p2 := 25) rfl (by omega) (by omega) rfl ?_
  refine q_load (v := (0, le, 0)) (p2 := 26) rfl rfl rfl rfl ?_
  refine q_icmp_s (p2 := 27) rfl (by decide) (by omega) (by omega) rfl (fun hb => absurd hb (show ¬ (¬ (p + 1 < le)) by omega)) (fun _ => ?_)
  refine q_load (v := (6, 1, 0)) (p2 := 28) rfl rfl rfl rfl ?_
  refine q_load (v := (0, p, 0)) (p2 := 29) rfl rfl rfl rfl ?_
  refine q_const (p2 := 30) rfl rfl ?_
  refine q_iaddz (z := p + 1) (p2 := 31) rfl (by omega) (by omega) rfl ?_
  refine q_aldT (tag := 0) (v := x2) (p2 := 32) rfl hB (by omega) (by omega) hc3 rfl ?_
  refine q_goto rfl ?_
  refine q_store (loc2 := [(6, 2, 0), (6, 1, 0), (0, le, 0), (0, p, 0), (0, x2, 0), (11, 0, 0), (11, 0, 0)]) (p2 := 35) rfl rfl rfl rfl rfl ?_
  refine q_load (v := (0, p, 0)) (p2 := 36) rfl rfl rfl rfl ?_
  refine q_const (p2 := 37) rfl rfl ?_
  refine q_iaddz (z := p + 2) (p2 := 38) rfl (by omega) (by omega) rfl ?_
  refine q_load (v := (0, le, 0)) (p2 := 39) rfl rfl rfl rfl ?_
  refine q_icmp_s (p2 := 40) rfl (by decide) (by omega) (by omega) rfl (fun _ => ?_) (fun hb => absurd (show ¬ (p + 2 < le) by omega) hb)
  refine q_const (p2 := 47) rfl rfl ?_
  refine q_store (loc2 := [(6, 2, 0), (6, 1, 0), (0, le, 0), (0, p, 0), (0, x2, 0), (0, 0, 0), (11, 0, 0)]) (p2 := 48) rfl rfl rfl rfl rfl ?_
  refine q_load (v := (6, 1, 0)) (p2 := 49) rfl rfl rfl rfl ?_
  refine q_load (v := (0, p, 0)) (p2 := 50) rfl rfl rfl rfl ?_
  refine q_aldT (tag := 0) (v := 40) (p2 := 51) rfl hB (by omega) (by omega) hc1 rfl ?_
  refine q_load (v := (0, x2, 0)) (p2 := 52) rfl rfl rfl rfl ?_
  refine q_load (v := (0, 0, 0)) (p2 := 53) rfl rfl rfl rfl ?_
  refine q_callr (xs := [(0, 0, 0), (0, x2, 0), (0, 40, 0)]) (p2 := 54) rfl rfl rfl rfl (fun _ _ => rfl) rfl (zc_ls_40 ) (Nat.le_refl _) (Nat.le_refl _) rfl ?_
  refine q_store (loc2 := [(6, 2, 0), (6, 1, 0), (0, le, 0), (0, p, 0), (0, x2, 0), (0, 0, 0), (0, 4, 0)]) (p2 := 55) rfl rfl rfl rfl rfl ?_
  refine q_load (v := (0, 4, 0)) (p2 := 56) rfl rfl rfl rfl ?_
  refine q_const (p2 := 57) rfl rfl ?_
  refine q_icmp_s (p2 := 58) rfl (by decide) (by omega) (by omega) rfl (fun _ => ?_) (fun hb => absurd (show 4 = 4 by omega) hb)
  refine q_load (v := (6, 1, 0)) (p2 := 71) rfl rfl rfl rfl ?_
  refine q_load (v := (0, p, 0)) (p2 := 72) rfl rfl rfl rfl ?_
  refine q_aldT (tag := 0) (v := 40) (p2 := 73) rfl hB (by omega) (by omega) hc1 rfl ?_
  refine q_callr (xs := [(0, 40, 0)]) (p2 := 74) rfl rfl rfl rfl (fun _ _ => rfl) rfl (zc_a_146_40 ) (Nat.le_refl _) (Nat.le_refl _) rfl ?_
  refine q_store (loc2 := [(6, 2, 0), (6, 1, 0), (0, le, 0), (0, p, 0), (0, x2, 0), (0, 0, 0), (0, 73, 0)]) (p2 := 75) rfl rfl rfl rfl rfl ?_
  refine q_load (v := (0, 73, 0)) (p2 := 76) rfl rfl rfl rfl ?_
  refine q_const (p2 := 77) rfl rfl ?_
  refine q_icmp_s (p2 := 78) rfl (by decide) (by omega) (by omega) rfl (fun _ => ?_) (fun hb => absurd (show ¬ (73 = 4) by omega) hb)
  refine q_load (v := (6, 2, 0)) (p2 := 81) rfl rfl rfl rfl ?_
  refine q_load (v := (0, 73, 0)) (p2 := 82) rfl rfl rfl rfl ?_
  refine q_load (v := (0, p, 0)) (p2 := 83) rfl rfl rfl rfl ?_
  refine q_const (p2 := 84) rfl rfl ?_
  refine q_callvE (xs := [(2, 0, 0), (0, p, 0), (0, 73, 0), (6, 2, 0)]) (p2 := 85) rfl rfl rfl rfl (x_rcv_s 2 hT.1) rfl (zc_t_add hT (by omega)) (Nat.le_refl _) (Nat.le_refl _) rfl (fun φ1 hR1 => ?_)
  obtain ⟨hs1_0, fr1⟩ := hR1
  refine q_const (p2 := 86) rfl rfl ?_
  exact q_retv (v := (0, 1, 0)) rfl rfl (⟨rfl, rfl, rfl, rfl, hs1_0, fun j hj0 hj1 hj2 hj3 => (fr1 j (by omega) (by omega) (by omega) (by omega))⟩)
theorem zc_sc_40c {d n sl : Nat} {φ : FH} {tot : Nat} {at_ : Nat} {cur : Nat} {pl : Nat} {va : Nat} {fa : Nat} {fp : Nat} {sf : Nat} {sp : Nat} {no : Nat} {op : Nat} {K : Nat → Nat} {P : Nat → Nat} {V : Nat → Nat} {p : Nat} {le : Nat} {tp : Nat → Nat} (hT : zq_T φ tot at_ cur pl va fa fp sf sp no op K P V) (hB : zq_tp φ tp) (hc0 : le = p + 1 ∧ le ≤ 3000) (hc1 : tp p = 40) (hc2 : tot < 3002) : x_f x_P (d + 2) 88 [(6, 2, 0), (6, 1, 0), (0, le, 0), (0, p, 0), (11, 0, 0), (11, 0, 0), (11, 0, 0)] φ n sl (x_rR (0, 1, 0) n sl (fun φ2 => zq_T φ2 (tot + 1) at_ cur pl va fa fp sf sp no op (x_s K tot 73) (x_s P tot p) (x_s V tot 0) ∧ ∀ j, j ≠ 2 → j ≠ 4 → j ≠ 5 → j ≠ 6 → φ2 j = φ j)) := by
  refine x_f_of rfl ?_
  refine q_load (v := (6, 1, 0)) (p2 := 1) rfl rfl rfl rfl ?_
  refine q_load (v := (0, p, 0)) (p2 := 2) rfl rfl rfl rfl ?_
  refine q_aldT (tag := 0) (v := 40) (p2 := 3) rfl hB (by omega) (by omega) hc1 rfl ?_
  refine q_callr (xs := [(0, 40, 0)]) (p2 := 4) rfl rfl rfl rfl (fun _ _ => rfl) rfl (zc_a_141_40 ) (Nat.le_refl _) (Nat.le_refl _) rfl ?_
  refine q_if0_s (p2 := 5) rfl (by decide) (by omega) rfl (fun _ => ?_) (fun hb => absurd (show 0 = 0 by omega) hb)
  refine q_load (v := (6, 1, 0)) (p2 := 12) rfl rfl rfl rfl ?_
  refine q_load (v := (0, p, 0)) (p2 := 13) rfl rfl rfl rfl ?_
  refine q_aldT (tag := 0) (v := 40) (p2 := 14) rfl hB (by omega) (by omega) hc1 rfl ?_
  refine q_callr (xs := [(0, 40, 0)]) (p2 := 15) rfl rfl rfl rfl (fun _ _ => rfl) rfl (zc_a_143_40 ) (Nat.le_refl _) (Nat.le_refl _) rfl ?_
  refine q_if0_s (p2 := 16) rfl (by decide) (by omega) rfl (fun _ => ?_) (fun hb => absurd (show 0 = 0 by omega) hb)
  refine q_load (v := (0, p, 0)) (p2 := 23) rfl rfl rfl rfl ?_
  refine q_const (p2 := 24) rfl rfl ?_
  refine q_iaddz (z := p + 1) (p2 := 25) rfl (by omega) (by omega) rfl ?_
  refine q_load (v := (0, le, 0)) (p2 := 26) rfl rfl rfl rfl ?_
  refine q_icmp_s (p2 := 27) rfl (by decide) (by omega) (by omega) rfl (fun _ => ?_) (fun hb => absurd (show ¬ (p + 1 < le) by omega) hb)
  refine q_const (p2 := 34) rfl rfl ?_
  refine q_store (loc2 := [(6, 2, 0), (6, 1, 0), (0, le, 0), (0, p, 0), (0, 0, 0), (11, 0, 0), (11, 0, 0)]) (p2 := 35) rfl rfl rfl rfl rfl ?_
  refine q_load (v := (0, p, 0)) (p2 := 36) rfl rfl rfl rfl ?_
  refine q_const (p2 := 37) rfl rfl ?_
  refine q_iaddz (z := p + 2) (p2 := 38) rfl (by omega) (by omega) rfl ?_
  refine q_load (v := (0, le, 0)) (p2 := 39) rfl rfl rfl rfl ?_
  refine q_icmp_s (p2 := 40) rfl (by decide) (by omega) (by omega) rfl (fun _ => ?_) (fun hb => absurd (show ¬ (p + 2 < le) by omega) hb)
  refine q_const (p2 := 47) rfl rfl ?_
  refine q_store (loc2 := [(6, 2, 0), (6, 1, 0), (0, le, 0), (0, p, 0), (0, 0, 0), (0, 0, 0), (11, 0, 0)]) (p2 := 48) rfl rfl rfl rfl rfl ?_
  refine q_load (v := (6, 1, 0)) (p2 := 49) rfl rfl rfl rfl ?_
  refine q_load (v := (0, p, 0)) (p2 := 50) rfl rfl rfl rfl ?_
  refine q_aldT (tag := 0) (v := 40) (p2 := 51) rfl hB (by omega) (by omega) hc1 rfl ?_
  refine q_load (v := (0, 0, 0)) (p2 := 52) rfl rfl rfl rfl ?_
  refine q_load (v := (0, 0, 0)) (p2 := 53) rfl rfl rfl rfl ?_
  refine q_callr (xs := [(0, 0, 0), (0, 0, 0), (0, 40, 0)]) (p2 := 54) rfl rfl rfl rfl (fun _ _ => rfl) rfl (zc_ls_40 ) (Nat.le_refl _) (Nat.le_refl _) rfl ?_
  refine q_store (loc2 := [(6, 2, 0), (6, 1, 0), (0, le, 0), (0, p, 0), (0, 0, 0), (0, 0, 0), (0, 4, 0)]) (p2 := 55) rfl rfl rfl rfl rfl ?_
  refine q_load (v := (0, 4, 0)) (p2 := 56) rfl rfl rfl rfl ?_
  refine q_const (p2 := 57) rfl rfl ?_
  refine q_icmp_s (p2 := 58) rfl (by decide) (by omega) (by omega) rfl (fun _ => ?_) (fun hb => absurd (show 4 = 4 by omega) hb)
  refine q_load (v := (6, 1, 0)) (p2 := 71) rfl rfl rfl rfl ?_
  refine q_load (v := (0, p, 0)) (p2 := 72) rfl rfl rfl rfl ?_
  refine q_aldT (tag := 0) (v := 40) (p2 := 73) rfl hB (by omega) (by omega) hc1 rfl ?_
  refine q_callr (xs := [(0, 40, 0)]) (p2 := 74) rfl rfl rfl rfl (fun _ _ => rfl) rfl (zc_a_146_40 ) (Nat.le_refl _) (Nat.le_refl _) rfl ?_
  refine q_store (loc2 := [(6, 2, 0), (6, 1, 0), (0, le, 0), (0, p, 0), (0, 0, 0), (0, 0, 0), (0, 73, 0)]) (p2 := 75) rfl rfl rfl rfl rfl ?_
  refine q_load (v := (0, 73, 0)) (p2 := 76) rfl rfl rfl rfl ?_
  refine q_const (p2 := 77) rfl rfl ?_
  refine q_icmp_s (p2 := 78) rfl (by decide) (by omega) (by omega) rfl (fun _ => ?_) (fun hb => absurd (show ¬ (73 = 4) by omega) hb)
  refine q_load (v := (6, 2, 0)) (p2 := 81) rfl rfl rfl rfl ?_
  refine q_load (v := (0, 73, 0)) (p2 := 82) rfl rfl rfl rfl ?_
  refine q_load (v := (0, p, 0)) (p2 := 83) rfl rfl rfl rfl ?_
  refine q_const (p2 := 84) rfl rfl ?_
  refine q_callvE (xs := [(2, 0, 0), (0, p, 0), (0, 73, 0), (6, 2, 0)]) (p2 := 85) rfl rfl rfl rfl (x_rcv_s 2 hT.1) rfl (zc_t_add hT (by omega)) (Nat.le_refl _) (Nat.le_refl _) rfl (fun φ1 hR1 => ?_)
  obtain ⟨hs1_0, fr1⟩ := hR1
  refine q_const (p2 := 86) rfl rfl ?_
  exact q_retv (v := (0, 1, 0)) rfl rfl (⟨rfl, rfl, rfl, rfl, hs1_0, fun j hj0 hj1 hj2 hj3 => (fr1 j (by omega) (by omega) (by omega) (by omega))⟩)
theorem zc_a_141_41 {d n sl : Nat} {φ : FH}    : x_f x_P (d + 1) 141 [(0, 41, 0)] φ n sl (x_r φ n sl (0, 0, 0)) := by
  refine x_f_of rfl ?_
  refine q_load (v := (0, 41, 0)) (p2 := 1) rfl rfl rfl rfl ?_
  refine q_const (p2 := 2) rfl rfl ?_
  refine q_icmp_s (p2 := 3) rfl (by decide) (by omega) (by omega) rfl (fun _ => ?_) (fun hb => absurd (show 41 < 97 by omega) hb)
  refine q_const (p2 := 9) rfl rfl ?_
  exact q_retv (v := (0, 0, 0)) rfl rfl (⟨rfl, rfl, rfl, rfl, rfl⟩)
theorem zc_a_143_41 {d n sl : Nat} {φ : FH}    : x_f x_P (d + 1) 143 [(0, 41, 0)] φ n sl (x_r φ n sl (0, 0, 0)) := by
  refine x_f_of rfl ?_
  refine q_load (v := (0, 41, 0)) (p2 := 1) rfl rfl rfl rfl ?_
  refine q_const (p2 := 2) rfl rfl ?_
  refine q_icmp_s (p2 := 3) rfl (by decide) (by omega) (by omega) rfl (fun _ => ?_) (fun hb => absurd (show 41 < 48 by omega) hb)
  refine q_const (p2 := 9) rfl rfl ?_
  exact q_retv (v := (0, 0, 0)) rfl rfl (⟨rfl, rfl, rfl, rfl, rfl⟩)
theorem zc_a_146_41 {d n sl : Nat} {φ : FH}    : x_f x_P (d + 1) 146 [(0, 41, 0)] φ n sl (x_r φ n sl (0, 74, 0)) := by
  refine x_f_of rfl ?_
  refine q_load (v := (0, 41, 0)) (p2 := 1) rfl rfl rfl rfl ?_
  refine q_switch (tgt := 20) rfl (by decide) rfl ?_
  refine q_const (p2 := 21) rfl rfl ?_
  exact q_retv (v := (0, 74, 0)) rfl rfl (⟨rfl, rfl, rfl, rfl, rfl⟩)
theorem zc_sc_41a {d n sl : Nat} {φ : FH} {tot : Nat} {at_ : Nat} {cur : Nat} {pl : Nat} {va : Nat} {fa : Nat} {fp : Nat} {sf : Nat} {sp : Nat} {no : Nat} {op : Nat} {K : Nat → Nat} {P : Nat → Nat} {V : Nat → Nat} {p : Nat} {le : Nat} {x2 : Nat} {x3 : Nat} {tp : Nat → Nat} (hT : zq_T φ tot at_ cur pl va fa fp sf sp no op K P V) (hB : zq_tp φ tp) (hc0 : p + 2 < le ∧ le ≤ 3000) (hc1 : tp p = 41) (hc2 : tot < 3002) (hc3 : tp (p + 1) = x2) (hc4 : tp (p + 2) = x3) : x_f x_P (d + 2) 88 [(6, 2, 0), (6, 1, 0), (0, le, 0), (0, p, 0), (11, 0, 0), (11, 0, 0), (11, 0, 0)] φ n sl (x_rR (0, 1, 0) n sl (fun φ2 => zq_T φ2 (tot + 1) at_ cur pl va fa fp sf sp no op (x_s K tot 74) (x_s P tot p) (x_s V tot 0) ∧ ∀ j, j ≠ 2 → j ≠ 4 → j ≠ 5 → j ≠ 6 → φ2 j = φ j)) := by
  refine x_f_of rfl ?_
  refine q_load (v := (6, 1, 0)) (p2 := 1) rfl rfl rfl rfl ?_
  refine q_load (v := (0, p, 0)) (p2 := 2) rfl rfl rfl rfl ?_
  refine q_aldT (tag := 0) (v := 41) (p2 := 3) rfl hB (by omega) (by omega) hc1 rfl ?_
  refine q_callr (xs := [(0, 41, 0)]) (p2 := 4) rfl rfl rfl rfl (fun _ _ => rfl) rfl (zc_a_141_41 ) (Nat.le_refl _) (Nat.le_refl _) rfl ?_
  refine q_if0_s (p2 := 5) rfl (by decide) (by omega) rfl (fun _ => ?_) (fun hb => absurd (show 0 = 0 by omega) hb)
  refine q_load (v := (6, 1, 0)) (p2 := 12) rfl rfl rfl rfl ?_
  refine q_load (v := (0, p, 0)) (p2 := 13) rfl rfl rfl rfl ?_
  refine q_aldT (tag := 0) (v := 41) (p2 := 14) rfl hB (by omega) (by omega) hc1 rfl ?_
  refine q_callr (xs := [(0, 41, 0)]) (p2 := 15) rfl rfl rfl rfl (fun _ _ => rfl) rfl (zc_a_143_41 ) (Nat.le_refl _) (Nat.le_refl _) rfl ?_
  refine q_if0_s (p2 := 16) rfl (by decide) (by omega) rfl (fun _ => ?_) (fun hb => absurd (show 0 = 0 by omega) hb)
  refine q_load (v := (0, p, 0)) (p2 := 23) rfl rfl rfl rfl ?_
  refine q_const (p2 := 24) rfl rfl ?_
  refine q_iaddz (z := p + 1) (p2 := 25) rfl (by omega) (by omega) rfl ?_
  refine q_load (v := (0, le, 0)) (p2 := 26) rfl rfl rfl rfl ?_
  refine q_icmp_s (p2 := 27) rfl (by decide) (by omega) (by omega) rfl (fun hb => absurd hb (show ¬ (¬ (p + 1 < le)) by omega)) (fun _ => ?_)
  refine q_load (v := (6, 1, 0)) (p2 := 28) rfl rfl rfl rfl ?_
  refine q_load (v := (0, p, 0)) (p2 := 29) rfl rfl rfl rfl ?_
  refine q_const (p2 := 30) rfl rfl ?_
  refine q_iaddz (z := p + 1) (p2 := 31) rfl (by omega) (by omega) rfl ?_
  refine q_aldT (tag := 0) (v := x2) (p2 := 32) rfl hB (by omega) (by omega) hc3 rfl ?_
  refine q_goto rfl ?_
  refine q_store (loc2 := [(6, 2, 0), (6, 1, 0), (0, le, 0), (0, p, 0), (0, x2, 0), (11, 0, 0), (11, 0, 0)]) (p2 := 35) rfl rfl rfl rfl rfl ?_
  refine q_load (v := (0, p, 0)) (p2 := 36) rfl rfl rfl rfl ?_
  refine q_const (p2 := 37) rfl rfl ?_
  refine q_iaddz (z := p + 2) (p2 := 38) rfl (by omega) (by omega) rfl ?_
  refine q_load (v := (0, le, 0)) (p2 := 39) rfl rfl rfl rfl ?_
  refine q_icmp_s (p2 := 40) rfl (by decide) (by omega) (by omega) rfl (fun hb => absurd hb (show ¬ (¬ (p + 2 < le)) by omega)) (fun _ => ?_)
  refine q_load (v := (6, 1, 0)) (p2 := 41) rfl rfl rfl rfl ?_
  refine q_load (v := (0, p, 0)) (p2 := 42) rfl rfl rfl rfl ?_
  refine q_const (p2 := 43) rfl rfl ?_
  refine q_iaddz (z := p + 2) (p2 := 44) rfl (by omega) (by omega) rfl ?_
  refine q_aldT (tag := 0) (v := x3) (p2 := 45) rfl hB (by omega) (by omega) hc4 rfl ?_
  refine q_goto rfl ?_
  refine q_store (loc2 := [(6, 2, 0), (6, 1, 0), (0, le, 0), (0, p, 0), (0, x2, 0), (0, x3, 0), (11, 0, 0)]) (p2 := 48) rfl rfl rfl rfl rfl ?_
  refine q_load (v := (6, 1, 0)) (p2 := 49) rfl rfl rfl rfl ?_
  refine q_load (v := (0, p, 0)) (p2 := 50) rfl rfl rfl rfl ?_
  refine q_aldT (tag := 0) (v := 41) (p2 := 51) rfl hB (by omega) (by omega) hc1 rfl ?_
  refine q_load (v := (0, x2, 0)) (p2 := 52) rfl rfl rfl rfl ?_
  refine q_load (v := (0, x3, 0)) (p2 := 53) rfl rfl rfl rfl ?_
  refine q_callr (xs := [(0, x3, 0), (0, x2, 0), (0, 41, 0)]) (p2 := 54) rfl rfl rfl rfl (fun _ _ => rfl) rfl (zc_ls_41 ) (Nat.le_refl _) (Nat.le_refl _) rfl ?_
  refine q_store (loc2 := [(6, 2, 0), (6, 1, 0), (0, le, 0), (0, p, 0), (0, x2, 0), (0, x3, 0), (0, 4, 0)]) (p2 := 55) rfl rfl rfl rfl rfl ?_
  refine q_load (v := (0, 4, 0)) (p2 := 56) rfl rfl rfl rfl ?_
  refine q_const (p2 := 57) rfl rfl ?_
  refine q_icmp_s (p2 := 58) rfl (by decide) (by omega) (by omega) rfl (fun _ => ?_) (fun hb => absurd (show 4 = 4 by omega) hb)
  refine q_load (v := (6, 1, 0)) (p2 := 71) rfl rfl rfl rfl ?_
  refine q_load (v := (0, p, 0)) (p2 := 72) rfl rfl rfl rfl ?_
  refine q_aldT (tag := 0) (v := 41) (p2 := 73) rfl hB (by omega) (by omega) hc1 rfl ?_
  refine q_callr (xs := [(0, 41, 0)]) (p2 := 74) rfl rfl rfl rfl (fun _ _ => rfl) rfl (zc_a_146_41 ) (Nat.le_refl _) (Nat.le_refl _) rfl ?_
  refine q_store (loc2 := [(6, 2, 0), (6, 1, 0), (0, le, 0), (0, p, 0), (0, x2, 0), (0, x3, 0), (0, 74, 0)]) (p2 := 75) rfl rfl rfl rfl rfl ?_
  refine q_load (v := (0, 74, 0)) (p2 := 76) rfl rfl rfl rfl ?_
  refine q_const (p2 := 77) rfl rfl ?_
  refine q_icmp_s (p2 := 78) rfl (by decide) (by omega) (by omega) rfl (fun _ => ?_) (fun hb => absurd (show ¬ (74 = 4) by omega) hb)
  refine q_load (v := (6, 2, 0)) (p2 := 81) rfl rfl rfl rfl ?_
  refine q_load (v := (0, 74, 0)) (p2 := 82) rfl rfl rfl rfl ?_
  refine q_load (v := (0, p, 0)) (p2 := 83) rfl rfl rfl rfl ?_
  refine q_const (p2 := 84) rfl rfl ?_
  refine q_callvE (xs := [(2, 0, 0), (0, p, 0), (0, 74, 0), (6, 2, 0)]) (p2 := 85) rfl rfl rfl rfl (x_rcv_s 2 hT.1) rfl (zc_t_add hT (by omega)) (Nat.le_refl _) (Nat.le_refl _) rfl (fun φ1 hR1 => ?_)
  obtain ⟨hs1_0, fr1⟩ := hR1
  refine q_const (p2 := 86) rfl rfl ?_
  exact q_retv (v := (0, 1, 0)) rfl rfl (⟨rfl, rfl, rfl, rfl, hs1_0, fun j hj0 hj1 hj2 hj3 => (fr1 j (by omega) (by omega) (by omega) (by omega))⟩)
theorem zc_sc_41b {d n sl : Nat} {φ : FH} {tot : Nat} {at_ : Nat} {cur : Nat} {pl : Nat} {va : Nat} {fa : Nat} {fp : Nat} {sf : Nat} {sp : Nat} {no : Nat} {op : Nat} {K : Nat → Nat} {P : Nat → Nat} {V : Nat → Nat} {p : Nat} {le : Nat} {x2 : Nat} {tp : Nat → Nat} (hT : zq_T φ tot at_ cur pl va fa fp sf sp no op K P V) (hB : zq_tp φ tp) (hc0 : le = p + 2 ∧ le ≤ 3000) (hc1 : tp p = 41) (hc2 : tot < 3002) (hc3 : tp (p + 1) = x2) : x_f x_P (d + 2) 88 [(6, 2, 0), (6, 1, 0), (0, le, 0), (0, p, 0), (11, 0, 0), (11, 0, 0), (11, 0, 0)] φ n sl (x_rR (0, 1, 0) n sl (fun φ2 => zq_T φ2 (tot + 1) at_ cur pl va fa fp sf sp no op (x_s K tot 74) (x_s P tot p) (x_s V tot 0) ∧ ∀ j, j ≠ 2 → j ≠ 4 → j ≠ 5 → j ≠ 6 → φ2 j = φ j)) := by
  refine x_f_of rfl ?_
  refine q_load (v := (6, 1, 0)) (p2 := 1) rfl rfl rfl rfl ?_
  refine q_load (v := (0, p, 0)) (p2 := 2) rfl rfl rfl rfl ?_
  refine q_aldT (tag := 0) (v := 41) (p2 := 3) rfl hB (by omega) (by omega) hc1 rfl ?_
  refine q_callr (xs := [(0, 41, 0)]) (p2 := 4) rfl rfl rfl rfl (fun _ _ => rfl) rfl (zc_a_141_41 ) (Nat.le_refl _) (Nat.le_refl _) rfl ?_
  refine q_if0_s (p2 := 5) rfl (by decide) (by omega) rfl (fun _ => ?_) (fun hb => absurd (show 0 = 0 by omega) hb)
  refine q_load (v := (6, 1, 0)) (p2 := 12) rfl rfl rfl rfl ?_
  refine q_load (v := (0, p, 0)) (p2 := 13) rfl rfl rfl rfl ?_
  refine q_aldT (tag := 0) (v := 41) (p2 := 14) rfl hB (by omega) (by omega) hc1 rfl ?_
  refine q_callr (xs := [(0, 41, 0)]) (p2 := 15) rfl rfl rfl rfl (fun _ _ => rfl) rfl (zc_a_143_41 ) (Nat.le_refl _) (Nat.le_refl _) rfl ?_
  refine q_if0_s (p2 := 16) rfl (by decide) (by omega) rfl (fun _ => ?_) (fun hb => absurd (show 0 = 0 by omega) hb)
  refine q_load (v := (0, p, 0)) (p2 := 23) rfl rfl rfl rfl ?_
  refine q_const (p2 := 24) rfl rfl ?_
  refine q_iaddz (z := p + 1) (p2 := 25) rfl (by omega) (by omega) rfl ?_
  refine q_load (v := (0, le, 0)) (p2 := 26) rfl rfl rfl rfl ?_
  refine q_icmp_s (p2 := 27) rfl (by decide) (by omega) (by omega) rfl (fun hb => absurd hb (show ¬ (¬ (p + 1 < le)) by omega)) (fun _ => ?_)
  refine q_load (v := (6, 1, 0)) (p2 := 28) rfl rfl rfl rfl ?_
  refine q_load (v := (0, p, 0)) (p2 := 29) rfl rfl rfl rfl ?_
  refine q_const (p2 := 30) rfl rfl ?_
  refine q_iaddz (z := p + 1) (p2 := 31) rfl (by omega) (by omega) rfl ?_
  refine q_aldT (tag := 0) (v := x2) (p2 := 32) rfl hB (by omega) (by omega) hc3 rfl ?_
  refine q_goto rfl ?_
  refine q_store (loc2 := [(6, 2, 0), (6, 1, 0), (0, le, 0), (0, p, 0), (0, x2, 0), (11, 0, 0), (11, 0, 0)]) (p2 := 35) rfl rfl rfl rfl rfl ?_
  refine q_load (v := (0, p, 0)) (p2 := 36) rfl rfl rfl rfl ?_
  refine q_const (p2 := 37) rfl rfl ?_
  refine q_iaddz (z := p + 2) (p2 := 38) rfl (by omega) (by omega) rfl ?_
  refine q_load (v := (0, le, 0)) (p2 := 39) rfl rfl rfl rfl ?_
  refine q_icmp_s (p2 := 40) rfl (by decide) (by omega) (by omega) rfl (fun _ => ?_) (fun hb => absurd (show ¬ (p + 2 < le) by omega) hb)
  refine q_const (p2 := 47) rfl rfl ?_
  refine q_store (loc2 := [(6, 2, 0), (6, 1, 0), (0, le, 0), (0, p, 0), (0, x2, 0), (0, 0, 0), (11, 0, 0)]) (p2 := 48) rfl rfl rfl rfl rfl ?_
  refine q_load (v := (6, 1, 0)) (p2 := 49) rfl rfl rfl rfl ?_
  refine q_load (v := (0, p, 0)) (p2 := 50) rfl rfl rfl rfl ?_
  refine q_aldT (tag := 0) (v := 41) (p2 := 51) rfl hB (by omega) (by omega) hc1 rfl ?_
  refine q_load (v := (0, x2, 0)) (p2 := 52) rfl rfl rfl rfl ?_
  refine q_load (v := (0, 0, 0)) (p2 := 53) rfl rfl rfl rfl ?_
  refine q_callr (xs := [(0, 0, 0), (0, x2, 0), (0, 41, 0)]) (p2 := 54) rfl rfl rfl rfl (fun _ _ => rfl) rfl (zc_ls_41 ) (Nat.le_refl _) (Nat.le_refl _) rfl ?_
  refine q_store (loc2 := [(6, 2, 0), (6, 1, 0), (0, le, 0), (0, p, 0), (0, x2, 0), (0, 0, 0), (0, 4, 0)]) (p2 := 55) rfl rfl rfl rfl rfl ?_
  refine q_load (v := (0, 4, 0)) (p2 := 56) rfl rfl rfl rfl ?_
  refine q_const (p2 := 57) rfl rfl ?_
  refine q_icmp_s (p2 := 58) rfl (by decide) (by omega) (by omega) rfl (fun _ => ?_) (fun hb => absurd (show 4 = 4 by omega) hb)
  refine q_load (v := (6, 1, 0)) (p2 := 71) rfl rfl rfl rfl ?_
  refine q_load (v := (0, p, 0)) (p2 := 72) rfl rfl rfl rfl ?_
  refine q_aldT (tag := 0) (v := 41) (p2 := 73) rfl hB (by omega) (by omega) hc1 rfl ?_
  refine q_callr (xs := [(0, 41, 0)]) (p2 := 74) rfl rfl rfl rfl (fun _ _ => rfl) rfl (zc_a_146_41 ) (Nat.le_refl _) (Nat.le_refl _) rfl ?_
  refine q_store (loc2 := [(6, 2, 0), (6, 1, 0), (0, le, 0), (0, p, 0), (0, x2, 0), (0, 0, 0), (0, 74, 0)]) (p2 := 75) rfl rfl rfl rfl rfl ?_
  refine q_load (v := (0, 74, 0)) (p2 := 76) rfl rfl rfl rfl ?_
  refine q_const (p2 := 77) rfl rfl ?_
  refine q_icmp_s (p2 := 78) rfl (by decide) (by omega) (by omega) rfl (fun _ => ?_) (fun hb => absurd (show ¬ (74 = 4) by omega) hb)
  refine q_load (v := (6, 2, 0)) (p2 := 81) rfl rfl rfl rfl ?_
  refine q_load (v := (0, 74, 0)) (p2 := 82) rfl rfl rfl rfl ?_
  refine q_load (v := (0, p, 0)) (p2 := 83) rfl rfl rfl rfl ?_
  refine q_const (p2 := 84) rfl rfl ?_
  refine q_callvE (xs := [(2, 0, 0), (0, p, 0), (0, 74, 0), (6, 2, 0)]) (p2 := 85) rfl rfl rfl rfl (x_rcv_s 2 hT.1) rfl (zc_t_add hT (by omega)) (Nat.le_refl _) (Nat.le_refl _) rfl (fun φ1 hR1 => ?_)
  obtain ⟨hs1_0, fr1⟩ := hR1
  refine q_const (p2 := 86) rfl rfl ?_
  exact q_retv (v := (0, 1, 0)) rfl rfl (⟨rfl, rfl, rfl, rfl, hs1_0, fun j hj0 hj1 hj2 hj3 => (fr1 j (by omega) (by omega) (by omega) (by omega))⟩)
theorem zc_sc_41c {d n sl : Nat} {φ : FH} {tot : Nat} {at_ : Nat} {cur : Nat} {pl : Nat} {va : Nat} {fa : Nat} {fp : Nat} {sf : Nat} {sp : Nat} {no : Nat} {op : Nat} {K : Nat → Nat} {P : Nat → Nat} {V : Nat → Nat} {p : Nat} {le : Nat} {tp : Nat → Nat} (hT : zq_T φ tot at_ cur pl va fa fp sf sp no op K P V) (hB : zq_tp φ tp) (hc0 : le = p + 1 ∧ le ≤ 3000) (hc1 : tp p = 41) (hc2 : tot < 3002) : x_f x_P (d + 2) 88 [(6, 2, 0), (6, 1, 0), (0, le, 0), (0, p, 0), (11, 0, 0), (11, 0, 0), (11, 0, 0)] φ n sl (x_rR (0, 1, 0) n sl (fun φ2 => zq_T φ2 (tot + 1) at_ cur pl va fa fp sf sp no op (x_s K tot 74) (x_s P tot p) (x_s V tot 0) ∧ ∀ j, j ≠ 2 → j ≠ 4 → j ≠ 5 → j ≠ 6 → φ2 j = φ j)) := by
  refine x_f_of rfl ?_
  refine q_load (v := (6, 1, 0)) (p2 := 1) rfl rfl rfl rfl ?_
  refine q_load (v := (0, p, 0)) (p2 := 2) rfl rfl rfl rfl ?_
  refine q_aldT (tag := 0) (v := 41) (p2 := 3) rfl hB (by omega) (by omega) hc1 rfl ?_
  refine q_callr (xs := [(0, 41, 0)]) (p2 := 4) rfl rfl rfl rfl (fun _ _ => rfl) rfl (zc_a_141_41 ) (Nat.le_refl _) (Nat.le_refl _) rfl ?_
  refine q_if0_s (p2 := 5) rfl (by decide) (by omega) rfl (fun _ => ?_) (fun hb => absurd (show 0 = 0 by omega) hb)
  refine q_load (v := (6, 1, 0)) (p2 := 12) rfl rfl rfl rfl ?_
  refine q_load (v := (0, p, 0)) (p2 := 13) rfl rfl rfl rfl ?_
  refine q_aldT (tag := 0) (v := 41) (p2 := 14) rfl hB (by omega) (by omega) hc1 rfl ?_
  refine q_callr (xs := [(0, 41, 0)]) (p2 := 15) rfl rfl rfl rfl (fun _ _ => rfl) rfl (zc_a_143_41 ) (Nat.le_refl _) (Nat.le_refl _) rfl ?_
  refine q_if0_s (p2 := 16) rfl (by decide) (by omega) rfl (fun _ => ?_) (fun hb => absurd (show 0 = 0 by omega) hb)
  refine q_load (v := (0, p, 0)) (p2 := 23) rfl rfl rfl rfl ?_
  refine q_const (p2 := 24) rfl rfl ?_
  refine q_iaddz (z := p + 1) (p2 := 25) rfl (by omega) (by omega) rfl ?_
  refine q_load (v := (0, le, 0)) (p2 := 26) rfl rfl rfl rfl ?_
  refine q_icmp_s (p2 := 27) rfl (by decide) (by omega) (by omega) rfl (fun _ => ?_) (fun hb => absurd (show ¬ (p + 1 < le) by omega) hb)
  refine q_const (p2 := 34) rfl rfl ?_
  refine q_store (loc2 := [(6, 2, 0), (6, 1, 0), (0, le, 0), (0, p, 0), (0, 0, 0), (11, 0, 0), (11, 0, 0)]) (p2 := 35) rfl rfl rfl rfl rfl ?_
  refine q_load (v := (0, p, 0)) (p2 := 36) rfl rfl rfl rfl ?_
  refine q_const (p2 := 37) rfl rfl ?_
  refine q_iaddz (z := p + 2) (p2 := 38) rfl (by omega) (by omega) rfl ?_
  refine q_load (v := (0, le, 0)) (p2 := 39) rfl rfl rfl rfl ?_
  refine q_icmp_s (p2 := 40) rfl (by decide) (by omega) (by omega) rfl (fun _ => ?_) (fun hb => absurd (show ¬ (p + 2 < le) by omega) hb)
  refine q_const (p2 := 47) rfl rfl ?_
  refine q_store (loc2 := [(6, 2, 0), (6, 1, 0), (0, le, 0), (0, p, 0), (0, 0, 0), (0, 0, 0), (11, 0, 0)]) (p2 := 48) rfl rfl rfl rfl rfl ?_
  refine q_load (v := (6, 1, 0)) (p2 := 49) rfl rfl rfl rfl ?_
  refine q_load (v := (0, p, 0)) (p2 := 50) rfl rfl rfl rfl ?_
  refine q_aldT (tag := 0) (v := 41) (p2 := 51) rfl hB (by omega) (by omega) hc1 rfl ?_
  refine q_load (v := (0, 0, 0)) (p2 := 52) rfl rfl rfl rfl ?_
  refine q_load (v := (0, 0, 0)) (p2 := 53) rfl rfl rfl rfl ?_
  refine q_callr (xs := [(0, 0, 0), (0, 0, 0), (0, 41, 0)]) (p2 := 54) rfl rfl rfl rfl (fun _ _ => rfl) rfl (zc_ls_41 ) (Nat.le_refl _) (Nat.le_refl _) rfl ?_
  refine q_store (loc2 := [(6, 2, 0), (6, 1, 0), (0, le, 0), (0, p, 0), (0, 0, 0), (0, 0, 0), (0, 4, 0)]) (p2 := 55) rfl rfl rfl rfl rfl ?_
  refine q_load (v := (0, 4, 0)) (p2 := 56) rfl rfl rfl rfl ?_
  refine q_const (p2 := 57) rfl rfl ?_
  refine q_icmp_s (p2 := 58) rfl (by decide) (by omega) (by omega) rfl (fun _ => ?_) (fun hb => absurd (show 4 = 4 by omega) hb)
  refine q_load (v := (6, 1, 0)) (p2 := 71) rfl rfl rfl rfl ?_
  refine q_load (v := (0, p, 0)) (p2 := 72) rfl rfl rfl rfl ?_
  refine q_aldT (tag := 0) (v := 41) (p2 := 73) rfl hB (by omega) (by omega) hc1 rfl ?_
  refine q_callr (xs := [(0, 41, 0)]) (p2 := 74) rfl rfl rfl rfl (fun _ _ => rfl) rfl (zc_a_146_41 ) (Nat.le_refl _) (Nat.le_refl _) rfl ?_
  refine q_store (loc2 := [(6, 2, 0), (6, 1, 0), (0, le, 0), (0, p, 0), (0, 0, 0), (0, 0, 0), (0, 74, 0)]) (p2 := 75) rfl rfl rfl rfl rfl ?_
  refine q_load (v := (0, 74, 0)) (p2 := 76) rfl rfl rfl rfl ?_
  refine q_const (p2 := 77) rfl rfl ?_
  refine q_icmp_s (p2 := 78) rfl (by decide) (by omega) (by omega) rfl (fun _ => ?_) (fun hb => absurd (show ¬ (74 = 4) by omega) hb)
  refine q_load (v := (6, 2, 0)) (p2 := 81) rfl rfl rfl rfl ?_
  refine q_load (v := (0, 74, 0)) (p2 := 82) rfl rfl rfl rfl ?_
  refine q_load (v := (0, p, 0)) (p2 := 83) rfl rfl rfl rfl ?_
  refine q_const (p2 := 84) rfl rfl ?_
  refine q_callvE (xs := [(2, 0, 0), (0, p, 0), (0, 74, 0), (6, 2, 0)]) (p2 := 85) rfl rfl rfl rfl (x_rcv_s 2 hT.1) rfl (zc_t_add hT (by omega)) (Nat.le_refl _) (Nat.le_refl _) rfl (fun φ1 hR1 => ?_)
  obtain ⟨hs1_0, fr1⟩ := hR1
  refine q_const (p2 := 86) rfl rfl ?_
  exact q_retv (v := (0, 1, 0)) rfl rfl (⟨rfl, rfl, rfl, rfl, hs1_0, fun j hj0 hj1 hj2 hj3 => (fr1 j (by omega) (by omega) (by omega) (by omega))⟩)
theorem zc_a_141_43 {d n sl : Nat} {φ : FH}    : x_f x_P (d + 1) 141 [(0, 43, 0)] φ n sl (x_r φ n sl (0, 0, 0)) := by
  refine x_f_of rfl ?_
  refine q_load (v := (0, 43, 0)) (p2 := 1) rfl rfl rfl rfl ?_
  refine q_const (p2 := 2) rfl rfl ?_
  refine q_icmp_s (p2 := 3) rfl (by decide) (by omega) (by omega) rfl (fun _ => ?_) (fun hb => absurd (show 43 < 97 by omega) hb)
  refine q_const (p2 := 9) rfl rfl ?_
  exact q_retv (v := (0, 0, 0)) rfl rfl (⟨rfl, rfl, rfl, rfl, rfl⟩)
theorem zc_a_143_43 {d n sl : Nat} {φ : FH}    : x_f x_P (d + 1) 143 [(0, 43, 0)] φ n sl (x_r φ n sl (0, 0, 0)) := by
  refine x_f_of rfl ?_
  refine q_load (v := (0, 43, 0)) (p2 := 1) rfl rfl rfl rfl ?_
  refine q_const (p2 := 2) rfl rfl ?_
  refine q_icmp_s (p2 := 3) rfl (by decide) (by omega) (by omega) rfl (fun _ => ?_) (fun hb => absurd (show 43 < 48 by omega) hb)
  refine q_const (p2 := 9) rfl rfl ?_
  exact q_retv (v := (0, 0, 0)) rfl rfl (⟨rfl, rfl, rfl, rfl, rfl⟩)
theorem zc_a_146_43 {d n sl : Nat} {φ : FH}    : x_f x_P (d + 1) 146 [(0, 43, 0)] φ n sl (x_r φ n sl (0, 69, 0)) := by
  refine x_f_of rfl ?_
  refine q_load (v := (0, 43, 0)) (p2 := 1) rfl rfl rfl rfl ?_
  refine q_switch (tgt := 10) rfl (by decide) rfl ?_
  refine q_const (p2 := 11) rfl rfl ?_
  exact q_retv (v := (0, 69, 0)) rfl rfl (⟨rfl, rfl, rfl, rfl, rfl⟩)
theorem zc_sc_43a {d n sl : Nat} {φ : FH} {tot : Nat} {at_ : Nat} {cur : Nat} {pl : Nat} {va : Nat} {fa : Nat} {fp : Nat} {sf : Nat} {sp : Nat} {no : Nat} {op : Nat} {K : Nat → Nat} {P : Nat → Nat} {V : Nat → Nat} {p : Nat} {le : Nat} {x2 : Nat} {x3 : Nat} {tp : Nat → Nat} (hT : zq_T φ tot at_ cur pl va fa fp sf sp no op K P V) (hB : zq_tp φ tp) (hc0 : p + 2 < le ∧ le ≤ 3000) (hc1 : tp p = 43) (hc2 : tot < 3002) (hc3 : tp (p + 1) = x2) (hc4 : tp (p + 2) = x3) : x_f x_P (d + 2) 88 [(6, 2, 0), (6, 1, 0), (0, le, 0), (0, p, 0), (11, 0, 0), (11, 0, 0), (11, 0, 0)] φ n sl (x_rR (0, 1, 0) n sl (fun φ2 => zq_T φ2 (tot + 1) at_ cur pl va fa fp sf sp no op (x_s K tot 69) (x_s P tot p) (x_s V tot 0) ∧ ∀ j, j ≠ 2 → j ≠ 4 → j ≠ 5 → j ≠ 6 → φ2 j = φ j)) := by
  refine x_f_of rfl ?_
  refine q_load (v := (6, 1, 0)) (p2 := 1) rfl rfl rfl rfl ?_
  refine q_load (v := (0, p, 0)) (p2 := 2) rfl rfl rfl rfl ?_
  refine q_aldT (tag := 0) (v := 43) (p2 := 3) rfl hB (by omega) (by omega) hc1 rfl ?_
  refine q_callr (xs := [(0, 43, 0)]) (p2 := 4) rfl rfl rfl rfl (fun _ _ => rfl) rfl (zc_a_141_43 ) (Nat.le_refl _) (Nat.le_refl _) rfl ?_
  refine q_if0_s (p2 := 5) rfl (by decide) (by omega) rfl (fun _ => ?_) (fun hb => absurd (show 0 = 0 by omega) hb)
  refine q_load (v := (6, 1, 0)) (p2 := 12) rfl rfl rfl rfl ?_
  refine q_load (v := (0, p, 0)) (p2 := 13) rfl rfl rfl rfl ?_
  refine q_aldT (tag := 0) (v := 43) (p2 := 14) rfl hB (by omega) (by omega) hc1 rfl ?_
  refine q_callr (xs := [(0, 43, 0)]) (p2 := 15) rfl rfl rfl rfl (fun _ _ => rfl) rfl (zc_a_143_43 ) (Nat.le_refl _) (Nat.le_refl _) rfl ?_
  refine q_if0_s (p2 := 16) rfl (by decide) (by omega) rfl (fun _ => ?_) (fun hb => absurd (show 0 = 0 by omega) hb)
  refine q_load (v := (0, p, 0)) (p2 := 23) rfl rfl rfl rfl ?_
  refine q_const (p2 := 24) rfl rfl ?_
  refine q_iaddz (z := p + 1) (p2 := 25) rfl (by omega) (by omega) rfl ?_
  refine q_load (v := (0, le, 0)) (p2 := 26) rfl rfl rfl rfl ?_
  refine q_icmp_s (p2 := 27) rfl (by decide) (by omega) (by omega) rfl (fun hb => absurd hb (show ¬ (¬ (p + 1 < le)) by omega)) (fun _ => ?_)
  refine q_load (v := (6, 1, 0)) (p2 := 28) rfl rfl rfl rfl ?_
  refine q_load (v := (0, p, 0)) (p2 := 29) rfl rfl rfl rfl ?_
  refine q_const (p2 := 30) rfl rfl ?_
  refine q_iaddz (z := p + 1) (p2 := 31) rfl (by omega) (by omega) rfl ?_
  refine q_aldT (tag := 0) (v := x2) (p2 := 32) rfl hB (by omega) (by omega) hc3 rfl ?_
  refine q_goto rfl ?_
  refine q_store (loc2 := [(6, 2, 0), (6, 1, 0), (0, le, 0), (0, p, 0), (0, x2, 0), (11, 0, 0), (11, 0, 0)]) (p2 := 35) rfl rfl rfl rfl rfl ?_
  refine q_load (v := (0, p, 0)) (p2 := 36) rfl rfl rfl rfl ?_
  refine q_const (p2 := 37) rfl rfl ?_
  refine q_iaddz (z := p + 2) (p2 := 38) rfl (by omega) (by omega) rfl ?_
  refine q_load (v := (0, le, 0)) (p2 := 39) rfl rfl rfl rfl ?_
  refine q_icmp_s (p2 := 40) rfl (by decide) (by omega) (by omega) rfl (fun hb => absurd hb (show ¬ (¬ (p + 2 < le)) by omega)) (fun _ => ?_)
  refine q_load (v := (6, 1, 0)) (p2 := 41) rfl rfl rfl rfl ?_
  refine q_load (v := (0, p, 0)) (p2 := 42) rfl rfl rfl rfl ?_
  refine q_const (p2 := 43) rfl rfl ?_
  refine q_iaddz (z := p + 2) (p2 := 44) rfl (by omega) (by omega) rfl ?_
  refine q_aldT (tag := 0) (v := x3) (p2 := 45) rfl hB (by omega) (by omega) hc4 rfl ?_
  refine q_goto rfl ?_
  refine q_store (loc2 := [(6, 2, 0), (6, 1, 0), (0, le, 0), (0, p, 0), (0, x2, 0), (0, x3, 0), (11, 0, 0)]) (p2 := 48) rfl rfl rfl rfl rfl ?_
  refine q_load (v := (6, 1, 0)) (p2 := 49) rfl rfl rfl rfl ?_
  refine q_load (v := (0, p, 0)) (p2 := 50) rfl rfl rfl rfl ?_
  refine q_aldT (tag := 0) (v := 43) (p2 := 51) rfl hB (by omega) (by omega) hc1 rfl ?_
  refine q_load (v := (0, x2, 0)) (p2 := 52) rfl rfl rfl rfl ?_
  refine q_load (v := (0, x3, 0)) (p2 := 53) rfl rfl rfl rfl ?_
  refine q_callr (xs := [(0, x3, 0), (0, x2, 0), (0, 43, 0)]) (p2 := 54) rfl rfl rfl rfl (fun _ _ => rfl) rfl (zc_ls_43 ) (Nat.le_refl _) (Nat.le_refl _) rfl ?_
  refine q_store (loc2 := [(6, 2, 0), (6, 1, 0), (0, le, 0), (0, p, 0), (0, x2, 0), (0, x3, 0), (0, 4, 0)]) (p2 := 55) rfl rfl rfl rfl rfl ?_
  refine q_load (v := (0, 4, 0)) (p2 := 56) rfl rfl rfl rfl ?_
  refine q_const (p2 := 57) rfl rfl ?_
  refine q_icmp_s (p2 := 58) rfl (by decide) (by omega) (by omega) rfl (fun _ => ?_) (fun hb => absurd (show 4 = 4 by omega) hb)
  refine q_load (v := (6, 1, 0)) (p2 := 71) rfl rfl rfl rfl ?_
  refine q_load (v := (0, p, 0)) (p2 := 72) rfl rfl rfl rfl ?_
  refine q_aldT (tag := 0) (v := 43) (p2 := 73) rfl hB (by omega) (by omega) hc1 rfl ?_
  refine q_callr (xs := [(0, 43, 0)]) (p2 := 74) rfl rfl rfl rfl (fun _ _ => rfl) rfl (zc_a_146_43 ) (Nat.le_refl _) (Nat.le_refl _) rfl ?_
  refine q_store (loc2 := [(6, 2, 0), (6, 1, 0), (0, le, 0), (0, p, 0), (0, x2, 0), (0, x3, 0), (0, 69, 0)]) (p2 := 75) rfl rfl rfl rfl rfl ?_
  refine q_load (v := (0, 69, 0)) (p2 := 76) rfl rfl rfl rfl ?_
  refine q_const (p2 := 77) rfl rfl ?_
  refine q_icmp_s (p2 := 78) rfl (by decide) (by omega) (by omega) rfl (fun _ => ?_) (fun hb => absurd (show ¬ (69 = 4) by omega) hb)
  refine q_load (v := (6, 2, 0)) (p2 := 81) rfl rfl rfl rfl ?_
  refine q_load (v := (0, 69, 0)) (p2 := 82) rfl rfl rfl rfl ?_
  refine q_load (v := (0, p, 0)) (p2 := 83) rfl rfl rfl rfl ?_
  refine q_const (p2 := 84) rfl rfl ?_
  refine q_callvE (xs := [(2, 0, 0), (0, p, 0), (0, 69, 0), (6, 2, 0)]) (p2 := 85) rfl rfl rfl rfl (x_rcv_s 2 hT.1) rfl (zc_t_add hT (by omega)) (Nat.le_refl _) (Nat.le_refl _) rfl (fun φ1 hR1 => ?_)
  obtain ⟨hs1_0, fr1⟩ := hR1
  refine q_const (p2 := 86) rfl rfl ?_
  exact q_retv (v := (0, 1, 0)) rfl rfl (⟨rfl, rfl, rfl, rfl, hs1_0, fun j hj0 hj1 hj2 hj3 => (fr1 j (by omega) (by omega) (by omega) (by omega))⟩)
theorem zc_sc_43b {d n sl : Nat} {φ : FH} {tot : Nat} {at_ : Nat} {cur : Nat} {pl : Nat} {va : Nat} {fa : Nat} {fp : Nat} {sf : Nat} {sp : Nat} {no : Nat} {op : Nat} {K : Nat → Nat} {P : Nat → Nat} {V : Nat → Nat} {p : Nat} {le : Nat} {x2 : Nat} {tp : Nat → Nat} (hT : zq_T φ tot at_ cur pl va fa fp sf sp no op K P V) (hB : zq_tp φ tp) (hc0 : le = p + 2 ∧ le ≤ 3000) (hc1 : tp p = 43) (hc2 : tot < 3002) (hc3 : tp (p + 1) = x2) : x_f x_P (d + 2) 88 [(6, 2, 0), (6, 1, 0), (0, le, 0), (0, p, 0), (11, 0, 0), (11, 0, 0), (11, 0, 0)] φ n sl (x_rR (0, 1, 0) n sl (fun φ2 => zq_T φ2 (tot + 1) at_ cur pl va fa fp sf sp no op (x_s K tot 69) (x_s P tot p) (x_s V tot 0) ∧ ∀ j, j ≠ 2 → j ≠ 4 → j ≠ 5 → j ≠ 6 → φ2 j = φ j)) := by
  refine x_f_of rfl ?_
  refine q_load (v := (6, 1, 0)) (p2 := 1) rfl rfl rfl rfl ?_
  refine q_load (v := (0, p, 0)) (p2 := 2) rfl rfl rfl rfl ?_
  refine q_aldT (tag := 0) (v := 43) (p2 := 3) rfl hB (by omega) (by omega) hc1 rfl ?_
  refine q_callr (xs := [(0, 43, 0)]) (p2 := 4) rfl rfl rfl rfl (fun _ _ => rfl) rfl (zc_a_141_43 ) (Nat.le_refl _) (Nat.le_refl _) rfl ?_
  refine q_if0_s (p2 := 5) rfl (by decide) (by omega) rfl (fun _ => ?_) (fun hb => absurd (show 0 = 0 by omega) hb)
  refine q_load (v := (6, 1, 0)) (p2 := 12) rfl rfl rfl rfl ?_
  refine q_load (v := (0, p, 0)) (p2 := 13) rfl rfl rfl rfl ?_
  refine q_aldT (tag := 0) (v := 43) (p2 := 14) rfl hB (by omega) (by omega) hc1 rfl ?_
  refine q_callr (xs := [(0, 43, 0)]) (p2 := 15) rfl rfl rfl rfl (fun _ _ => rfl) rfl (zc_a_143_43 ) (Nat.le_refl _) (Nat.le_refl _) rfl ?_
  refine q_if0_s (p2 := 16) rfl (by decide) (by omega) rfl (fun _ => ?_) (fun hb => absurd (show 0 = 0 by omega) hb)
  refine q_load (v := (0, p, 0)) (p2 := 23) rfl rfl rfl rfl ?_
  refine q_const (p2 := 24) rfl rfl ?_
  refine q_iaddz (z := p + 1) (p2 := 25) rfl (by omega) (by omega) rfl ?_
  refine q_load (v := (0, le, 0)) (p2 := 26) rfl rfl rfl rfl ?_
  refine q_icmp_s (p2 := 27) rfl (by decide) (by omega) (by omega) rfl (fun hb => absurd hb (show ¬ (¬ (p + 1 < le)) by omega)) (fun _ => ?_)
  refine q_load (v := (6, 1, 0)) (p2 := 28) rfl rfl rfl rfl ?_
  refine q_load (v := (0, p, 0)) (p2 := 29) rfl rfl rfl rfl ?_
  refine q_const (p2 := 30) rfl rfl ?_
  refine q_iaddz (z := p + 1) (p2 := 31) rfl (by omega) (by omega) rfl ?_
  refine q_aldT (tag := 0) (v := x2) (p2 := 32) rfl hB (by omega) (by omega) hc3 rfl ?_
  refine q_goto rfl ?_
  refine q_store (loc2 := [(6, 2, 0), (6, 1, 0), (0, le, 0), (0, p, 0), (0, x2, 0), (11, 0, 0), (11, 0, 0)]) (p2 := 35) rfl rfl rfl rfl rfl ?_
  refine q_load (v := (0, p, 0)) (p2 := 36) rfl rfl rfl rfl ?_
  refine q_const (p2 := 37) rfl rfl ?_
  refine q_iaddz (z := p + 2) (p2 := 38) rfl (by omega) (by omega) rfl ?_
  refine q_load (v := (0, le, 0)) (p2 := 39) rfl rfl rfl rfl ?_
  refine q_icmp_s (p2 := 40) rfl (by decide) (by omega) (by omega) rfl (fun _ => ?_) (fun hb => absurd (show ¬ (p + 2 < le) by omega) hb)
  refine q_const (p2 := 47) rfl rfl ?_
  refine q_store (loc2 := [(6, 2, 0), (6, 1, 0), (0, le, 0), (0, p, 0), (0, x2, 0), (0, 0, 0), (11, 0, 0)]) (p2 := 48) rfl rfl rfl rfl rfl ?_
  refine q_load (v := (6, 1, 0)) (p2 := 49) rfl rfl rfl rfl ?_
  refine q_load (v := (0, p, 0)) (p2 := 50) rfl rfl rfl rfl ?_
  refine q_aldT (tag := 0) (v := 43) (p2 := 51) rfl hB (by omega) (by omega) hc1 rfl ?_
  refine q_load (v := (0, x2, 0)) (p2 := 52) rfl rfl rfl rfl ?_
  refine q_load (v := (0, 0, 0)) (p2 := 53) rfl rfl rfl rfl ?_
  refine q_callr (xs := [(0, 0, 0), (0, x2, 0), (0, 43, 0)]) (p2 := 54) rfl rfl rfl rfl (fun _ _ => rfl) rfl (zc_ls_43 ) (Nat.le_refl _) (Nat.le_refl _) rfl ?_
  refine q_store (loc2 := [(6, 2, 0), (6, 1, 0), (0, le, 0), (0, p, 0), (0, x2, 0), (0, 0, 0), (0, 4, 0)]) (p2 := 55) rfl rfl rfl rfl rfl ?_
  refine q_load (v := (0, 4, 0)) (p2 := 56) rfl rfl rfl rfl ?_
  refine q_const (p2 := 57) rfl rfl ?_
  refine q_icmp_s (p2 := 58) rfl (by decide) (by omega) (by omega) rfl (fun _ => ?_) (fun hb => absurd (show 4 = 4 by omega) hb)
  refine q_load (v := (6, 1, 0)) (p2 := 71) rfl rfl rfl rfl ?_
  refine q_load (v := (0, p, 0)) (p2 := 72) rfl rfl rfl rfl ?_
  refine q_aldT (tag := 0) (v := 43) (p2 := 73) rfl hB (by omega) (by omega) hc1 rfl ?_
  refine q_callr (xs := [(0, 43, 0)]) (p2 := 74) rfl rfl rfl rfl (fun _ _ => rfl) rfl (zc_a_146_43 ) (Nat.le_refl _) (Nat.le_refl _) rfl ?_
  refine q_store (loc2 := [(6, 2, 0), (6, 1, 0), (0, le, 0), (0, p, 0), (0, x2, 0), (0, 0, 0), (0, 69, 0)]) (p2 := 75) rfl rfl rfl rfl rfl ?_
  refine q_load (v := (0, 69, 0)) (p2 := 76) rfl rfl rfl rfl ?_
  refine q_const (p2 := 77) rfl rfl ?_
  refine q_icmp_s (p2 := 78) rfl (by decide) (by omega) (by omega) rfl (fun _ => ?_) (fun hb => absurd (show ¬ (69 = 4) by omega) hb)
  refine q_load (v := (6, 2, 0)) (p2 := 81) rfl rfl rfl rfl ?_
  refine q_load (v := (0, 69, 0)) (p2 := 82) rfl rfl rfl rfl ?_
  refine q_load (v := (0, p, 0)) (p2 := 83) rfl rfl rfl rfl ?_
  refine q_const (p2 := 84) rfl rfl ?_
  refine q_callvE (xs := [(2, 0, 0), (0, p, 0), (0, 69, 0), (6, 2, 0)]) (p2 := 85) rfl rfl rfl rfl (x_rcv_s 2 hT.1) rfl (zc_t_add hT (by omega)) (Nat.le_refl _) (Nat.le_refl _) rfl (fun φ1 hR1 => ?_)
  obtain ⟨hs1_0, fr1⟩ := hR1
  refine q_const (p2 := 86) rfl rfl ?_
  exact q_retv (v := (0, 1, 0)) rfl rfl (⟨rfl, rfl, rfl, rfl, hs1_0, fun j hj0 hj1 hj2 hj3 => (fr1 j (by omega) (by omega) (by omega) (by omega))⟩)
theorem zc_sc_43c {d n sl : Nat} {φ : FH} {tot : Nat} {at_ : Nat} {cur : Nat} {pl : Nat} {va : Nat} {fa : Nat} {fp : Nat} {sf : Nat} {sp : Nat} {no : Nat} {op : Nat} {K : Nat → Nat} {P : Nat → Nat} {V : Nat → Nat} {p : Nat} {le : Nat} {tp : Nat → Nat} (hT : zq_T φ tot at_ cur pl va fa fp sf sp no op K P V) (hB : zq_tp φ tp) (hc0 : le = p + 1 ∧ le ≤ 3000) (hc1 : tp p = 43) (hc2 : tot < 3002) : x_f x_P (d + 2) 88 [(6, 2, 0), (6, 1, 0), (0, le, 0), (0, p, 0), (11, 0, 0), (11, 0, 0), (11, 0, 0)] φ n sl (x_rR (0, 1, 0) n sl (fun φ2 => zq_T φ2 (tot + 1) at_ cur pl va fa fp sf sp no op (x_s K tot 69) (x_s P tot p) (x_s V tot 0) ∧ ∀ j, j ≠ 2 → j ≠ 4 → j ≠ 5 → j ≠ 6 → φ2 j = φ j)) := by
  refine x_f_of rfl ?_
  refine q_load (v := (6, 1, 0)) (p2 := 1) rfl rfl rfl rfl ?_
  refine q_load (v := (0, p, 0)) (p2 := 2) rfl rfl rfl rfl ?_
  refine q_aldT (tag := 0) (v := 43) (p2 := 3) rfl hB (by omega) (by omega) hc1 rfl ?_
  refine q_callr (xs := [(0, 43, 0)]) (p2 := 4) rfl rfl rfl rfl (fun _ _ => rfl) rfl (zc_a_141_43 ) (Nat.le_refl _) (Nat.le_refl _) rfl ?_
  refine q_if0_s (p2 := 5) rfl (by decide) (by omega) rfl (fun _ => ?_) (fun hb => absurd (show 0 = 0 by omega) hb)
  refine q_load (v := (6, 1, 0)) (p2 := 12) rfl rfl rfl rfl ?_
  refine q_load (v := (0, p, 0)) (p2 := 13) rfl rfl rfl rfl ?_
  refine q_aldT (tag := 0) (v := 43) (p2 := 14) rfl hB (by omega) (by omega) hc1 rfl ?_
  refine q_callr (xs := [(0, 43, 0)]) (p2 := 15) rfl rfl rfl rfl (fun _ _ => rfl) rfl (zc_a_143_43 ) (Nat.le_refl _) (Nat.le_refl _) rfl ?_
  refine q_if0_s (p2 := 16) rfl (by decide) (by omega) rfl (fun _ => ?_) (fun hb => absurd (show 0 = 0 by omega) hb)
  refine q_load (v := (0, p, 0)) (p2 := 23) rfl rfl rfl rfl ?_
  refine q_const (p2 := 24) rfl rfl ?_
  refine q_iaddz (z := p + 1) (p2 := 25) rfl (by omega) (by omega) rfl ?_
  refine q_load (v := (0, le, 0)) (p2 := 26) rfl rfl rfl rfl ?_
  refine q_icmp_s (p2 := 27) rfl (by decide) (by omega) (by omega) rfl (fun _ => ?_) (fun hb => absurd (show ¬ (p + 1 < le) by omega) hb)
  refine q_const (p2 := 34) rfl rfl ?_
  refine q_store (loc2 := [(6, 2, 0), (6, 1, 0), (0, le, 0), (0, p, 0), (0, 0, 0), (11, 0, 0), (11, 0, 0)]) (p2 := 35) rfl rfl rfl rfl rfl ?_
  refine q_load (v := (0, p, 0)) (p2 := 36) rfl rfl rfl rfl ?_
  refine q_const (p2 := 37) rfl rfl ?_
  refine q_iaddz (z := p + 2) (p2 := 38) rfl (by omega) (by omega) rfl ?_
  refine q_load (v := (0, le, 0)) (p2 := 39) rfl rfl rfl rfl ?_
  refine q_icmp_s (p2 := 40) rfl (by decide) (by omega) (by omega) rfl (fun _ => ?_) (fun hb => absurd (show ¬ (p + 2 < le) by omega) hb)
  refine q_const (p2 := 47) rfl rfl ?_
  refine q_store (loc2 := [(6, 2, 0), (6, 1, 0), (0, le, 0), (0, p, 0), (0, 0, 0), (0, 0, 0), (11, 0, 0)]) (p2 := 48) rfl rfl rfl rfl rfl ?_
  refine q_load (v := (6, 1, 0)) (p2 := 49) rfl rfl rfl rfl ?_
  refine q_load (v := (0, p, 0)) (p2 := 50) rfl rfl rfl rfl ?_
  refine q_aldT (tag := 0) (v := 43) (p2 := 51) rfl hB (by omega) (by omega) hc1 rfl ?_
  refine q_load (v := (0, 0, 0)) (p2 := 52) rfl rfl rfl rfl ?_
  refine q_load (v := (0, 0, 0)) (p2 := 53) rfl rfl rfl rfl ?_
  refine q_callr (xs := [(0, 0, 0), (0, 0, 0), (0, 43, 0)]) (p2 := 54) rfl rfl rfl rfl (fun _ _ => rfl) rfl (zc_ls_43 ) (Nat.le_refl _) (Nat.le_refl _) rfl ?_
  refine q_store (loc2 := [(6, 2, 0), (6, 1, 0), (0, le, 0), (0, p, 0), (0, 0, 0), (0, 0, 0), (0, 4, 0)]) (p2 := 55) rfl rfl rfl rfl rfl ?_
  refine q_load (v := (0, 4, 0)) (p2 := 56) rfl rfl rfl rfl ?_
  refine q_const (p2 := 57) rfl rfl ?_
  refine q_icmp_s (p2 := 58) rfl (by decide) (by omega) (by omega) rfl (fun _ => ?_) (fun hb => absurd (show 4 = 4 by omega) hb)
  refine q_load (v := (6, 1, 0)) (p2 := 71) rfl rfl rfl rfl ?_
  refine q_load (v := (0, p, 0)) (p2 := 72) rfl rfl rfl rfl ?_
  refine q_aldT (tag := 0) (v := 43) (p2 := 73) rfl hB (by omega) (by omega) hc1 rfl ?_
  refine q_callr (xs := [(0, 43, 0)]) (p2 := 74) rfl rfl rfl rfl (fun _ _ => rfl) rfl (zc_a_146_43 ) (Nat.le_refl _) (Nat.le_refl _) rfl ?_
  refine q_store (loc2 := [(6, 2, 0), (6, 1, 0), (0, le, 0), (0, p, 0), (0, 0, 0), (0, 0, 0), (0, 69, 0)]) (p2 := 75) rfl rfl rfl rfl rfl ?_
  refine q_load (v := (0, 69, 0)) (p2 := 76) rfl rfl rfl rfl ?_
  refine q_const (p2 := 77) rfl rfl ?_
  refine q_icmp_s (p2 := 78) rfl (by decide) (by omega) (by omega) rfl (fun _ => ?_) (fun hb => absurd (show ¬ (69 = 4) by omega) hb)
  refine q_load (v := (6, 2, 0)) (p2 := 81) rfl rfl rfl rfl ?_
  refine q_load (v := (0, 69, 0)) (p2 := 82) rfl rfl rfl rfl ?_
  refine q_load (v := (0, p, 0)) (p2 := 83) rfl rfl rfl rfl ?_
  refine q_const (p2 := 84) rfl rfl ?_
  refine q_callvE (xs := [(2, 0, 0), (0, p, 0), (0, 69, 0), (6, 2, 0)]) (p2 := 85) rfl rfl rfl rfl (x_rcv_s 2 hT.1) rfl (zc_t_add hT (by omega)) (Nat.le_refl _) (Nat.le_refl _) rfl (fun φ1 hR1 => ?_)
  obtain ⟨hs1_0, fr1⟩ := hR1
  refine q_const (p2 := 86) rfl rfl ?_
  exact q_retv (v := (0, 1, 0)) rfl rfl (⟨rfl, rfl, rfl, rfl, hs1_0, fun j hj0 hj1 hj2 hj3 => (fr1 j (by omega) (by omega) (by omega) (by omega))⟩)
theorem zc_sn_1e {d n sl : Nat} {φ : FH} {tot : Nat} {at_ : Nat} {cur : Nat} {pl : Nat} {va : Nat} {fa : Nat} {fp : Nat} {sf : Nat} {sp : Nat} {no : Nat} {op : Nat} {K : Nat → Nat} {P : Nat → Nat} {V : Nat → Nat} {p : Nat} {le : Nat} {d1 : Nat} {tp : Nat → Nat} (hT : zq_T φ tot at_ cur pl va fa fp sf sp no op K P V) (hB : zq_tp φ tp) (hc0 : tp p = d1) (hc1 : 48 ≤ d1 ∧ d1 ≤ 57) (hc2 : le = p + 1 ∧ le ≤ 3000) (hc3 : tot < 3002) : x_f x_P (d + 2) 144 [(6, 2, 0), (6, 1, 0), (0, le, 0), (0, p, 0), (11, 0, 0), (11, 0, 0), (11, 0, 0), (11, 0, 0), (11, 0, 0), (11, 0, 0), (11, 0, 0), (11, 0, 0)] φ n sl (x_rR (0, 1, 0) n sl (fun φ2 => zq_T φ2 (tot + 1) at_ cur pl va fa fp sf sp no op (x_s K tot 2) (x_s P tot p) (x_s V tot (0 + d1 - 48)) ∧ ∀ j, j ≠ 2 → j ≠ 4 → j ≠ 5 → j ≠ 6 → φ2 j = φ j)) := by
  refine x_f_of rfl ?_
  refine q_const (p2 := 1) rfl rfl ?_
  refine q_store2 (loc2 := [(6, 2, 0), (6, 1, 0), (0, le, 0), (0, p, 0), (2, 0, 0), (11, 0, 0), (11, 0, 0), (11, 0, 0), (11, 0, 0), (11, 0, 0), (11, 0, 0), (11, 0, 0)]) (p2 := 2) rfl rfl rfl rfl rfl ?_
  refine q_const (p2 := 3) rfl rfl ?_
  refine q_store (loc2 := [(6, 2, 0), (6, 1, 0), (0, le, 0), (0, p, 0), (2, 0, 0), (11, 0, 0), (0, 0, 0), (11, 0, 0), (11, 0, 0), (11, 0, 0), (11, 0, 0), (11, 0, 0)]) (p2 := 4) rfl rfl rfl rfl rfl ?_
  refine q_load (v := (0, p, 0)) (p2 := 5) rfl rfl rfl rfl ?_
  refine q_store (loc2 := [(6, 2, 0), (6, 1, 0), (0, le, 0), (0, p, 0), (2, 0, 0), (11, 0, 0), (0, 0, 0), (0, p, 0), (11, 0, 0), (11, 0, 0), (11, 0, 0), (11, 0, 0)]) (p2 := 6) rfl rfl rfl rfl rfl ?_
  refine q_load (v := (0, p, 0)) (p2 := 7) rfl rfl rfl rfl ?_
  refine q_load (v := (0, le, 0)) (p2 := 8) rfl rfl rfl rfl ?_
  refine q_icmp_s (p2 := 9) rfl (by decide) (by omega) (by omega) rfl (fun hb => absurd hb (show ¬ (¬ (p < le)) by omega)) (fun _ => ?_)
  refine q_load (v := (6, 1, 0)) (p2 := 10) rfl rfl rfl rfl ?_
  refine q_load (v := (0, p, 0)) (p2 := 11) rfl rfl rfl rfl ?_
  refine q_aldT (tag := 0) (v := d1) (p2 := 12) rfl hB (by omega) (by omega) hc0 rfl ?_
  refine q_callr (xs := [(0, d1, 0)]) (p2 := 13) rfl rfl rfl rfl (fun _ _ => rfl) rfl (zc_dg_isDigit (by omega)) (Nat.le_refl _) (Nat.le_refl _) rfl ?_
  refine q_if0_s (p2 := 14) rfl (by decide) (by omega) rfl (fun hb => absurd hb (show ¬ (1 = 0) by omega)) (fun _ => ?_)
  refine q_load (v := (0, 0, 0)) (p2 := 15) rfl rfl rfl rfl ?_
  refine q_const (p2 := 16) rfl rfl ?_
  refine q_icmp_s (p2 := 17) rfl (by decide) (by omega) (by omega) rfl (fun hb => absurd hb (show ¬ (¬ (0 < 9)) by omega)) (fun _ => ?_)
  refine q_load (v := (2, 0, 0)) (p2 := 18) rfl rfl rfl rfl ?_
  refine q_const (p2 := 19) rfl rfl ?_
  refine q_lmulz (z := 0) (p2 := 20) rfl (by omega) (by omega) rfl ?_
  refine q_load (v := (6, 1, 0)) (p2 := 21) rfl rfl rfl rfl ?_
  refine q_load (v := (0, p, 0)) (p2 := 22) rfl rfl rfl rfl ?_
  refine q_aldT (tag := 0) (v := d1) (p2 := 23) rfl hB (by omega) (by omega) hc0 rfl ?_
  refine q_i2l (p2 := 24) rfl (by omega) rfl ?_
  refine q_laddz (z := (0 + d1)) (p2 := 25) rfl (by omega) (by omega) rfl ?_
  refine q_const (p2 := 26) rfl rfl ?_
  refine q_lsubz (z := ((0 + d1) - 48)) (p2 := 27) rfl (by omega) (by omega) rfl ?_
  refine q_goto rfl ?_
  refine q_store2 (loc2 := [(6, 2, 0), (6, 1, 0), (0, le, 0), (0, p, 0), (2, ((0 + d1) - 48), 0), (11, 0, 0), (0, 0, 0), (0, p, 0), (11, 0, 0), (11, 0, 0), (11, 0, 0), (11, 0, 0)]) (p2 := 30) rfl rfl rfl rfl rfl ?_
  refine q_iinc (z := 1) (loc2 := [(6, 2, 0), (6, 1, 0), (0, le, 0), (0, p, 0), (2, ((0 + d1) - 48), 0), (11, 0, 0), (0, 1, 0), (0, p, 0), (11, 0, 0), (11, 0, 0), (11, 0, 0), (11, 0, 0)]) (p2 := 31) rfl rfl (by decide) rfl rfl ?_
  refine q_iinc (z := p + 1) (loc2 := [(6, 2, 0), (6, 1, 0), (0, le, 0), (0, p, 0), (2, ((0 + d1) - 48), 0), (11, 0, 0), (0, 1, 0), (0, p + 1, 0), (11, 0, 0), (11, 0, 0), (11, 0, 0), (11, 0, 0)]) (p2 := 32) rfl rfl (Nat.mod_eq_of_lt (by omega)) rfl rfl ?_
  refine q_goto rfl ?_
  refine q_load (v := (0, p + 1, 0)) (p2 := 7) rfl rfl rfl rfl ?_
  refine q_load (v := (0, le, 0)) (p2 := 8) rfl rfl rfl rfl ?_
  refine q_icmp_s (p2 := 9) rfl (by decide) (by omega) (by omega) rfl (fun _ => ?_) (fun hb => absurd (show ¬ (p + 1 < le) by omega) hb)
  refine q_const (p2 := 34) rfl rfl ?_
  refine q_store (loc2 := [(6, 2, 0), (6, 1, 0), (0, le, 0), (0, p, 0), (2, ((0 + d1) - 48), 0), (11, 0, 0), (0, 1, 0), (0, 0, 0), (11, 0, 0), (11, 0, 0), (11, 0, 0), (11, 0, 0)]) (p2 := 35) rfl rfl rfl rfl rfl ?_
  refine q_const (p2 := 36) rfl rfl ?_
  refine q_store2 (loc2 := [(6, 2, 0), (6, 1, 0), (0, le, 0), (0, p, 0), (2, ((0 + d1) - 48), 0), (11, 0, 0), (0, 1, 0), (0, 0, 0), (2, 1, 0), (11, 0, 0), (11, 0, 0), (11, 0, 0)]) (p2 := 37) rfl rfl rfl rfl rfl ?_
  refine q_load (v := (0, p, 0)) (p2 := 38) rfl rfl rfl rfl ?_
  refine q_load (v := (0, 1, 0)) (p2 := 39) rfl rfl rfl rfl ?_
  refine q_iaddz (z := p + 1) (p2 := 40) rfl (by omega) (by omega) rfl ?_
  refine q_load (v := (0, le, 0)) (p2 := 41) rfl rfl rfl rfl ?_
  refine q_icmp_s (p2 := 42) rfl (by decide) (by omega) (by omega) rfl (fun _ => ?_) (fun hb => absurd (show ¬ (p + 1 < le) by omega) hb)
  refine q_const (p2 := 52) rfl rfl ?_
  refine q_store (loc2 := [(6, 2, 0), (6, 1, 0), (0, le, 0), (0, p, 0), (2, ((0 + d1) - 48), 0), (11, 0, 0), (0, 1, 0), (0, 0, 0), (2, 1, 0), (11, 0, 0), (0, 0, 0), (11, 0, 0)]) (p2 := 53) rfl rfl rfl rfl rfl ?_
  refine q_load (v := (0, p, 0)) (p2 := 54) rfl rfl rfl rfl ?_
  refine q_load (v := (0, 1, 0)) (p2 := 55) rfl rfl rfl rfl ?_
  refine q_iaddz (z := p + 1) (p2 := 56) rfl (by omega) (by omega) rfl ?_
  refine q_const (p2 := 57) rfl rfl ?_
  refine q_iaddz (z := p + 2) (p2 := 58) rfl (by omega) (by omega) rfl ?_
  refine q_store (loc2 := [(6, 2, 0), (6, 1, 0), (0, le, 0), (0, p, 0), (2, ((0 + d1) - 48), 0), (11, 0, 0), (0, 1, 0), (0, 0, 0), (2, 1, 0), (11, 0, 0), (0, 0, 0), (0, p + 2, 0)]) (p2 := 59) rfl rfl rfl rfl rfl ?_
  refine q_load (v := (0, 0, 0)) (p2 := 60) rfl rfl rfl rfl ?_
  refine q_if0_s (p2 := 61) rfl (by decide) (by omega) rfl (fun _ => ?_) (fun hb => absurd (show 0 = 0 by omega) hb)
  refine q_load (v := (0, 1, 0)) (p2 := 98) rfl rfl rfl rfl ?_
  refine q_load (v := (0, 0, 0)) (p2 := 99) rfl rfl rfl rfl ?_
  refine q_if0_s (p2 := 100) rfl (by decide) (by omega) rfl (fun _ => ?_) (fun hb => absurd (show ¬ (0 < 0) by omega) hb)
  refine q_const (p2 := 103) rfl rfl ?_
  refine q_icmp_s (p2 := 104) rfl (by decide) (by omega) (by omega) rfl (fun hb => absurd hb (show ¬ (9 < 1) by omega)) (fun _ => ?_)
  refine q_load (v := (0, 0, 0)) (p2 := 105) rfl rfl rfl rfl ?_
  refine q_const (p2 := 106) rfl rfl ?_
  refine q_icmp_s (p2 := 107) rfl (by decide) (by omega) (by omega) rfl (fun _ => ?_) (fun hb => absurd (show ¬ (6 < 0) by omega) hb)
  refine q_load (v := (6, 2, 0)) (p2 := 110) rfl rfl rfl rfl ?_
  refine q_load (v := (0, 0, 0)) (p2 := 111) rfl rfl rfl rfl ?_
  refine q_if0_s (p2 := 112) rfl (by decide) (by omega) rfl (fun _ => ?_) (fun hb => absurd (show ¬ (0 < 0) by omega) hb)
  refine q_const (p2 := 115) rfl rfl ?_
  refine q_load (v := (0, p, 0)) (p2 := 116) rfl rfl rfl rfl ?_
  refine q_load (v := (0, 0, 0)) (p2 := 117) rfl rfl rfl rfl ?_
  refine q_if0_s (p2 := 118) rfl (by decide) (by omega) rfl (fun _ => ?_) (fun hb => absurd (show ¬ (0 < 0) by omega) hb)
  refine q_load (v := (2, ((0 + d1) - 48), 0)) (p2 := 123) rfl rfl rfl rfl ?_
  refine q_callvE (xs := [(2, ((0 + d1) - 48), 0), (0, p, 0), (0, 2, 0), (6, 2, 0)]) (p2 := 124) rfl rfl rfl rfl (x_rcv_s 2 hT.1) rfl (zc_t_add hT (by omega)) (Nat.le_refl _) (Nat.le_refl _) rfl (fun φ1 hR1 => ?_)
  obtain ⟨hs1_0, fr1⟩ := hR1
  refine q_load (v := (0, 0, 0)) (p2 := 125) rfl rfl rfl rfl ?_
  refine q_if0_s (p2 := 126) rfl (by decide) (by omega) rfl (fun _ => ?_) (fun hb => absurd (show ¬ (0 < 0) by omega) hb)
  refine q_load (v := (0, 1, 0)) (p2 := 133) rfl rfl rfl rfl ?_
  exact q_retv (v := (0, 1, 0)) rfl rfl (⟨rfl, rfl, rfl, rfl, hs1_0, fun j hj0 hj1 hj2 hj3 => (fr1 j (by omega) (by omega) (by omega) (by omega))⟩)
theorem zc_scn_1e {d n sl : Nat} {φ : FH} {tot : Nat} {at_ : Nat} {cur : Nat} {pl : Nat} {va : Nat} {fa : Nat} {fp : Nat} {sf : Nat} {sp : Nat} {no : Nat} {op : Nat} {K : Nat → Nat} {P : Nat → Nat} {V : Nat → Nat} {p : Nat} {le : Nat} {d1 : Nat} {tp : Nat → Nat} (hT : zq_T φ tot at_ cur pl va fa fp sf sp no op K P V) (hB : zq_tp φ tp) (hc0 : tp p = d1) (hc1 : 48 ≤ d1 ∧ d1 ≤ 57) (hc2 : le = p + 1 ∧ le ≤ 3000) (hc3 : tot < 3002) : x_f x_P (d + 3) 88 [(6, 2, 0), (6, 1, 0), (0, le, 0), (0, p, 0), (11, 0, 0), (11, 0, 0), (11, 0, 0)] φ n sl (x_rR (0, 1, 0) n sl (fun φ2 => zq_T φ2 (tot + 1) at_ cur pl va fa fp sf sp no op (x_s K tot 2) (x_s P tot p) (x_s V tot (0 + d1 - 48)) ∧ ∀ j, j ≠ 2 → j ≠ 4 → j ≠ 5 → j ≠ 6 → φ2 j = φ j)) := by
  refine x_f_of rfl ?_
  refine q_load (v := (6, 1, 0)) (p2 := 1) rfl rfl rfl rfl ?_
  refine q_load (v := (0, p, 0)) (p2 := 2) rfl rfl rfl rfl ?_
  refine q_aldT (tag := 0) (v := d1) (p2 := 3) rfl hB (by omega) (by omega) hc0 rfl ?_
  refine q_callr (xs := [(0, d1, 0)]) (p2 := 4) rfl rfl rfl rfl (fun _ _ => rfl) rfl (zc_dg_isLetter (by omega)) (Nat.le_refl _) (Nat.le_refl _) rfl ?_
  refine q_if0_s (p2 := 5) rfl (by decide) (by omega) rfl (fun _ => ?_) (fun hb => absurd (show 0 = 0 by omega) hb)
  refine q_load (v := (6, 1, 0)) (p2 := 12) rfl rfl rfl rfl ?_
  refine q_load (v := (0, p, 0)) (p2 := 13) rfl rfl rfl rfl ?_
  refine q_aldT (tag := 0) (v := d1) (p2 := 14) rfl hB (by omega) (by omega) hc0 rfl ?_
  refine q_callr (xs := [(0, d1, 0)]) (p2 := 15) rfl rfl rfl rfl (fun _ _ => rfl) rfl (zc_dg_isDigit (by omega)) (Nat.le_refl _) (Nat.le_refl _) rfl ?_
  refine q_if0_s (p2 := 16) rfl (by decide) (by omega) rfl (fun hb => absurd hb (show ¬ (1 = 0) by omega)) (fun _ => ?_)
  refine q_load (v := (6, 2, 0)) (p2 := 17) rfl rfl rfl rfl ?_
  refine q_load (v := (6, 1, 0)) (p2 := 18) rfl rfl rfl rfl ?_
  refine q_load (v := (0, le, 0)) (p2 := 19) rfl rfl rfl rfl ?_
  refine q_load (v := (0, p, 0)) (p2 := 20) rfl rfl rfl rfl ?_
  refine q_callrE (xs := [(0, p, 0), (0, le, 0), (6, 1, 0), (6, 2, 0)]) (p2 := 21) rfl rfl rfl rfl (x_rcv_s 2 hT.1) rfl (zc_sn_1e hT hB hc0 (by omega) (by omega) (by omega)) (Nat.le_refl _) (Nat.le_refl _) rfl (fun φ1 hR1 => ?_)
  obtain ⟨hs1_0, fr1⟩ := hR1
  exact q_retv (v := (0, 1, 0)) rfl rfl (⟨rfl, rfl, rfl, rfl, hs1_0, fun j hj0 hj1 hj2 hj3 => (fr1 j (by omega) (by omega) (by omega) (by omega))⟩)
theorem zc_sn_2e {d n sl : Nat} {φ : FH} {tot : Nat} {at_ : Nat} {cur : Nat} {pl : Nat} {va : Nat} {fa : Nat} {fp : Nat} {sf : Nat} {sp : Nat} {no : Nat} {op : Nat} {K : Nat → Nat} {P : Nat → Nat} {V : Nat → Nat} {p : Nat} {le : Nat} {d1 : Nat} {d2 : Nat} {tp : Nat → Nat} (hT : zq_T φ tot at_ cur pl va fa fp sf sp no op K P V) (hB : zq_tp φ tp) (hc0 : tp p = d1) (hc1 : tp (p + 1) = d2) (hc2 : 48 ≤ d1 ∧ d1 ≤ 57 ∧ 48 ≤ d2 ∧ d2 ≤ 57) (hc3 : le = p + 2 ∧ le ≤ 3000) (hc4 : tot < 3002) : x_f x_P (d + 2) 144 [(6, 2, 0), (6, 1, 0), (0, le, 0), (0, p, 0), (11, 0, 0), (11, 0, 0), (11, 0, 0), (11, 0, 0), (11, 0, 0), (11, 0, 0), (11, 0, 0), (11, 0, 0)] φ n sl (x_rR (0, 2, 0) n sl (fun φ2 => zq_T φ2 (tot + 1) at_ cur pl va fa fp sf sp no op (x_s K tot 2) (x_s P tot p) (x_s V tot ((((0 + d1) - 48) * 10) + d2 - 48)) ∧ ∀ j, j ≠ 2 → j ≠ 4 → j ≠ 5 → j ≠ 6 → φ2 j = φ j)) := by
  refine x_f_of rfl ?_
  refine q_const (p2 := 1) rfl rfl ?_
  refine q_store2 (loc2 := [(6, 2, 0), (6, 1, 0), (0, le, 0), (0, p, 0), (2, 0, 0), (11, 0, 0), (11, 0, 0), (11, 0, 0), (11, 0, 0), (11, 0, 0), (11, 0, 0), (11, 0, 0)]) (p2 := 2) rfl rfl rfl rfl rfl ?_
  refine q_const (p2 := 3) rfl rfl ?_
  refine q_store (loc2 := [(6, 2, 0), (6, 1, 0), (0, le, 0), (0, p, 0), (2, 0, 0), (11, 0, 0), (0, 0, 0), (11, 0, 0), (11, 0, 0), (11, 0, 0), (11, 0, 0), (11, 0, 0)]) (p2 := 4) rfl rfl rfl rfl rfl ?_
  refine q_load (v := (0, p, 0)) (p2 := 5) rfl rfl rfl rfl ?_
  refine q_store (loc2 := [(6, 2, 0), (6, 1, 0), (0, le, 0), (0, p, 0), (2, 0, 0), (11, 0, 0), (0, 0, 0), (0, p, 0), (11, 0, 0), (11, 0, 0), (11, 0, 0), (11, 0, 0)]) (p2 := 6) rfl rfl rfl rfl rfl ?_
  refine q_load (v := (0, p, 0)) (p2 := 7) rfl rfl rfl rfl ?_
  refine q_load (v := (0, le, 0)) (p2 := 8) rfl rfl rfl rfl ?_
  refine q_icmp_s (p2 := 9) rfl (by decide) (by omega) (by omega) rfl (fun hb => absurd hb (show ¬ (¬ (p < le)) by omega)) (fun _ => ?_)
  refine q_load (v := (6, 1, 0)) (p2 := 10) rfl rfl rfl rfl ?_
  refine q_load (v := (0, p, 0)) (p2 := 11) rfl rfl rfl rfl ?_
  refine q_aldT (tag := 0) (v := d1) (p2 := 12) rfl hB (by omega) (by omega) hc0 rfl ?_
  refine q_callr (xs := [(0, d1, 0)]) (p2 := 13) rfl rfl rfl rfl (fun _ _ => rfl) rfl (zc_dg_isDigit (by omega)) (Nat.le_refl _) (Nat.le_refl _) rfl ?_
  refine q_if0_s (p2 := 14) rfl (by decide) (by omega) rfl (fun hb => absurd hb (show ¬ (1 = 0) by omega)) (fun _ => ?_)
  refine q_load (v := (0, 0, 0)) (p2 := 15) rfl rfl rfl rfl ?_
  refine q_const (p2 := 16) rfl rfl ?_
  refine q_icmp_s (p2 := 17) rfl (by decide) (by omega) (by omega) rfl (fun hb => absurd hb (show ¬ (¬ (0 < 9)) by omega)) (fun _ => ?_)
  refine q_load (v := (2, 0, 0)) (p2 := 18) rfl rfl rfl rfl ?_
  refine q_const (p2 := 19) rfl rfl ?_
  refine q_lmulz (z := 0) (p2 := 20) rfl (by omega) (by omega) rfl ?_
  refine q_load (v := (6, 1, 0)) (p2 := 21) rfl rfl rfl rfl ?_
  refine q_load (v := (0, p, 0)) (p2 := 22) rfl rfl rfl rfl ?_
  refine q_aldT (tag := 0) (v := d1) (p2 := 23) rfl hB (by omega) (by omega) hc0 rfl ?_
  refine q_i2l (p2 := 24) rfl (by omega) rfl ?_
  refine q_laddz (z := (0 + d1)) (p2 := 25) rfl (by omega) (by omega) rfl ?_
  refine q_const (p2 := 26) rfl rfl ?_
  refine q_lsubz (z := ((0 + d1) - 48)) (p2 := 27) rfl (by omega) (by omega) rfl ?_
  refine q_goto rfl ?_
  refine q_store2 (loc2 := [(6, 2, 0), (6, 1, 0), (0, le, 0), (0, p, 0), (2, ((0 + d1) - 48), 0), (11, 0, 0), (0, 0, 0), (0, p, 0), (11, 0, 0), (11, 0, 0), (11, 0, 0), (11, 0, 0)]) (p2 := 30) rfl rfl rfl rfl rfl ?_
  refine q_iinc (z := 1) (loc2 := [(6, 2, 0), (6, 1, 0), (0, le, 0), (0, p, 0), (2, ((0 + d1) - 48), 0), (11, 0, 0), (0, 1, 0), (0, p, 0), (11, 0, 0), (11, 0, 0), (11, 0, 0), (11, 0, 0)]) (p2 := 31) rfl rfl (by decide) rfl rfl ?_
  refine q_iinc (z := p + 1) (loc2 := [(6, 2, 0), (6, 1, 0), (0, le, 0), (0, p, 0), (2, ((0 + d1) - 48), 0), (11, 0, 0), (0, 1, 0), (0, p + 1, 0), (11, 0, 0), (11, 0, 0), (11, 0, 0), (11, 0, 0)]) (p2 := 32) rfl rfl (Nat.mod_eq_of_lt (by omega)) rfl rfl ?_
  refine q_goto rfl ?_
  refine q_load (v := (0, p + 1, 0)) (p2 := 7) rfl rfl rfl rfl ?_
  refine q_load (v := (0, le, 0)) (p2 := 8) rfl rfl rfl rfl ?_
  refine q_icmp_s (p2 := 9) rfl (by decide) (by omega) (by omega) rfl (fun hb => absurd hb (show ¬ (¬ (p + 1 < le)) by omega)) (fun _ => ?_)
  refine q_load (v := (6, 1, 0)) (p2 := 10) rfl rfl rfl rfl ?_
  refine q_load (v := (0, p + 1, 0)) (p2 := 11) rfl rfl rfl rfl ?_
  refine q_aldT (tag := 0) (v := d2) (p2 := 12) rfl hB (by omega) (by omega) hc1 rfl ?_
  refine q_callr (xs := [(0, d2, 0)]) (p2 := 13) rfl rfl rfl rfl (fun _ _ => rfl) rfl (zc_dg_isDigit (by omega)) (Nat.le_refl _) (Nat.le_refl _) rfl ?_
  refine q_if0_s (p2 := 14) rfl (by decide) (by omega) rfl (fun hb => absurd hb (show ¬ (1 = 0) by omega)) (fun _ => ?_)
  refine q_load (v := (0, 1, 0)) (p2 := 15) rfl rfl rfl rfl ?_
  refine q_const (p2 := 16) rfl rfl ?_
  refine q_icmp_s (p2 := 17) rfl (by decide) (by omega) (by omega) rfl (fun hb => absurd hb (show ¬ (¬ (1 < 9)) by omega)) (fun _ => ?_)
  refine q_load (v := (2, ((0 + d1) - 48), 0)) (p2 := 18) rfl rfl rfl rfl ?_
  refine q_const (p2 := 19) rfl rfl ?_
  refine q_lmulz (z := (((0 + d1) - 48) * 10)) (p2 := 20) rfl (by omega) (by omega) rfl ?_
  refine q_load (v := (6, 1, 0)) (p2 := 21) rfl rfl rfl rfl ?_
  refine q_load (v := (0, p + 1, 0)) (p2 := 22) rfl rfl rfl rfl ?_
  refine q_aldT (tag := 0) (v := d2) (p2 := 23) rfl hB (by omega) (by omega) hc1 rfl ?_
  refine q_i2l (p2 := 24) rfl (by omega) rfl ?_
  refine q_laddz (z := ((((0 + d1) - 48) * 10) + d2)) (p2 := 25) rfl (by omega) (by omega) rfl ?_
  refine q_const (p2 := 26) rfl rfl ?_
  refine q_lsubz (z := (((((0 + d1) - 48) * 10) + d2) - 48)) (p2 := 27) rfl (by omega) (by omega) rfl ?_
  refine q_goto rfl ?_
  refine q_store2 (loc2 := [(6, 2, 0), (6, 1, 0), (0, le, 0), (0, p, 0), (2, (((((0 + d1) - 48) * 10) + d2) - 48), 0), (11, 0, 0), (0, 1, 0), (0, p + 1, 0), (11, 0, 0), (11, 0, 0), (11, 0, 0), (11, 0, 0)]) (p2 := 30) rfl rfl rfl rfl rfl ?_
  refine q_iinc (z := 2) (loc2 := [(6, 2, 0), (6, 1, 0), (0, le, 0), (0, p, 0), (2, (((((0 + d1) - 48) * 10) + d2) - 48), 0), (11, 0, 0), (0, 2, 0), (0, p + 1, 0), (11, 0, 0), (11, 0, 0), (11, 0, 0), (11, 0, 0)]) (p2 := 31) rfl rfl (by decide) rfl rfl ?_
  refine q_iinc (z := p + 2) (loc2 := [(6, 2, 0), (6, 1, 0), (0, le, 0), (0, p, 0), (2, (((((0 + d1) - 48) * 10) + d2) - 48), 0), (11, 0, 0), (0, 2, 0), (0, p + 2, 0), (11, 0, 0), (11, 0, 0), (11, 0, 0), (11, 0, 0)]) (p2 := 32) rfl rfl (Nat.mod_eq_of_lt (by omega)) rfl rfl ?_
  refine q_goto rfl ?_
  refine q_load (v := (0, p + 2, 0)) (p2 := 7) rfl rfl rfl rfl ?_
  refine q_load (v := (0, le, 0)) (p2 := 8) rfl rfl rfl rfl ?_
  refine q_icmp_s (p2 := 9) rfl (by decide) (by omega) (by omega) rfl (fun _ => ?_) (fun hb => absurd (show ¬ (p + 2 < le) by omega) hb)
  refine q_const (p2 := 34) rfl rfl ?_
  refine q_store (loc2 := [(6, 2, 0), (6, 1, 0), (0, le, 0), (0, p, 0), (2, (((((0 + d1) - 48) * 10) + d2) - 48), 0), (11, 0, 0), (0, 2, 0), (0, 0, 0), (11, 0, 0), (11, 0, 0), (11, 0, 0), (11, 0, 0)]) (p2 := 35) rfl rfl rfl rfl rfl ?_
  refine q_const (p2 := 36) rfl rfl ?_
  refine q_store2 (loc2 := [(6, 2, 0), (6, 1, 0), (0, le, 0), (0, p, 0), (2, (((((0 + d1) - 48) * 10) + d2) - 48), 0), (11, 0, 0), (0, 2, 0), (0, 0, 0), (2, 1, 0), (11, 0, 0), (11, 0, 0), (11, 0, 0)]) (p2 := 37) rfl rfl rfl rfl rfl ?_
  refine q_load (v := (0, p, 0)) (p2 := 38) rfl rfl rfl rfl ?_
  refine q_load (v := (0, 2, 0)) (p2 := 39) rfl rfl rfl rfl ?_
  refine q_iaddz (z := p + 2) (p2 := 40) rfl (by omega) (by omega) rfl ?_
  refine q_load (v := (0, le, 0)) (p2 := 41) rfl rfl rfl rfl ?_
  refine q_icmp_s (p2 := 42) rfl (by decide) (by omega) (by omega) rfl (fun _ => ?_) (fun hb => absurd (show ¬ (p + 2 < le) by omega) hb)
  refine q_const (p2 := 52) rfl rfl ?_
  refine q_store (loc2 := [(6, 2, 0), (6, 1, 0), (0, le, 0), (0, p, 0), (2, (((((0 + d1) - 48) * 10) + d2) - 48), 0), (11, 0, 0), (0, 2, 0), (0, 0, 0), (2, 1, 0), (11, 0, 0), (0, 0, 0), (11, 0, 0)]) (p2 := 53) rfl rfl rfl rfl rfl ?_
  refine q_load (v := (0, p, 0)) (p2 := 54) rfl rfl rfl rfl ?_
  refine q_load (v := (0, 2, 0)) (p2 := 55) rfl rfl rfl rfl ?_
  refine q_iaddz (z := p + 2) (p2 := 56) rfl (by omega) (by omega) rfl ?_
  refine q_const (p2 := 57) rfl rfl ?_
  refine q_iaddz (z := p + 3) (p2 := 58) rfl (by omega) (by omega) rfl ?_
  refine q_store (loc2 := [(6, 2, 0), (6, 1, 0), (0, le, 0), (0, p, 0), (2, (((((0 + d1) - 48) * 10) + d2) - 48), 0), (11, 0, 0), (0, 2, 0), (0, 0, 0), (2, 1, 0), (11, 0, 0), (0, 0, 0), (0, p + 3, 0)]) (p2 := 59) rfl rfl rfl rfl rfl ?_
  refine q_load (v := (0, 0, 0)) (p2 := 60) rfl rfl rfl rfl ?_
  refine q_if0_s (p2 := 61) rfl (by decide) (by omega) rfl (fun _ => ?_) (fun hb => absurd (show 0 = 0 by omega) hb)
  refine q_load (v := (0, 2, 0)) (p2 := 98) rfl rfl rfl rfl ?_
  refine q_load (v := (0, 0, 0)) (p2 := 99) rfl rfl rfl rfl ?_
  refine q_if0_s (p2 := 100) rfl (by decide) (by omega) rfl (fun _ => ?_) (fun hb => absurd (show ¬ (0 < 0) by omega) hb)
  refine q_const (p2 := 103) rfl rfl ?_
  refine q_icmp_s (p2 := 104) rfl (by decide) (by omega) (by omega) rfl (fun hb => absurd hb (show ¬ (9 < 2) by omega)) (fun _ => ?_)
  refine q_load (v := (0, 0, 0)) (p2 := 105) rfl rfl rfl rfl ?_
  refine q_const (p2 := 106) rfl rfl ?_
  refine q_icmp_s (p2 := 107) rfl (by decide) (by omega) (by omega) rfl (fun _ => ?_) (fun hb => absurd (show ¬ (6 < 0) by omega) hb)
  refine q_load (v := (6, 2, 0)) (p2 := 110) rfl rfl rfl rfl ?_
  refine q_load (v := (0, 0, 0)) (p2 := 111) rfl rfl rfl rfl ?_
  refine q_if0_s (p2 := 112) rfl (by decide) (by omega) rfl (fun _ => ?_) (fun hb => absurd (show ¬ (0 < 0) by omega) hb)
  refine q_const (p2 := 115) rfl rfl ?_
  refine q_load (v := (0, p, 0)) (p2 := 116) rfl rfl rfl rfl ?_
  refine q_load (v := (0, 0, 0)) (p2 := 117) rfl rfl rfl rfl ?_
  refine q_if0_s (p2 := 118) rfl (by decide) (by omega) rfl (fun _ => ?_) (fun hb => absurd (show ¬ (0 < 0) by omega) hb)
  refine q_load (v := (2, (((((0 + d1) - 48) * 10) + d2) - 48), 0)) (p2 := 123) rfl rfl rfl rfl ?_
  refine q_callvE (xs := [(2, (((((0 + d1) - 48) * 10) + d2) - 48), 0), (0, p, 0), (0, 2, 0), (6, 2, 0)]) (p2 := 124) rfl rfl rfl rfl (x_rcv_s 2 hT.1) rfl (zc_t_add hT (by omega)) (Nat.le_refl _) (Nat.le_refl _) rfl (fun φ1 hR1 => ?_)
  obtain ⟨hs1_0, fr1⟩ := hR1
  refine q_load (v := (0, 0, 0)) (p2 := 125) rfl rfl rfl rfl ?_
  refine q_if0_s (p2 := 126) rfl (by decide) (by omega) rfl (fun _ => ?_) (fun hb => absurd (show ¬ (0 < 0) by omega) hb)
  refine q_load (v := (0, 2, 0)) (p2 := 133) rfl rfl rfl rfl ?_
  exact q_retv (v := (0, 2, 0)) rfl rfl (⟨rfl, rfl, rfl, rfl, hs1_0, fun j hj0 hj1 hj2 hj3 => (fr1 j (by omega) (by omega) (by omega) (by omega))⟩)
theorem zc_scn_2e {d n sl : Nat} {φ : FH} {tot : Nat} {at_ : Nat} {cur : Nat} {pl : Nat} {va : Nat} {fa : Nat} {fp : Nat} {sf : Nat} {sp : Nat} {no : Nat} {op : Nat} {K : Nat → Nat} {P : Nat → Nat} {V : Nat → Nat} {p : Nat} {le : Nat} {d1 : Nat} {d2 : Nat} {tp : Nat → Nat} (hT : zq_T φ tot at_ cur pl va fa fp sf sp no op K P V) (hB : zq_tp φ tp) (hc0 : tp p = d1) (hc1 : tp (p + 1) = d2) (hc2 : 48 ≤ d1 ∧ d1 ≤ 57 ∧ 48 ≤ d2 ∧ d2 ≤ 57) (hc3 : le = p + 2 ∧ le ≤ 3000) (hc4 : tot < 3002) : x_f x_P (d + 3) 88 [(6, 2, 0), (6, 1, 0), (0, le, 0), (0, p, 0), (11, 0, 0), (11, 0, 0), (11, 0, 0)] φ n sl (x_rR (0, 2, 0) n sl (fun φ2 => zq_T φ2 (tot + 1) at_ cur pl va fa fp sf sp no op (x_s K tot 2) (x_s P tot p) (x_s V tot ((((0 + d1) - 48) * 10) + d2 - 48)) ∧ ∀ j, j ≠ 2 → j ≠ 4 → j ≠ 5 → j ≠ 6 → φ2 j = φ j)) := by
  refine x_f_of rfl ?_
  refine q_load (v := (6, 1, 0)) (p2 := 1) rfl rfl rfl rfl ?_
  refine q_load (v := (0, p, 0)) (p2 := 2) rfl rfl rfl rfl ?_
  refine q_aldT (tag := 0) (v := d1) (p2 := 3) rfl hB (by omega) (by omega) hc0 rfl ?_
  refine q_callr (xs := [(0, d1, 0)]) (p2 := 4) rfl rfl rfl rfl (fun _ _ => rfl) rfl (zc_dg_isLetter (by omega)) (Nat.le_refl _) (Nat.le_refl _) rfl ?_
  refine q_if0_s (p2 := 5) rfl (by decide) (by omega) rfl (fun _ => ?_) (fun hb => absurd (show 0 = 0 by omega) hb)
  refine q_load (v := (6, 1, 0)) (p2 := 12) rfl rfl rfl rfl ?_
  refine q_load (v := (0, p, 0)) (p2 := 13) rfl rfl rfl rfl ?_
  refine q_aldT (tag := 0) (v := d1) (p2 := 14) rfl hB (by omega) (by omega) hc0 rfl ?_
  refine q_callr (xs := [(0, d1, 0)]) (p2 := 15) rfl rfl rfl rfl (fun _ _ => rfl) rfl (zc_dg_isDigit (by omega)) (Nat.le_refl _) (Nat.le_refl _) rfl ?_
  refine q_if0_s (p2 := 16) rfl (by decide) (by omega) rfl (fun hb => absurd hb (show ¬ (1 = 0) by omega)) (fun _ => ?_)
  refine q_load (v := (6, 2, 0)) (p2 := 17) rfl rfl rfl rfl ?_
  refine q_load (v := (6, 1, 0)) (p2 := 18) rfl rfl rfl rfl ?_
  refine q_load (v := (0, le, 0)) (p2 := 19) rfl rfl rfl rfl ?_
  refine q_load (v := (0, p, 0)) (p2 := 20) rfl rfl rfl rfl ?_
  refine q_callrE (xs := [(0, p, 0), (0, le, 0), (6, 1, 0), (6, 2, 0)]) (p2 := 21) rfl rfl rfl rfl (x_rcv_s 2 hT.1) rfl (zc_sn_2e hT hB hc0 hc1 (by omega) (by omega) (by omega)) (Nat.le_refl _) (Nat.le_refl _) rfl (fun φ1 hR1 => ?_)
  obtain ⟨hs1_0, fr1⟩ := hR1
  exact q_retv (v := (0, 2, 0)) rfl rfl (⟨rfl, rfl, rfl, rfl, hs1_0, fun j hj0 hj1 hj2 hj3 => (fr1 j (by omega) (by omega) (by omega) (by omega))⟩)
theorem zc_sn_3e {d n sl : Nat} {φ : FH} {tot : Nat} {at_ : Nat} {cur : Nat} {pl : Nat} {va : Nat} {fa : Nat} {fp : Nat} {sf : Nat} {sp : Nat} {no : Nat} {op : Nat} {K : Nat → Nat} {P : Nat → Nat} {V : Nat → Nat} {p : Nat} {le : Nat} {d1 : Nat} {d2 : Nat} {d3 : Nat} {tp : Nat → Nat} (hT : zq_T φ tot at_ cur pl va fa fp sf sp no op K P V) (hB : zq_tp φ tp) (hc0 : tp p = d1) (hc1 : tp (p + 1) = d2) (hc2 : tp (p + 2) = d3) (hc3 : 48 ≤ d1 ∧ d1 ≤ 57 ∧ 48 ≤ d2 ∧ d2 ≤ 57 ∧ 48 ≤ d3 ∧ d3 ≤ 57) (hc4 : le = p + 3 ∧ le ≤ 3000) (hc5 : tot < 3002) : x_f x_P (d + 2) 144 [(6, 2, 0), (6, 1, 0), (0, le, 0), (0, p, 0), (11, 0, 0), (11, 0, 0), (11, 0, 0), (11, 0, 0), (11, 0, 0), (11, 0, 0), (11, 0, 0), (11, 0, 0)] φ n sl (x_rR (0, 3, 0) n sl (fun φ2 => zq_T φ2 (tot + 1) at_ cur pl va fa fp sf sp no op (x_s K tot 2) (x_s P tot p) (x_s V tot (((((((0 + d1) - 48) * 10) + d2) - 48) * 10) + d3 - 48)) ∧ ∀ j, j ≠ 2 → j ≠ 4 → j ≠ 5 → j ≠ 6 → φ2 j = φ j)) := by
  refine x_f_of rfl ?_
  refine q_const (p2 := 1) rfl rfl ?_
  refine q_store2 (loc2 := [(6, 2, 0), (6, 1, 0), (0, le, 0), (0, p, 0), (2, 0, 0), (11, 0, 0), (11, 0, 0), (11, 0, 0), (11, 0, 0), (11, 0, 0), (11, 0, 0), (11, 0, 0)]) (p2 := 2) rfl rfl rfl rfl rfl ?_
  refine q_const (p2 := 3) rfl rfl ?_
  refine q_store (loc2 := [(6, 2, 0), (6, 1, 0), (0, le, 0), (0, p, 0), (2, 0, 0), (11, 0, 0), (0, 0, 0), (11, 0, 0), (11, 0, 0), (11, 0, 0), (11, 0, 0), (11, 0, 0)]) (p2 := 4) rfl rfl rfl rfl rfl ?_
  refine q_load (v := (0, p, 0)) (p2 := 5) rfl rfl rfl rfl ?_
  refine q_store (loc2 := [(6, 2, 0), (6, 1, 0), (0, le, 0), (0, p, 0), (2, 0, 0), (11, 0, 0), (0, 0, 0), (0, p, 0), (11, 0, 0), (11, 0, 0), (11, 0, 0), (11, 0, 0)]) (p2 := 6) rfl rfl rfl rfl rfl ?_
  refine q_load (v := (0, p, 0)) (p2 := 7) rfl rfl rfl rfl ?_
  refine q_load (v := (0, le, 0)) (p2 := 8) rfl rfl rfl rfl ?_
  refine q_icmp_s (p2 := 9) rfl (by decide) (by omega) (by omega) rfl (fun hb => absurd hb (show ¬ (¬ (p < le)) by omega)) (fun _ => ?_)
  refine q_load (v := (6, 1, 0)) (p2 := 10) rfl rfl rfl rfl ?_
  refine q_load (v := (0, p, 0)) (p2 := 11) rfl rfl rfl rfl ?_
  refine q_aldT (tag := 0) (v := d1) (p2 := 12) rfl hB (by omega) (by omega) hc0 rfl ?_
  refine q_callr (xs := [(0, d1, 0)]) (p2 := 13) rfl rfl rfl rfl (fun _ _ => rfl) rfl (zc_dg_isDigit (by omega)) (Nat.le_refl _) (Nat.le_refl _) rfl ?_
  refine q_if0_s (p2 := 14) rfl (by decide) (by omega) rfl (fun hb => absurd hb (show ¬ (1 = 0) by omega)) (fun _ => ?_)
  refine q_load (v := (0, 0, 0)) (p2 := 15) rfl rfl rfl rfl ?_
  refine q_const (p2 := 16) rfl rfl ?_
  refine q_icmp_s (p2 := 17) rfl (by decide) (by omega) (by omega) rfl (fun hb => absurd hb (show ¬ (¬ (0 < 9)) by omega)) (fun _ => ?_)
  refine q_load (v := (2, 0, 0)) (p2 := 18) rfl rfl rfl rfl ?_
  refine q_const (p2 := 19) rfl rfl ?_
  refine q_lmulz (z := 0) (p2 := 20) rfl (by omega) (by omega) rfl ?_
  refine q_load (v := (6, 1, 0)) (p2 := 21) rfl rfl rfl rfl ?_
  refine q_load (v := (0, p, 0)) (p2 := 22) rfl rfl rfl rfl ?_
  refine q_aldT (tag := 0) (v := d1) (p2 := 23) rfl hB (by omega) (by omega) hc0 rfl ?_
  refine q_i2l (p2 := 24) rfl (by omega) rfl ?_
  refine q_laddz (z := (0 + d1)) (p2 := 25) rfl (by omega) (by omega) rfl ?_
  refine q_const (p2 := 26) rfl rfl ?_
  refine q_lsubz (z := ((0 + d1) - 48)) (p2 := 27) rfl (by omega) (by omega) rfl ?_
  refine q_goto rfl ?_
  refine q_store2 (loc2 := [(6, 2, 0), (6, 1, 0), (0, le, 0), (0, p, 0), (2, ((0 + d1) - 48), 0), (11, 0, 0), (0, 0, 0), (0, p, 0), (11, 0, 0), (11, 0, 0), (11, 0, 0), (11, 0, 0)]) (p2 := 30) rfl rfl rfl rfl rfl ?_
  refine q_iinc (z := 1) (loc2 := [(6, 2, 0), (6, 1, 0), (0, le, 0), (0, p, 0), (2, ((0 + d1) - 48), 0), (11, 0, 0), (0, 1, 0), (0, p, 0), (11, 0, 0), (11, 0, 0), (11, 0, 0), (11, 0, 0)]) (p2 := 31) rfl rfl (by decide) rfl rfl ?_
  refine q_iinc (z := p + 1) (loc2 := [(6, 2, 0), (6, 1, 0), (0, le, 0), (0, p, 0), (2, ((0 + d1) - 48), 0), (11, 0, 0), (0, 1, 0), (0, p + 1, 0), (11, 0, 0), (11, 0, 0), (11, 0, 0), (11, 0, 0)]) (p2 := 32) rfl rfl (Nat.mod_eq_of_lt (by omega)) rfl rfl ?_
  refine q_goto rfl ?_
  refine q_load (v := (0, p + 1, 0)) (p2 := 7) rfl rfl rfl rfl ?_
  refine q_load (v := (0, le, 0)) (p2 := 8) rfl rfl rfl rfl ?_
  refine q_icmp_s (p2 := 9) rfl (by decide) (by omega) (by omega) rfl (fun hb => absurd hb (show ¬ (¬ (p + 1 < le)) by omega)) (fun _ => ?_)
  refine q_load (v := (6, 1, 0)) (p2 := 10) rfl rfl rfl rfl ?_
  refine q_load (v := (0, p + 1, 0)) (p2 := 11) rfl rfl rfl rfl ?_
  refine q_aldT (tag := 0) (v := d2) (p2 := 12) rfl hB (by omega) (by omega) hc1 rfl ?_
  refine q_callr (xs := [(0, d2, 0)]) (p2 := 13) rfl rfl rfl rfl (fun _ _ => rfl) rfl (zc_dg_isDigit (by omega)) (Nat.le_refl _) (Nat.le_refl _) rfl ?_
  refine q_if0_s (p2 := 14) rfl (by decide) (by omega) rfl (fun hb => absurd hb (show ¬ (1 = 0) by omega)) (fun _ => ?_)
  refine q_load (v := (0, 1, 0)) (p2 := 15) rfl rfl rfl rfl ?_
  refine q_const (p2 := 16) rfl rfl ?_
  refine q_icmp_s (p2 := 17) rfl (by decide) (by omega) (by omega) rfl (fun hb => absurd hb (show ¬ (¬ (1 < 9)) by omega)) (fun _ => ?_)
  refine q_load (v := (2, ((0 + d1) - 48), 0)) (p2 := 18) rfl rfl rfl rfl ?_
  refine q_const (p2 := 19) rfl rfl ?_
  refine q_lmulz (z := (((0 + d1) - 48) * 10)) (p2 := 20) rfl (by omega) (by omega) rfl ?_
  refine q_load (v := (6, 1, 0)) (p2 := 21) rfl rfl rfl rfl ?_
  refine q_load (v := (0, p + 1, 0)) (p2 := 22) rfl rfl rfl rfl ?_
  refine q_aldT (tag := 0) (v := d2) (p2 := 23) rfl hB (by omega) (by omega) hc1 rfl ?_
  refine q_i2l (p2 := 24) rfl (by omega) rfl ?_
  refine q_laddz (z := ((((0 + d1) - 48) * 10) + d2)) (p2 := 25) rfl (by omega) (by omega) rfl ?_
  refine q_const (p2 := 26) rfl rfl ?_
  refine q_lsubz (z := (((((0 + d1) - 48) * 10) + d2) - 48)) (p2 := 27) rfl (by omega) (by omega) rfl ?_
  refine q_goto rfl ?_
  refine q_store2 (loc2 := [(6, 2, 0), (6, 1, 0), (0, le, 0), (0, p, 0), (2, (((((0 + d1) - 48) * 10) + d2) - 48), 0), (11, 0, 0), (0, 1, 0), (0, p + 1, 0), (11, 0, 0), (11, 0, 0), (11, 0, 0), (11, 0, 0)]) (p2 := 30) rfl rfl rfl rfl rfl ?_
  refine q_iinc (z := 2) (loc2 := [(6, 2, 0), (6, 1, 0), (0, le, 0), (0, p, 0), (2, (((((0 + d1) - 48) * 10) + d2) - 48), 0), (11, 0, 0), (0, 2, 0), (0, p + 1, 0), (11, 0, 0), (11, 0, 0), (11, 0, 0), (11, 0, 0)]) (p2 := 31) rfl rfl (by decide) rfl rfl ?_
  refine q_iinc (z := p + 2) (loc2 := [(6, 2, 0), (6, 1, 0), (0, le, 0), (0, p, 0), (2, (((((0 + d1) - 48) * 10) + d2) - 48), 0), (11, 0, 0), (0, 2, 0), (0, p + 2, 0), (11, 0, 0), (11, 0, 0), (11, 0, 0), (11, 0, 0)]) (p2 := 32) rfl rfl (Nat.mod_eq_of_lt (by omega)) rfl rfl ?_
  refine q_goto rfl ?_
  refine q_load (v := (0, p + 2, 0)) (p2 := 7) rfl rfl rfl rfl ?_
  refine q_load (v := (0, le, 0)) (p2 := 8) rfl rfl rfl rfl ?_
  refine q_icmp_s (p2 := 9) rfl (by decide) (by omega) (by omega) rfl (fun hb => absurd hb (show ¬ (¬ (p + 2 < le)) by omega)) (fun _ => ?_)
  refine q_load (v := (6, 1, 0)) (p2 := 10) rfl rfl rfl rfl ?_
  refine q_load (v := (0, p + 2, 0)) (p2 := 11) rfl rfl rfl rfl ?_
  refine q_aldT (tag := 0) (v := d3) (p2 := 12) rfl hB (by omega) (by omega) hc2 rfl ?_
  refine q_callr (xs := [(0, d3, 0)]) (p2 := 13) rfl rfl rfl rfl (fun _ _ => rfl) rfl (zc_dg_isDigit (by omega)) (Nat.le_refl _) (Nat.le_refl _) rfl ?_
  refine q_if0_s (p2 := 14) rfl (by decide) (by omega) rfl (fun hb => absurd hb (show ¬ (1 = 0) by omega)) (fun _ => ?_)
  refine q_load (v := (0, 2, 0)) (p2 := 15) rfl rfl rfl rfl ?_
  refine q_const (p2 := 16) rfl rfl ?_
  refine q_icmp_s (p2 := 17) rfl (by decide) (by omega) (by omega) rfl (fun hb => absurd hb (show ¬ (¬ (2 < 9)) by omega)) (fun _ => ?_)
  refine q_load (v := (2, (((((0 + d1) - 48) * 10) + d2) - 48), 0)) (p2 := 18) rfl rfl rfl rfl ?_
  refine q_const (p2 := 19) rfl rfl ?_
  refine q_lmulz (z := ((((((0 + d1) - 48) * 10) + d2) - 48) * 10)) (p2 := 20) rfl (by omega) (by omega) rfl ?_
  refine q_load (v := (6, 1, 0)) (p2 := 21) rfl rfl rfl rfl ?_
  refine q_load (v := (0, p + 2, 0)) (p2 := 22) rfl rfl rfl rfl ?_
  refine q_aldT (tag := 0) (v := d3) (p2 := 23) rfl hB (by omega) (by omega) hc2 rfl ?_
  refine q_i2l (p2 := 24) rfl (by omega) rfl ?_
  refine q_laddz (z := (((((((0 + d1) - 48) * 10) + d2) - 48) * 10) + d3)) (p2 := 25) rfl (by omega) (by omega) rfl ?_
  refine q_const (p2 := 26) rfl rfl ?_
  refine q_lsubz (z := ((((((((0 + d1) - 48) * 10) + d2) - 48) * 10) + d3) - 48)) (p2 := 27) rfl (by omega) (by omega) rfl ?_
  refine q_goto rfl ?_
  refine q_store2 (loc2 := [(6, 2, 0), (6, 1, 0), (0, le, 0), (0, p, 0), (2, ((((((((0 + d1) - 48) * 10) + d2) - 48) * 10) + d3) - 48), 0), (11, 0, 0), (0, 2, 0), (0, p + 2, 0), (11, 0, 0), (11, 0, 0), (11, 0, 0), (11, 0, 0)]) (p2 := 30) rfl rfl rfl rfl rfl ?_
  refine q_iinc (z := 3) (loc2 := [(6, 2, 0), (6, 1, 0), (0, le, 0), (0, p, 0), (2, ((((((((0 + d1) - 48) * 10) + d2) - 48) * 10) + d3) - 48), 0), (11, 0, 0), (0, 3, 0), (0, p + 2, 0), (11, 0, 0), (11, 0, 0), (11, 0, 0), (11, 0, 0)]) (p2 := 31) rfl rfl (by decide) rfl rfl ?_
  refine q_iinc (z := p + 3) (loc2 := [(6, 2, 0), (6, 1, 0), (0, le, 0), (0, p, 0), (2, ((((((((0 + d1) - 48) * 10) + d2) - 48) * 10) + d3) - 48), 0), (11, 0, 0), (0, 3, 0), (0, p + 3, 0), (11, 0, 0), (11, 0, 0), (11, 0, 0), (11, 0, 0)]) (p2 := 32) rfl rfl (Nat.mod_eq_of_lt (by omega)) rfl rfl ?_
  refine q_goto rfl ?_
  refine q_load (v := (0, p + 3, 0)) (p2 := 7) rfl rfl rfl rfl ?_
  refine q_load (v := (0, le, 0)) (p2 := 8) rfl rfl rfl rfl ?_
  refine q_icmp_s (p2 := 9) rfl (by decide) (by omega) (by omega) rfl (fun _ => ?_) (fun hb => absurd (show ¬ (p + 3 < le) by omega) hb)
  refine q_const (p2 := 34) rfl rfl ?_
  refine q_store (loc2 := [(6, 2, 0), (6, 1, 0), (0, le, 0), (0, p, 0), (2, ((((((((0 + d1) - 48) * 10) + d2) - 48) * 10) + d3) - 48), 0), (11, 0, 0), (0, 3, 0), (0, 0, 0), (11, 0, 0), (11, 0, 0), (11, 0, 0), (11, 0, 0)]) (p2 := 35) rfl rfl rfl rfl rfl ?_
  refine q_const (p2 := 36) rfl rfl ?_
  refine q_store2 (loc2 := [(6, 2, 0), (6, 1, 0), (0, le, 0), (0, p, 0), (2, ((((((((0 + d1) - 48) * 10) + d2) - 48) * 10) + d3) - 48), 0), (11, 0, 0), (0, 3, 0), (0, 0, 0), (2, 1, 0), (11, 0, 0), (11, 0, 0), (11, 0, 0)]) (p2 := 37) rfl rfl rfl rfl rfl ?_
  refine q_load (v := (0, p, 0)) (p2 := 38) rfl rfl rfl rfl ?_
  refine q_load (v := (0, 3, 0)) (p2 := 39) rfl rfl rfl rfl ?_
  refine q_iaddz (z := p + 3) (p2 := 40) rfl (by omega) (by omega) rfl ?_
  refine q_load (v := (0, le, 0)) (p2 := 41) rfl rfl rfl rfl ?_
  refine q_icmp_s (p2 := 42) rfl (by decide) (by omega) (by omega) rfl (fun _ => ?_) (fun hb => absurd (show ¬ (p + 3 < le) by omega) hb)
  refine q_const (p2 := 52) rfl rfl ?_
  refine q_store (loc2 := [(6, 2, 0), (6, 1, 0), (0, le, 0), (0, p, 0), (2, ((((((((0 + d1) - 48) * 10) + d2) - 48) * 10) + d3) - 48), 0), (11, 0, 0), (0, 3, 0), (0, 0, 0), (2, 1, 0), (11, 0, 0), (0, 0, 0), (11, 0, 0)]) (p2 := 53) rfl rfl rfl rfl rfl ?_
  refine q_load (v := (0, p, 0)) (p2 := 54) rfl rfl rfl rfl ?_
  refine q_load (v := (0, 3, 0)) (p2 := 55) rfl rfl rfl rfl ?_
  refine q_iaddz (z := p + 3) (p2 := 56) rfl (by omega) (by omega) rfl ?_
  refine q_const (p2 := 57) rfl rfl ?_
  refine q_iaddz (z := p + 4) (p2 := 58) rfl (by omega) (by omega) rfl ?_
  refine q_store (loc2 := [(6, 2, 0), (6, 1, 0), (0, le, 0), (0, p, 0), (2, ((((((((0 + d1) - 48) * 10) + d2) - 48) * 10) + d3) - 48), 0), (11, 0, 0), (0, 3, 0), (0, 0, 0), (2, 1, 0), (11, 0, 0), (0, 0, 0), (0, p + 4, 0)]) (p2 := 59) rfl rfl rfl rfl rfl ?_
  refine q_load (v := (0, 0, 0)) (p2 := 60) rfl rfl rfl rfl ?_
  refine q_if0_s (p2 := 61) rfl (by decide) (by omega) rfl (fun _ => ?_) (fun hb => absurd (show 0 = 0 by omega) hb)
  refine q_load (v := (0, 3, 0)) (p2 := 98) rfl rfl rfl rfl ?_
  refine q_load (v := (0, 0, 0)) (p2 := 99) rfl rfl rfl rfl ?_
  refine q_if0_s (p2 := 100) rfl (by decide) (by omega) rfl (fun _ => ?_) (fun hb => absurd (show ¬ (0 < 0) by omega) hb)
  refine q_const (p2 := 103) rfl rfl ?_
  refine q_icmp_s (p2 := 104) rfl (by decide) (by omega) (by omega) rfl (fun hb => absurd hb (show ¬ (9 < 3) by omega)) (fun _ => ?_)
  refine q_load (v := (0, 0, 0)) (p2 := 105) rfl rfl rfl rfl ?_
  refine q_const (p2 := 106) rfl rfl ?_
  refine q_icmp_s (p2 := 107) rfl (by decide) (by omega) (by omega) rfl (fun _ => ?_) (fun hb => absurd (show ¬ (6 < 0) by omega) hb)
  refine q_load (v := (6, 2, 0)) (p2 := 110) rfl rfl rfl rfl ?_
  refine q_load (v := (0, 0, 0)) (p2 := 111) rfl rfl rfl rfl ?_
  refine q_if0_s (p2 := 112) rfl (by decide) (by omega) rfl (fun _ => ?_) (fun hb => absurd (show ¬ (0 < 0) by omega) hb)
  refine q_const (p2 := 115) rfl rfl ?_
  refine q_load (v := (0, p, 0)) (p2 := 116) rfl rfl rfl rfl ?_
  refine q_load (v := (0, 0, 0)) (p2 := 117) rfl rfl rfl rfl ?_
  refine q_if0_s (p2 := 118) rfl (by decide) (by omega) rfl (fun _ => ?_) (fun hb => absurd (show ¬ (0 < 0) by omega) hb)
  refine q_load (v := (2, ((((((((0 + d1) - 48) * 10) + d2) - 48) * 10) + d3) - 48), 0)) (p2 := 123) rfl rfl rfl rfl ?_
  refine q_callvE (xs := [(2, ((((((((0 + d1) - 48) * 10) + d2) - 48) * 10) + d3) - 48), 0), (0, p, 0), (0, 2, 0), (6, 2, 0)]) (p2 := 124) rfl rfl rfl rfl (x_rcv_s 2 hT.1) rfl (zc_t_add hT (by omega)) (Nat.le_refl _) (Nat.le_refl _) rfl (fun φ1 hR1 => ?_)
  obtain ⟨hs1_0, fr1⟩ := hR1
  refine q_load (v := (0, 0, 0)) (p2 := 125) rfl rfl rfl rfl ?_
  refine q_if0_s (p2 := 126) rfl (by decide) (by omega) rfl (fun _ => ?_) (fun hb => absurd (show ¬ (0 < 0) by omega) hb)
  refine q_load (v := (0, 3, 0)) (p2 := 133) rfl rfl rfl rfl ?_
  exact q_retv (v := (0, 3, 0)) rfl rfl (⟨rfl, rfl, rfl, rfl, hs1_0, fun j hj0 hj1 hj2 hj3 => (fr1 j (by omega) (by omega) (by omega) (by omega))⟩)
theorem zc_scn_3e {d n sl : Nat} {φ : FH} {tot : Nat} {at_ : Nat} {cur : Nat} {pl : Nat} {va : Nat} {fa : Nat} {fp : Nat} {sf : Nat} {sp : Nat} {no : Nat} {op : Nat} {K : Nat → Nat} {P : Nat → Nat} {V : Nat → Nat} {p : Nat} {le : Nat} {d1 : Nat} {d2 : Nat} {d3 : Nat} {tp : Nat → Nat} (hT : zq_T φ tot at_ cur pl va fa fp sf sp no op K P V) (hB : zq_tp φ tp) (hc0 : tp p = d1) (hc1 : tp (p + 1) = d2) (hc2 : tp (p + 2) = d3) (hc3 : 48 ≤ d1 ∧ d1 ≤ 57 ∧ 48 ≤ d2 ∧ d2 ≤ 57 ∧ 48 ≤ d3 ∧ d3 ≤ 57) (hc4 : le = p + 3 ∧ le ≤ 3000) (hc5 : tot < 3002) : x_f x_P (d + 3) 88 [(6, 2, 0), (6, 1, 0), (0, le, 0), (0, p, 0), (11, 0, 0), (11, 0, 0), (11, 0, 0)] φ n sl (x_rR (0, 3, 0) n sl (fun φ2 => zq_T φ2 (tot + 1) at_ cur pl va fa fp sf sp no op (x_s K tot 2) (x_s P tot p) (x_s V tot (((((((0 + d1) - 48) * 10) + d2) - 48) * 10) + d3 - 48)) ∧ ∀ j, j ≠ 2 → j ≠ 4 → j ≠ 5 → j ≠ 6 → φ2 j = φ j)) := by
  refine x_f_of rfl ?_
  refine q_load (v := (6, 1, 0)) (p2 := 1) rfl rfl rfl rfl ?_
  refine q_load (v := (0, p, 0)) (p2 := 2) rfl rfl rfl rfl ?_
  refine q_aldT (tag := 0) (v := d1) (p2 := 3) rfl hB (by omega) (by omega) hc0 rfl ?_
  refine q_callr (xs := [(0, d1, 0)]) (p2 := 4) rfl rfl rfl rfl (fun _ _ => rfl) rfl (zc_dg_isLetter (by omega)) (Nat.le_refl _) (Nat.le_refl _) rfl ?_
  refine q_if0_s (p2 := 5) rfl (by decide) (by omega) rfl (fun _ => ?_) (fun hb => absurd (show 0 = 0 by omega) hb)
  refine q_load (v := (6, 1, 0)) (p2 := 12) rfl rfl rfl rfl ?_
  refine q_load (v := (0, p, 0)) (p2 := 13) rfl rfl rfl rfl ?_
  refine q_aldT (tag := 0) (v := d1) (p2 := 14) rfl hB (by omega) (by omega) hc0 rfl ?_
  refine q_callr (xs := [(0, d1, 0)]) (p2 := 15) rfl rfl rfl rfl (fun _ _ => rfl) rfl (zc_dg_isDigit (by omega)) (Nat.le_refl _) (Nat.le_refl _) rfl ?_
  refine q_if0_s (p2 := 16) rfl (by decide) (by omega) rfl (fun hb => absurd hb (show ¬ (1 = 0) by omega)) (fun _ => ?_)
  refine q_load (v := (6, 2, 0)) (p2 := 17) rfl rfl rfl rfl ?_
  refine q_load (v := (6, 1, 0)) (p2 := 18) rfl rfl rfl rfl ?_
  refine q_load (v := (0, le, 0)) (p2 := 19) rfl rfl rfl rfl ?_
  refine q_load (v := (0, p, 0)) (p2 := 20) rfl rfl rfl rfl ?_
  refine q_callrE (xs := [(0, p, 0), (0, le, 0), (6, 1, 0), (6, 2, 0)]) (p2 := 21) rfl rfl rfl rfl (x_rcv_s 2 hT.1) rfl (zc_sn_3e hT hB hc0 hc1 hc2 (by omega) (by omega) (by omega)) (Nat.le_refl _) (Nat.le_refl _) rfl (fun φ1 hR1 => ?_)
  obtain ⟨hs1_0, fr1⟩ := hR1
  exact q_retv (v := (0, 3, 0)) rfl rfl (⟨rfl, rfl, rfl, rfl, hs1_0, fun j hj0 hj1 hj2 hj3 => (fr1 j (by omega) (by omega) (by omega) (by omega))⟩)
theorem zc_sn_4e {d n sl : Nat} {φ : FH} {tot : Nat} {at_ : Nat} {cur : Nat} {pl : Nat} {va : Nat} {fa : Nat} {fp : Nat} {sf : Nat} {sp : Nat} {no : Nat} {op : Nat} {K : Nat → Nat} {P : Nat → Nat} {V : Nat → Nat} {p : Nat} {le : Nat} {d1 : Nat} {d2 : Nat} {d3 : Nat} {d4 : Nat} {tp : Nat → Nat} (hT : zq_T φ tot at_ cur pl va fa fp sf sp no op K P V) (hB : zq_tp φ tp) (hc0 : tp p = d1) (hc1 : tp (p + 1) = d2) (hc2 : tp (p + 2) = d3) (hc3 : tp (p + 3) = d4) (hc4 : 48 ≤ d1 ∧ d1 ≤ 57 ∧ 48 ≤ d2 ∧ d2 ≤ 57 ∧ 48 ≤ d3 ∧ d3 ≤ 57 ∧ 48 ≤ d4 ∧ d4 ≤ 57) (hc5 : le = p + 4 ∧ le ≤ 3000) (hc6 : tot < 3002) : x_f x_P (d + 2) 144 [(6, 2, 0), (6, 1, 0), (0, le, 0), (0, p, 0), (11, 0, 0), (11, 0, 0), (11, 0, 0), (11, 0, 0), (11, 0, 0), (11, 0, 0), (11, 0, 0), (11, 0, 0)] φ n sl (x_rR (0, 4, 0) n sl (fun φ2 => zq_T φ2 (tot + 1) at_ cur pl va fa fp sf sp no op (x_s K tot 2) (x_s P tot p) (x_s V tot ((((((((((0 + d1) - 48) * 10) + d2) - 48) * 10) + d3) - 48) * 10) + d4 - 48)) ∧ ∀ j, j ≠ 2 → j ≠ 4 → j ≠ 5 → j ≠ 6 → φ2 j = φ j)) := by
  refine x_f_of rfl ?_
  refine q_const (p2 := 1) rfl rfl ?_
  refine q_store2 (loc2 := [(6, 2, 0), (6, 1, 0), (0, le, 0), (0, p, 0), (2, 0, 0), (11, 0, 0), (11, 0, 0), (11, 0, 0), (11, 0, 0), (11, 0, 0), (11, 0, 0), (11, 0, 0)]) (p2 := 2) rfl rfl rfl rfl rfl ?_
  refine q_const (p2 := 3) rfl rfl ?_
  refine q_store (loc2 := [(6, 2, 0), (6, 1, 0), (0, le, 0), (0, p, 0), (2, 0, 0), (11, 0, 0), (0, 0, 0), (11, 0, 0), (11, 0, 0), (11, 0, 0), (11, 0, 0), (11, 0, 0)]) (p2 := 4) rfl rfl rfl rfl rfl ?_
  refine q_load (v := (0, p, 0)) (p2 := 5) rfl rfl rfl rfl ?_
  refine q_store (loc2 := [(6, 2, 0), (6, 1, 0), (0, le, 0), (0, p, 0), (2, 0, 0), (11, 0, 0), (0, 0, 0), (0, p, 0), (11, 0, 0), (11, 0, 0), (11, 0, 0), (11, 0, 0)]) (p2 := 6) rfl rfl rfl rfl rfl ?_
  refine q_load (v := (0, p, 0)) (p2 := 7) rfl rfl rfl rfl ?_
  refine q_load (v := (0, le, 0)) (p2 := 8) rfl rfl rfl rfl ?_
  refine q_icmp_s (p2 := 9) rfl (by decide) (by omega) (by omega) rfl (fun hb => absurd hb (show ¬ (¬ (p < le)) by omega)) (fun _ => ?_)
  refine q_load (v := (6, 1, 0)) (p2 := 10) rfl rfl rfl rfl ?_
  refine q_load (v := (0, p, 0)) (p2 := 11) rfl rfl rfl rfl ?_
  refine q_aldT (tag := 0) (v := d1) (p2 := 12) rfl hB (by omega) (by omega) hc0 rfl ?_
  refine q_callr (xs := [(0, d1, 0)]) (p2 := 13) rfl rfl rfl rfl (fun _ _ => rfl) rfl (zc_dg_isDigit (by omega)) (Nat.le_refl _) (Nat.le_refl _) rfl ?_
  refine q_if0_s (p2 := 14) rfl (by decide) (by omega) rfl (fun hb => absurd hb (show ¬ (1 = 0) by omega)) (fun _ => ?_)
  refine q_load (v := (0, 0, 0)) (p2 := 15) rfl rfl rfl rfl ?_
  refine q_const (p2 := 16) rfl rfl ?_
  refine q_icmp_s (p2 := 17) rfl (by decide) (by omega) (by omega) rfl (fun hb => absurd hb (show ¬ (¬ (0 < 9)) by omega)) (fun _ => ?_)
  refine q_load (v := (2, 0, 0)) (p2 := 18) rfl rfl rfl rfl ?_
  refine q_const (p2 := 19) rfl rfl ?_
  refine q_lmulz (z := 0) (p2 := 20) rfl (by omega) (by omega) rfl ?_
  refine q_load (v := (6, 1, 0)) (p2 := 21) rfl rfl rfl rfl ?_
  refine q_load (v := (0, p, 0)) (p2 := 22) rfl rfl rfl rfl ?_
  refine q_aldT (tag := 0) (v := d1) (p2 := 23) rfl hB (by omega) (by omega) hc0 rfl ?_
  refine q_i2l (p2 := 24) rfl (by omega) rfl ?_
  refine q_laddz (z := (0 + d1)) (p2 := 25) rfl (by omega) (by omega) rfl ?_
  refine q_const (p2 := 26) rfl rfl ?_
  refine q_lsubz (z := ((0 + d1) - 48)) (p2 := 27) rfl (by omega) (by omega) rfl ?_
  refine q_goto rfl ?_
  refine q_store2 (loc2 := [(6, 2, 0), (6, 1, 0), (0, le, 0), (0, p, 0), (2, ((0 + d1) - 48), 0), (11, 0, 0), (0, 0, 0), (0, p, 0), (11, 0, 0), (11, 0, 0), (11, 0, 0), (11, 0, 0)]) (p2 := 30) rfl rfl rfl rfl rfl ?_
  refine q_iinc (z := 1) (loc2 := [(6, 2, 0), (6, 1, 0), (0, le, 0), (0, p, 0), (2, ((0 + d1) - 48), 0), (11, 0, 0), (0, 1, 0), (0, p, 0), (11, 0, 0), (11, 0, 0), (11, 0, 0), (11, 0, 0)]) (p2 := 31) rfl rfl (by decide) rfl rfl ?_
  refine q_iinc (z := p + 1) (loc2 := [(6, 2, 0), (6, 1, 0), (0, le, 0), (0, p, 0), (2, ((0 + d1) - 48), 0), (11, 0, 0), (0, 1, 0), (0, p + 1, 0), (11, 0, 0), (11, 0, 0), (11, 0, 0), (11, 0, 0)]) (p2 := 32) rfl rfl (Nat.mod_eq_of_lt (by omega)) rfl rfl ?_
  refine q_goto rfl ?_
  refine q_load (v := (0, p + 1, 0)) (p2 := 7) rfl rfl rfl rfl ?_
  refine q_load (v := (0, le, 0)) (p2 := 8) rfl rfl rfl rfl ?_
  refine q_icmp_s (p2 := 9) rfl (by decide) (by omega) (by omega) rfl (fun hb => absurd hb (show ¬ (¬ (p + 1 < le)) by omega)) (fun _ => ?_)
  refine q_load (v := (6, 1, 0)) (p2 := 10) rfl rfl rfl rfl ?_
  refine q_load (v := (0, p + 1, 0)) (p2 := 11) rfl rfl rfl rfl ?_
  refine q_aldT (tag := 0) (v := d2) (p2 := 12) rfl hB (by omega) (by omega) hc1 rfl ?_
  refine q_callr (xs := [(0, d2, 0)]) (p2 := 13) rfl rfl rfl rfl (fun _ _ => rfl) rfl (zc_dg_isDigit (by omega)) (Nat.le_refl _) (Nat.le_refl _) rfl ?_
  refine q_if0_s (p2 := 14) rfl (by decide) (by omega) rfl (fun hb => absurd hb (show ¬ (1 = 0) by omega)) (fun _ => ?_)
  refine q_load (v := (0, 1, 0)) (p2 := 15) rfl rfl rfl rfl ?_
  refine q_const (p2 := 16) rfl rfl ?_
  refine q_icmp_s (p2 := 17) rfl (by decide) (by omega) (by omega) rfl (fun hb => absurd hb (show ¬ (¬ (1 < 9)) by omega)) (fun _ => ?_)
  refine q_load (v := (2, ((0 + d1) - 48), 0)) (p2 := 18) rfl rfl rfl rfl ?_
  refine q_const (p2 := 19) rfl rfl ?_
  refine q_lmulz (z := (((0 + d1) - 48) * 10)) (p2 := 20) rfl (by omega) (by omega) rfl ?_
  refine q_load (v := (6, 1, 0)) (p2 := 21) rfl rfl rfl rfl ?_
  refine q_load (v := (0, p + 1, 0)) (p2 := 22) rfl rfl rfl rfl ?_
  refine q_aldT (tag := 0) (v := d2) (p2 := 23) rfl hB (by omega) (by omega) hc1 rfl ?_
  refine q_i2l (p2 := 24) rfl (by omega) rfl ?_
  refine q_laddz (z := ((((0 + d1) - 48) * 10) + d2)) (p2 := 25) rfl (by omega) (by omega) rfl ?_
  refine q_const (p2 := 26) rfl rfl ?_
  refine q_lsubz (z := (((((0 + d1) - 48) * 10) + d2) - 48)) (p2 := 27) rfl (by omega) (by omega) rfl ?_
  refine q_goto rfl ?_
  refine q_store2 (loc2 := [(6, 2, 0), (6, 1, 0), (0, le, 0), (0, p, 0), (2, (((((0 + d1) - 48) * 10) + d2) - 48), 0), (11, 0, 0), (0, 1, 0), (0, p + 1, 0), (11, 0, 0), (11, 0, 0), (11, 0, 0), (11, 0, 0)]) (p2 := 30) rfl rfl rfl rfl rfl ?_
  refine q_iinc (z := 2) (loc2 := [(6, 2, 0), (6, 1, 0), (0, le, 0), (0, p, 0), (2, (((((0 + d1) - 48) * 10) + d2) - 48), 0), (11, 0, 0), (0, 2, 0), (0, p + 1, 0), (11, 0, 0), (11, 0, 0), (11, 0, 0), (11, 0, 0)]) (p2 := 31) rfl rfl (by decide) rfl rfl ?_
  refine q_iinc (z := p + 2) (loc2 := [(6, 2, 0), (6, 1, 0), (0, le, 0), (0, p, 0), (2, (((((0 + d1) - 48) * 10) + d2) - 48), 0), (11, 0, 0), (0, 2, 0), (0, p + 2, 0), (11, 0, 0), (11, 0, 0), (11, 0, 0), (11, 0, 0)]) (p2 := 32) rfl rfl (Nat.mod_eq_of_lt (by omega)) rfl rfl ?_
  refine q_goto rfl ?_
  refine q_load (v := (0, p + 2, 0)) (p2 := 7) rfl rfl rfl rfl ?_
  refine q_load (v := (0, le, 0)) (p2 := 8) rfl rfl rfl rfl ?_
  refine q_icmp_s (p2 := 9) rfl (by decide) (by omega) (by omega) rfl (fun hb => absurd hb (show ¬ (¬ (p + 2 < le)) by omega)) (fun _ => ?_)
  refine q_load (v := (6, 1, 0)) (p2 := 10) rfl rfl rfl rfl ?_
  refine q_load (v := (0, p + 2, 0)) (p2 := 11) rfl rfl rfl rfl ?_
  refine q_aldT (tag := 0) (v := d3) (p2 := 12) rfl hB (by omega) (by omega) hc2 rfl ?_
  refine q_callr (xs := [(0, d3, 0)]) (p2 := 13) rfl rfl rfl rfl (fun _ _ => rfl) rfl (zc_dg_isDigit (by omega)) (Nat.le_refl _) (Nat.le_refl _) rfl ?_
  refine q_if0_s (p2 := 14) rfl (by decide) (by omega) rfl (fun hb => absurd hb (show ¬ (1 = 0) by omega)) (fun _ => ?_)
  refine q_load (v := (0, 2, 0)) (p2 := 15) rfl rfl rfl rfl ?_
  refine q_const (p2 := 16) rfl rfl ?_
  refine q_icmp_s (p2 := 17) rfl (by decide) (by omega) (by omega) rfl (fun hb => absurd hb (show ¬ (¬ (2 < 9)) by omega)) (fun _ => ?_)
  refine q_load (v := (2, (((((0 + d1) - 48) * 10) + d2) - 48), 0)) (p2 := 18) rfl rfl rfl rfl ?_
  refine q_const (p2 := 19) rfl rfl ?_
  refine q_lmulz (z := ((((((0 + d1) - 48) * 10) + d2) - 48) * 10)) (p2 := 20) rfl (by omega) (by omega) rfl ?_
  refine q_load (v := (6, 1, 0)) (p2 := 21) rfl rfl rfl rfl ?_
  refine q_load (v := (0, p + 2, 0)) (p2 := 22) rfl rfl rfl rfl ?_
  refine q_aldT (tag := 0) (v := d3) (p2 := 23) rfl hB (by omega) (by omega) hc2 rfl ?_
  refine q_i2l (p2 := 24) rfl (by omega) rfl ?_
  refine q_laddz (z := (((((((0 + d1) - 48) * 10) + d2) - 48) * 10) + d3)) (p2 := 25) rfl (by omega) (by omega) rfl ?_
  refine q_const (p2 := 26) rfl rfl ?_
  refine q_lsubz (z := ((((((((0 + d1) - 48) * 10) + d2) - 48) * 10) + d3) - 48)) (p2 := 27) rfl (by omega) (by omega) rfl ?_
  refine q_goto rfl ?_
  refine q_store2 (loc2 := [(6, 2, 0), (6, 1, 0), (0, le, 0), (0, p, 0), (2, ((((((((0 + d1) - 48) * 10) + d2) - 48) * 10) + d3) - 48), 0), (11, 0, 0), (0, 2, 0), (0, p + 2, 0), (11, 0, 0), (11, 0, 0), (11, 0, 0), (11, 0, 0)]) (p2 := 30) rfl rfl rfl rfl rfl ?_
  refine q_iinc (z := 3) (loc2 := [(6, 2, 0), (6, 1, 0), (0, le, 0), (0, p, 0), (2, ((((((((0 + d1) - 48) * 10) + d2) - 48) * 10) + d3) - 48), 0), (11, 0, 0), (0, 3, 0), (0, p + 2, 0), (11, 0, 0), (11, 0, 0), (11, 0, 0), (11, 0, 0)]) (p2 := 31) rfl rfl (by decide) rfl rfl ?_
  refine q_iinc (z := p + 3) (loc2 := [(6, 2, 0), (6, 1, 0), (0, le, 0), (0, p, 0), (2, ((((((((0 + d1) - 48) * 10) + d2) - 48) * 10) + d3) - 48), 0), (11, 0, 0), (0, 3, 0), (0, p + 3, 0), (11, 0, 0), (11, 0, 0), (11, 0, 0), (11, 0, 0)]) (p2 := 32) rfl rfl (Nat.mod_eq_of_lt (by omega)) rfl rfl ?_
  refine q_goto rfl ?_
  refine q_load (v := (0, p + 3, 0)) (p2 := 7) rfl rfl rfl rfl ?_
  refine q_load (v := (0, le, 0)) (p2 := 8) rfl rfl rfl rfl ?_
  refine q_icmp_s (p2 := 9) rfl (by decide) (by omega) (by omega) rfl (fun hb => absurd hb (show ¬ (¬ (p + 3 < le)) by omega)) (fun _ => ?_)
  refine q_load (v := (6, 1, 0)) (p2 := 10) rfl rfl rfl rfl ?_
  refine q_load (v := (0, p + 3, 0)) (p2 := 11) rfl rfl rfl rfl ?_
  refine q_aldT (tag := 0) (v := d4) (p2 := 12) rfl hB (by omega) (by omega) hc3 rfl ?_
  refine q_callr (xs := [(0, d4, 0)]) (p2 := 13) rfl rfl rfl rfl (fun _ _ => rfl) rfl (zc_dg_isDigit (by omega)) (Nat.le_refl _) (Nat.le_refl _) rfl ?_
  refine q_if0_s (p2 := 14) rfl (by decide) (by omega) rfl (fun hb => absurd hb (show ¬ (1 = 0) by omega)) (fun _ => ?_)
  refine q_load (v := (0, 3, 0)) (p2 := 15) rfl rfl rfl rfl ?_
  refine q_const (p2 := 16) rfl rfl ?_
  refine q_icmp_s (p2 := 17) rfl (by decide) (by omega) (by omega) rfl (fun hb => absurd hb (show ¬ (¬ (3 < 9)) by omega)) (fun _ => ?_)
  refine q_load (v := (2, ((((((((0 + d1) - 48) * 10) + d2) - 48) * 10) + d3) - 48), 0)) (p2 := 18) rfl rfl rfl rfl ?_
  refine q_const (p2 := 19) rfl rfl ?_
  refine q_lmulz (z := (((((((((0 + d1) - 48) * 10) + d2) - 48) * 10) + d3) - 48) * 10)) (p2 := 20) rfl (by omega) (by omega) rfl ?_
  refine q_load (v := (6, 1, 0)) (p2 := 21) rfl rfl rfl rfl ?_
  refine q_load (v := (0, p + 3, 0)) (p2 := 22) rfl rfl rfl rfl ?_
  refine q_aldT (tag := 0) (v := d4) (p2 := 23) rfl hB (by omega) (by omega) hc3 rfl ?_
  refine q_i2l (p2 := 24) rfl (by omega) rfl ?_
  refine q_laddz (z := ((((((((((0 + d1) - 48) * 10) + d2) - 48) * 10) + d3) - 48) * 10) + d4)) (p2 := 25) rfl (by omega) (by omega) rfl ?_
  refine q_const (p2 := 26) rfl rfl ?_
  refine q_lsubz (z := (((((((((((0 + d1) - 48) * 10) + d2) - 48) * 10) + d3) - 48) * 10) + d4) - 48)) (p2 := 27) rfl (by omega) (by omega) rfl ?_
  refine q_goto rfl ?_
  refine q_store2 (loc2 := [(6, 2, 0), (6, 1, 0), (0, le, 0), (0, p, 0), (2, (((((((((((0 + d1) - 48) * 10) + d2) - 48) * 10) + d3) - 48) * 10) + d4) - 48), 0), (11, 0, 0), (0, 3, 0), (0, p + 3, 0), (11, 0, 0), (11, 0, 0), (11, 0, 0), (11, 0, 0)]) (p2 := 30) rfl rfl rfl rfl rfl ?_
  refine q_iinc (z := 4) (loc2 := [(6, 2, 0), (6, 1, 0), (0, le, 0), (0, p, 0), (2, (((((((((((0 + d1) - 48) * 10) + d2) - 48) * 10) + d3) - 48) * 10) + d4) - 48), 0), (11, 0, 0), (0, 4, 0), (0, p + 3, 0), (11, 0, 0), (11, 0, 0), (11, 0, 0), (11, 0, 0)]) (p2 := 31) rfl rfl (by decide) rfl rfl ?_
  refine q_iinc (z := p + 4) (loc2 := [(6, 2, 0), (6, 1, 0), (0, le, 0), (0, p, 0), (2, (((((((((((0 + d1) - 48) * 10) + d2) - 48) * 10) + d3) - 48) * 10) + d4) - 48), 0), (11, 0, 0), (0, 4, 0), (0, p + 4, 0), (11, 0, 0), (11, 0, 0), (11, 0, 0), (11, 0, 0)]) (p2 := 32) rfl rfl (Nat.mod_eq_of_lt (by omega)) rfl rfl ?_
  refine q_goto rfl ?_
  refine q_load (v := (0, p + 4, 0)) (p2 := 7) rfl rfl rfl rfl ?_
  refine q_load (v := (0, le, 0)) (p2 := 8) rfl rfl rfl rfl ?_
  refine q_icmp_s (p2 := 9) rfl (by decide) (by omega) (by omega) rfl (fun _ => ?_) (fun hb => absurd (show ¬ (p + 4 < le) by omega) hb)
  refine q_const (p2 := 34) rfl rfl ?_
  refine q_store (loc2 := [(6, 2, 0), (6, 1, 0), (0, le, 0), (0, p, 0), (2, (((((((((((0 + d1) - 48) * 10) + d2) - 48) * 10) + d3) - 48) * 10) + d4) - 48), 0), (11, 0, 0), (0, 4, 0), (0, 0, 0), (11, 0, 0), (11, 0, 0), (11, 0, 0), (11, 0, 0)]) (p2 := 35) rfl rfl rfl rfl rfl ?_
  refine q_const (p2 := 36) rfl rfl ?_
  refine q_store2 (loc2 := [(6, 2, 0), (6, 1, 0), (0, le, 0), (0, p, 0), (2, (((((((((((0 + d1) - 48) * 10) + d2) - 48) * 10) + d3) - 48) * 10) + d4) - 48), 0), (11, 0, 0), (0, 4, 0), (0, 0, 0), (2, 1, 0), (11, 0, 0), (11, 0, 0), (11, 0, 0)]) (p2 := 37) rfl rfl rfl rfl rfl ?_
  refine q_load (v := (0, p, 0)) (p2 := 38) rfl rfl rfl rfl ?_
  refine q_load (v := (0, 4, 0)) (p2 := 39) rfl rfl rfl rfl ?_
  refine q_iaddz (z := p + 4) (p2 := 40) rfl (by omega) (by omega) rfl ?_
  refine q_load (v := (0, le, 0)) (p2 := 41) rfl rfl rfl rfl ?_
  refine q_icmp_s (p2 := 42) rfl (by decide) (by omega) (by omega) rfl (fun _ => ?_) (fun hb => absurd (show ¬ (p + 4 < le) by omega) hb)
  refine q_const (p2 := 52) rfl rfl ?_
  refine q_store (loc2 := [(6, 2, 0), (6, 1, 0), (0, le, 0), (0, p, 0), (2, (((((((((((0 + d1) - 48) * 10) + d2) - 48) * 10) + d3) - 48) * 10) + d4) - 48), 0), (11, 0, 0), (0, 4, 0), (0, 0, 0), (2, 1, 0), (11, 0, 0), (0, 0, 0), (11, 0, 0)]) (p2 := 53) rfl rfl rfl rfl rfl ?_
  refine q_load (v := (0, p, 0)) (p2 := 54) rfl rfl rfl rfl ?_
  refine q_load (v := (0, 4, 0)) (p2 := 55) rfl rfl rfl rfl ?_
  refine q_iaddz (z := p + 4) (p2 := 56) rfl (by omega) (by omega) rfl ?_
  refine q_const (p2 := 57) rfl rfl ?_
  refine q_iaddz (z := p + 5) (p2 := 58) rfl (by omega) (by omega) rfl ?_
  refine q_store (loc2 := [(6, 2, 0), (6, 1, 0), (0, le, 0), (0, p, 0), (2, (((((((((((0 + d1) - 48) * 10) + d2) - 48) * 10) + d3) - 48) * 10) + d4) - 48), 0), (11, 0, 0), (0, 4, 0), (0, 0, 0), (2, 1, 0), (11, 0, 0), (0, 0, 0), (0, p + 5, 0)]) (p2 := 59) rfl rfl rfl rfl rfl ?_
  refine q_load (v := (0, 0, 0)) (p2 := 60) rfl rfl rfl rfl ?_
  refine q_if0_s (p2 := 61) rfl (by decide) (by omega) rfl (fun _ => ?_) (fun hb => absurd (show 0 = 0 by omega) hb)
  refine q_load (v := (0, 4, 0)) (p2 := 98) rfl rfl rfl rfl ?_
  refine q_load (v := (0, 0, 0)) (p2 := 99) rfl rfl rfl rfl ?_
  refine q_if0_s (p2 := 100) rfl (by decide) (by omega) rfl (fun _ => ?_) (fun hb => absurd (show ¬ (0 < 0) by omega) hb)
  refine q_const (p2 := 103) rfl rfl ?_
  refine q_icmp_s (p2 := 104) rfl (by decide) (by omega) (by omega) rfl (fun hb => absurd hb (show ¬ (9 < 4) by omega)) (fun _ => ?_)
  refine q_load (v := (0, 0, 0)) (p2 := 105) rfl rfl rfl rfl ?_
  refine q_const (p2 := 106) rfl rfl ?_
  refine q_icmp_s (p2 := 107) rfl (by decide) (by omega) (by omega) rfl (fun _ => ?_) (fun hb => absurd (show ¬ (6 < 0) by omega) hb)
  refine q_load (v := (6, 2, 0)) (p2 := 110) rfl rfl rfl rfl ?_
  refine q_load (v := (0, 0, 0)) (p2 := 111) rfl rfl rfl rfl ?_
  refine q_if0_s (p2 := 112) rfl (by decide) (by omega) rfl (fun _ => ?_) (fun hb => absurd (show ¬ (0 < 0) by omega) hb)
  refine q_const (p2 := 115) rfl rfl ?_
  refine q_load (v := (0, p, 0)) (p2 := 116) rfl rfl rfl rfl ?_
  refine q_load (v := (0, 0, 0)) (p2 := 117) rfl rfl rfl rfl ?_
  refine q_if0_s (p2 := 118) rfl (by decide) (by omega) rfl (fun _ => ?_) (fun hb => absurd (show ¬ (0 < 0) by omega) hb)
  refine q_load (v := (2, (((((((((((0 + d1) - 48) * 10) + d2) - 48) * 10) + d3) - 48) * 10) + d4) - 48), 0)) (p2 := 123) rfl rfl rfl rfl ?_
  refine q_callvE (xs := [(2, (((((((((((0 + d1) - 48) * 10) + d2) - 48) * 10) + d3) - 48) * 10) + d4) - 48), 0), (0, p, 0), (0, 2, 0), (6, 2, 0)]) (p2 := 124) rfl rfl rfl rfl (x_rcv_s 2 hT.1) rfl (zc_t_add hT (by omega)) (Nat.le_refl _) (Nat.le_refl _) rfl (fun φ1 hR1 => ?_)
  obtain ⟨hs1_0, fr1⟩ := hR1
  refine q_load (v := (0, 0, 0)) (p2 := 125) rfl rfl rfl rfl ?_
  refine q_if0_s (p2 := 126) rfl (by decide) (by omega) rfl (fun _ => ?_) (fun hb => absurd (show ¬ (0 < 0) by omega) hb)
  refine q_load (v := (0, 4, 0)) (p2 := 133) rfl rfl rfl rfl ?_
  exact q_retv (v := (0, 4, 0)) rfl rfl (⟨rfl, rfl, rfl, rfl, hs1_0, fun j hj0 hj1 hj2 hj3 => (fr1 j (by omega) (by omega) (by omega) (by omega))⟩)
theorem zc_scn_4e {d n sl : Nat} {φ : FH} {tot : Nat} {at_ : Nat} {cur : Nat} {pl : Nat} {va : Nat} {fa : Nat} {fp : Nat} {sf : Nat} {sp : Nat} {no : Nat} {op : Nat} {K : Nat → Nat} {P : Nat → Nat} {V : Nat → Nat} {p : Nat} {le : Nat} {d1 : Nat} {d2 : Nat} {d3 : Nat} {d4 : Nat} {tp : Nat → Nat} (hT : zq_T φ tot at_ cur pl va fa fp sf sp no op K P V) (hB : zq_tp φ tp) (hc0 : tp p = d1) (hc1 : tp (p + 1) = d2) (hc2 : tp (p + 2) = d3) (hc3 : tp (p + 3) = d4) (hc4 : 48 ≤ d1 ∧ d1 ≤ 57 ∧ 48 ≤ d2 ∧ d2 ≤ 57 ∧ 48 ≤ d3 ∧ d3 ≤ 57 ∧ 48 ≤ d4 ∧ d4 ≤ 57) (hc5 : le = p + 4 ∧ le ≤ 3000) (hc6 : tot < 3002) : x_f x_P (d + 3) 88 [(6, 2, 0), (6, 1, 0), (0, le, 0), (0, p, 0), (11, 0, 0), (11, 0, 0), (11, 0, 0)] φ n sl (x_rR (0, 4, 0) n sl (fun φ2 => zq_T φ2 (tot + 1) at_ cur pl va fa fp sf sp no op (x_s K tot 2) (x_s P tot p) (x_s V tot ((((((((((0 + d1) - 48) * 10) + d2) - 48) * 10) + d3) - 48) * 10) + d4 - 48)) ∧ ∀ j, j ≠ 2 → j ≠ 4 → j ≠ 5 → j ≠ 6 → φ2 j = φ j)) := by
  refine x_f_of rfl ?_
  refine q_load (v := (6, 1, 0)) (p2 := 1) rfl rfl rfl rfl ?_
  refine q_load (v := (0, p, 0)) (p2 := 2) rfl rfl rfl rfl ?_
  refine q_aldT (tag := 0) (v := d1) (p2 := 3) rfl hB (by omega) (by omega) hc0 rfl ?_
  refine q_callr (xs := [(0, d1, 0)]) (p2 := 4) rfl rfl rfl rfl (fun _ _ => rfl) rfl (zc_dg_isLetter (by omega)) (Nat.le_refl _) (Nat.le_refl _) rfl ?_
  refine q_if0_s (p2 := 5) rfl (by decide) (by omega) rfl (fun _ => ?_) (fun hb => absurd (show 0 = 0 by omega) hb)
  refine q_load (v := (6, 1, 0)) (p2 := 12) rfl rfl rfl rfl ?_
  refine q_load (v := (0, p, 0)) (p2 := 13) rfl rfl rfl rfl ?_
  refine q_aldT (tag := 0) (v := d1) (p2 := 14) rfl hB (by omega) (by omega) hc0 rfl ?_
  refine q_callr (xs := [(0, d1, 0)]) (p2 := 15) rfl rfl rfl rfl (fun _ _ => rfl) rfl (zc_dg_isDigit (by omega)) (Nat.le_refl _) (Nat.le_refl _) rfl ?_
  refine q_if0_s (p2 := 16) rfl (by decide) (by omega) rfl (fun hb => absurd hb (show ¬ (1 = 0) by omega)) (fun _ => ?_)
  refine q_load (v := (6, 2, 0)) (p2 := 17) rfl rfl rfl rfl ?_
  refine q_load (v := (6, 1, 0)) (p2 := 18) rfl rfl rfl rfl ?_
  refine q_load (v := (0, le, 0)) (p2 := 19) rfl rfl rfl rfl ?_
  refine q_load (v := (0, p, 0)) (p2 := 20) rfl rfl rfl rfl ?_
  refine q_callrE (xs := [(0, p, 0), (0, le, 0), (6, 1, 0), (6, 2, 0)]) (p2 := 21) rfl rfl rfl rfl (x_rcv_s 2 hT.1) rfl (zc_sn_4e hT hB hc0 hc1 hc2 hc3 (by omega) (by omega) (by omega)) (Nat.le_refl _) (Nat.le_refl _) rfl (fun φ1 hR1 => ?_)
  obtain ⟨hs1_0, fr1⟩ := hR1
  exact q_retv (v := (0, 4, 0)) rfl rfl (⟨rfl, rfl, rfl, rfl, hs1_0, fun j hj0 hj1 hj2 hj3 => (fr1 j (by omega) (by omega) (by omega) (by omega))⟩)
theorem zc_sn_1_44 {d n sl : Nat} {φ : FH} {tot : Nat} {at_ : Nat} {cur : Nat} {pl : Nat} {va : Nat} {fa : Nat} {fp : Nat} {sf : Nat} {sp : Nat} {no : Nat} {op : Nat} {K : Nat → Nat} {P : Nat → Nat} {V : Nat → Nat} {p : Nat} {le : Nat} {d1 : Nat} {tp : Nat → Nat} (hT : zq_T φ tot at_ cur pl va fa fp sf sp no op K P V) (hB : zq_tp φ tp) (hc0 : tp (p + 1) = 44) (hc1 : tp p = d1) (hc2 : 48 ≤ d1 ∧ d1 ≤ 57) (hc3 : p + 1 < le ∧ le ≤ 3000) (hc4 : tot < 3002) : x_f x_P (d + 2) 144 [(6, 2, 0), (6, 1, 0), (0, le, 0), (0, p, 0), (11, 0, 0), (11, 0, 0), (11, 0, 0), (11, 0, 0), (11, 0, 0), (11, 0, 0), (11, 0, 0), (11, 0, 0)] φ n sl (x_rR (0, 1, 0) n sl (fun φ2 => zq_T φ2 (tot + 1) at_ cur pl va fa fp sf sp no op (x_s K tot 2) (x_s P tot p) (x_s V tot (0 + d1 - 48)) ∧ ∀ j, j ≠ 2 → j ≠ 4 → j ≠ 5 → j ≠ 6 → φ2 j = φ j)) := by
  refine x_f_of rfl ?_
  refine q_const (p2 := 1) rfl rfl ?_
  refine q_store2 (loc2 := [(6, 2, 0), (6, 1, 0), (0, le, 0), (0, p, 0), (2, 0, 0), (11, 0, 0), (11, 0, 0), (11, 0, 0), (11, 0, 0), (11, 0, 0), (11, 0, 0), (11, 0, 0)]) (p2 := 2) rfl rfl rfl rfl rfl ?_
  refine q_const (p2 := 3) rfl rfl ?_
  refine q_store (loc2 := [(6, 2, 0), (6, 1, 0), (0, le, 0), (0, p, 0), (2, 0, 0), (11, 0, 0), (0, 0, 0), (11, 0, 0), (11, 0, 0), (11, 0, 0), (11, 0, 0), (11, 0, 0)]) (p2 := 4) rfl rfl rfl rfl rfl ?_
  refine q_load (v := (0, p, 0)) (p2 := 5) rfl rfl rfl rfl ?_
  refine q_store (loc2 := [(6, 2, 0), (6, 1, 0), (0, le, 0), (0, p, 0), (2, 0, 0), (11, 0, 0), (0, 0, 0), (0, p, 0), (11, 0, 0), (11, 0, 0), (11, 0, 0), (11, 0, 0)]) (p2 := 6) rfl rfl rfl rfl rfl ?_
  refine q_load (v := (0, p, 0)) (p2 := 7) rfl rfl rfl rfl ?_
  refine q_load (v := (0, le, 0)) (p2 := 8) rfl rfl rfl rfl ?_
  refine q_icmp_s (p2 := 9) rfl (by decide) (by omega) (by omega) rfl (fun hb => absurd hb (show ¬ (¬ (p < le)) by omega)) (fun _ => ?_)
  refine q_load (v := (6, 1, 0)) (p2 := 10) rfl rfl rfl rfl ?_
  refine q_load (v := (0, p, 0)) (p2 := 11) rfl rfl rfl rfl ?_
  refine q_aldT (tag := 0) (v := d1) (p2 := 12) rfl hB (by omega) (by omega) hc1 rfl ?_
  refine q_callr (xs := [(0, d1, 0)]) (p2 := 13) rfl rfl rfl rfl (fun _ _ => rfl) rfl (zc_dg_isDigit (by omega)) (Nat.le_refl _) (Nat.le_refl _) rfl ?_
  refine q_if0_s (p2 := 14) rfl (by decide) (by omega) rfl (fun hb => absurd hb (show ¬ (1 = 0) by omega)) (fun _ => ?_)
  refine q_load (v := (0, 0, 0)) (p2 := 15) rfl rfl rfl rfl ?_
  refine q_const (p2 := 16) rfl rfl ?_
  refine q_icmp_s (p2 := 17) rfl (by decide) (by omega) (by omega) rfl (fun hb => absurd hb (show ¬ (¬ (0 < 9)) by omega)) (fun _ => ?_)
  refine q_load (v := (2, 0, 0)) (p2 := 18) rfl rfl rfl rfl ?_
  refine q_const (p2 := 19) rfl rfl ?_
  refine q_lmulz (z := 0) (p2 := 20) rfl (by omega) (by omega) rfl ?_
  refine q_load (v := (6, 1, 0)) (p2 := 21) rfl rfl rfl rfl ?_
  refine q_load (v := (0, p, 0)) (p2 := 22) rfl rfl rfl rfl ?_
  refine q_aldT (tag := 0) (v := d1) (p2 := 23) rfl hB (by omega) (by omega) hc1 rfl ?_
  refine q_i2l (p2 := 24) rfl (by omega) rfl ?_
  refine q_laddz (z := (0 + d1)) (p2 := 25) rfl (by omega) (by omega) rfl ?_
  refine q_const (p2 := 26) rfl rfl ?_
  refine q_lsubz (z := ((0 + d1) - 48)) (p2 := 27) rfl (by omega) (by omega) rfl ?_
  refine q_goto rfl ?_
  refine q_store2 (loc2 := [(6, 2, 0), (6, 1, 0), (0, le, 0), (0, p, 0), (2, ((0 + d1) - 48), 0), (11, 0, 0), (0, 0, 0), (0, p, 0), (11, 0, 0), (11, 0, 0), (11, 0, 0), (11, 0, 0)]) (p2 := 30) rfl rfl rfl rfl rfl ?_
  refine q_iinc (z := 1) (loc2 := [(6, 2, 0), (6, 1, 0), (0, le, 0), (0, p, 0), (2, ((0 + d1) - 48), 0), (11, 0, 0), (0, 1, 0), (0, p, 0), (11, 0, 0), (11, 0, 0), (11, 0, 0), (11, 0, 0)]) (p2 := 31) rfl rfl (by decide) rfl rfl ?_
  refine q_iinc (z := p + 1) (loc2 := [(6, 2, 0), (6, 1, 0), (0, le, 0), (0, p, 0), (2, ((0 + d1) - 48), 0), (11, 0, 0), (0, 1, 0), (0, p + 1, 0), (11, 0, 0), (11, 0, 0), (11, 0, 0), (11, 0, 0)]) (p2 := 32) rfl rfl (Nat.mod_eq_of_lt (by omega)) rfl rfl ?_
  refine q_goto rfl ?_
  refine q_load (v := (0, p + 1, 0)) (p2 := 7) rfl rfl rfl rfl ?_
  refine q_load (v := (0, le, 0)) (p2 := 8) rfl rfl rfl rfl ?_
  refine q_icmp_s (p2 := 9) rfl (by decide) (by omega) (by omega) rfl (fun hb => absurd hb (show ¬ (¬ (p + 1 < le)) by omega)) (fun _ => ?_)
  refine q_load (v := (6, 1, 0)) (p2 := 10) rfl rfl rfl rfl ?_
  refine q_load (v := (0, p + 1, 0)) (p2 := 11) rfl rfl rfl rfl ?_
  refine q_aldT (tag := 0) (v := 44) (p2 := 12) rfl hB (by omega) (by omega) hc0 rfl ?_
  refine q_callr (xs := [(0, 44, 0)]) (p2 := 13) rfl rfl rfl rfl (fun _ _ => rfl) rfl (zc_a_143_44 ) (Nat.le_refl _) (Nat.le_refl _) rfl ?_
  refine q_if0_s (p2 := 14) rfl (by decide) (by omega) rfl (fun _ => ?_) (fun hb => absurd (show 0 = 0 by omega) hb)
  refine q_const (p2 := 34) rfl rfl ?_
  refine q_store (loc2 := [(6, 2, 0), (6, 1, 0), (0, le, 0), (0, p, 0), (2, ((0 + d1) - 48), 0), (11, 0, 0), (0, 1, 0), (0, 0, 0), (11, 0, 0), (11, 0, 0), (11, 0, 0), (11, 0, 0)]) (p2 := 35) rfl rfl rfl rfl rfl ?_
  refine q_const (p2 := 36) rfl rfl ?_
  refine q_store2 (loc2 := [(6, 2, 0), (6, 1, 0), (0, le, 0), (0, p, 0), (2, ((0 + d1) - 48), 0), (11, 0, 0), (0, 1, 0), (0, 0, 0), (2, 1, 0), (11, 0, 0), (11, 0, 0), (11, 0, 0)]) (p2 := 37) rfl rfl rfl rfl rfl ?_
  refine q_load (v := (0, p, 0)) (p2 := 38) rfl rfl rfl rfl ?_
  refine q_load (v := (0, 1, 0)) (p2 := 39) rfl rfl rfl rfl ?_
  refine q_iaddz (z := p + 1) (p2 := 40) rfl (by omega) (by omega) rfl ?_
  refine q_load (v := (0, le, 0)) (p2 := 41) rfl rfl rfl rfl ?_
  refine q_icmp_s (p2 := 42) rfl (by decide) (by omega) (by omega) rfl (fun hb => absurd hb (show ¬ (¬ (p + 1 < le)) by omega)) (fun _ => ?_)
  refine q_load (v := (6, 1, 0)) (p2 := 43) rfl rfl rfl rfl ?_
  refine q_load (v := (0, p, 0)) (p2 := 44) rfl rfl rfl rfl ?_
  refine q_load (v := (0, 1, 0)) (p2 := 45) rfl rfl rfl rfl ?_
  refine q_iaddz (z := p + 1) (p2 := 46) rfl (by omega) (by omega) rfl ?_
  refine q_aldT (tag := 0) (v := 44) (p2 := 47) rfl hB (by omega) (by omega) hc0 rfl ?_
  refine q_const (p2 := 48) rfl rfl ?_
  refine q_icmp_s (p2 := 49) rfl (by decide) (by omega) (by omega) rfl (fun _ => ?_) (fun hb => absurd (show ¬ (44 = 46) by omega) hb)
  refine q_const (p2 := 52) rfl rfl ?_
  refine q_store (loc2 := [(6, 2, 0), (6, 1, 0), (0, le, 0), (0, p, 0), (2, ((0 + d1) - 48), 0), (11, 0, 0), (0, 1, 0), (0, 0, 0), (2, 1, 0), (11, 0, 0), (0, 0, 0), (11, 0, 0)]) (p2 := 53) rfl rfl rfl rfl rfl ?_
  refine q_load (v := (0, p, 0)) (p2 := 54) rfl rfl rfl rfl ?_
  refine q_load (v := (0, 1, 0)) (p2 := 55) rfl rfl rfl rfl ?_
  refine q_iaddz (z := p + 1) (p2 := 56) rfl (by omega) (by omega) rfl ?_
  refine q_const (p2 := 57) rfl rfl ?_
  refine q_iaddz (z := p + 2) (p2 := 58) rfl (by omega) (by omega) rfl ?_
  refine q_store (loc2 := [(6, 2, 0), (6, 1, 0), (0, le, 0), (0, p, 0), (2, ((0 + d1) - 48), 0), (11, 0, 0), (0, 1, 0), (0, 0, 0), (2, 1, 0), (11, 0, 0), (0, 0, 0), (0, p + 2, 0)]) (p2 := 59) rfl rfl rfl rfl rfl ?_
  refine q_load (v := (0, 0, 0)) (p2 := 60) rfl rfl rfl rfl ?_
  refine q_if0_s (p2 := 61) rfl (by decide) (by omega) rfl (fun _ => ?_) (fun hb => absurd (show 0 = 0 by omega) hb)
  refine q_load (v := (0, 1, 0)) (p2 := 98) rfl rfl rfl rfl ?_
  refine q_load (v := (0, 0, 0)) (p2 := 99) rfl rfl rfl rfl ?_
  refine q_if0_s (p2 := 100) rfl (by decide) (by omega) rfl (fun _ => ?_) (fun hb => absurd (show ¬ (0 < 0) by omega) hb)
  refine q_const (p2 := 103) rfl rfl ?_
  refine q_icmp_s (p2 := 104) rfl (by decide) (by omega) (by omega) rfl (fun hb => absurd hb (show ¬ (9 < 1) by omega)) (fun _ => ?_)
  refine q_load (v := (0, 0, 0)) (p2 := 105) rfl rfl rfl rfl ?_
  refine q_const (p2 := 106) rfl rfl ?_
  refine q_icmp_s (p2 := 107) rfl (by decide) (by omega) (by omega) rfl (fun _ => ?_) (fun hb => absurd (show ¬ (6 < 0) by omega) hb)
  refine q_load (v := (6, 2, 0)) (p2 := 110) rfl rfl rfl rfl ?_
  refine q_load (v := (0, 0, 0)) (p2 := 111) rfl rfl rfl rfl ?_
  refine q_if0_s (p2 := 112) rfl (by decide) (by omega) rfl (fun _ => ?_) (fun hb => absurd (show ¬ (0 < 0) by omega) hb)
  refine q_const (p2 := 115) rfl rfl ?_
  refine q_load (v := (0, p, 0)) (p2 := 116) rfl rfl rfl rfl ?_
  refine q_load (v := (0, 0, 0)) (p2 := 117) rfl rfl rfl rfl ?_
  refine q_if0_s (p2 := 118) rfl (by decide) (by omega) rfl (fun _ => ?_) (fun hb => absurd (show ¬ (0 < 0) by omega) hb)
  refine q_load (v := (2, ((0 + d1) - 48), 0)) (p2 := 123) rfl rfl rfl rfl ?_
  refine q_callvE (xs := [(2, ((0 + d1) - 48), 0), (0, p, 0), (0, 2, 0), (6, 2, 0)]) (p2 := 124) rfl rfl rfl rfl (x_rcv_s 2 hT.1) rfl (zc_t_add hT (by omega)) (Nat.le_refl _) (Nat.le_refl _) rfl (fun φ1 hR1 => ?_)
  obtain ⟨hs1_0, fr1⟩ := hR1
  refine q_load (v := (0, 0, 0)) (p2 := 125) rfl rfl rfl rfl ?_
  refine q_if0_s (p2 := 126) rfl (by decide) (by omega) rfl (fun _ => ?_) (fun hb => absurd (show ¬ (0 < 0) by omega) hb)
  refine q_load (v := (0, 1, 0)) (p2 := 133) rfl rfl rfl rfl ?_
  exact q_retv (v := (0, 1, 0)) rfl rfl (⟨rfl, rfl, rfl, rfl, hs1_0, fun j hj0 hj1 hj2 hj3 => (fr1 j (by omega) (by omega) (by omega) (by omega))⟩)
theorem zc_scn_1_44 {d n sl : Nat} {φ : FH} {tot : Nat} {at_ : Nat} {cur : Nat} {pl : Nat} {va : Nat} {fa : Nat} {fp : Nat} {sf : Nat} {sp : Nat} {no : Nat} {op : Nat} {K : Nat → Nat} {P : Nat → Nat} {V : Nat → Nat} {p : Nat} {le : Nat} {d1 : Nat} {tp : Nat → Nat} (hT : zq_T φ tot at_ cur pl va fa fp sf sp no op K P V) (hB : zq_tp φ tp) (hc0 : tp (p + 1) = 44) (hc1 : tp p = d1) (hc2 : 48 ≤ d1 ∧ d1 ≤ 57) (hc3 : p + 1 < le ∧ le ≤ 3000) (hc4 : tot < 3002) : x_f x_P (d + 3) 88 [(6, 2, 0), (6, 1, 0), (0, le, 0), (0, p, 0), (11, 0, 0), (11, 0, 0), (11, 0, 0)] φ n sl (x_rR (0, 1, 0) n sl (fun φ2 => zq_T φ2 (tot + 1) at_ cur pl va fa fp sf sp no op (x_s K tot 2) (x_s P tot p) (x_s V tot (0 + d1 - 48)) ∧ ∀ j, j ≠ 2 → j ≠ 4 → j ≠ 5 → j ≠ 6 → φ2 j = φ j)) := by
  refine x_f_of rfl ?_
  refine q_load (v := (6, 1, 0)) (p2 := 1) rfl rfl rfl rfl ?_
  refine q_load (v := (0, p, 0)) (p2 := 2) rfl rfl rfl rfl ?_
  refine q_aldT (tag := 0) (v := d1) (p2 := 3) rfl hB (by omega) (by omega) hc1 rfl ?_
  refine q_callr (xs := [(0, d1, 0)]) (p2 := 4) rfl rfl rfl rfl (fun _ _ => rfl) rfl (zc_dg_isLetter (by omega)) (Nat.le_refl _) (Nat.le_refl _) rfl ?_
  refine q_if0_s (p2 := 5) rfl (by decide) (by omega) rfl (fun _ => ?_) (fun hb => absurd (show 0 = 0 by omega) hb)
  refine q_load (v := (6, 1, 0)) (p2 := 12) rfl rfl rfl rfl ?_
  refine q_load (v := (0, p, 0)) (p2 := 13) rfl rfl rfl rfl ?_
  refine q_aldT (tag := 0) (v := d1) (p2 := 14) rfl hB (by omega) (by omega) hc1 rfl ?_
  refine q_callr (xs := [(0, d1, 0)]) (p2 := 15) rfl rfl rfl rfl (fun _ _ => rfl) rfl (zc_dg_isDigit (by omega)) (Nat.le_refl _) (Nat.le_refl _) rfl ?_
  refine q_if0_s (p2 := 16) rfl (by decide) (by omega) rfl (fun hb => absurd hb (show ¬ (1 = 0) by omega)) (fun _ => ?_)
  refine q_load (v := (6, 2, 0)) (p2 := 17) rfl rfl rfl rfl ?_
  refine q_load (v := (6, 1, 0)) (p2 := 18) rfl rfl rfl rfl ?_
  refine q_load (v := (0, le, 0)) (p2 := 19) rfl rfl rfl rfl ?_
  refine q_load (v := (0, p, 0)) (p2 := 20) rfl rfl rfl rfl ?_
  refine q_callrE (xs := [(0, p, 0), (0, le, 0), (6, 1, 0), (6, 2, 0)]) (p2 := 21) rfl rfl rfl rfl (x_rcv_s 2 hT.1) rfl (zc_sn_1_44 hT hB hc0 hc1 (by omega) (by omega) (by omega)) (Nat.le_refl _) (Nat.le_refl _) rfl (fun φ1 hR1 => ?_)
  obtain ⟨hs1_0, fr1⟩ := hR1
  exact q_retv (v := (0, 1, 0)) rfl rfl (⟨rfl, rfl, rfl, rfl, hs1_0, fun j hj0 hj1 hj2 hj3 => (fr1 j (by omega) (by omega) (by omega) (by omega))⟩)
theorem zc_sn_1_93 {d n sl : Nat} {φ : FH} {tot : Nat} {at_ : Nat} {cur : Nat} {pl : Nat} {va : Nat} {fa : Nat} {fp : Nat} {sf : Nat} {sp : Nat} {no : Nat} {op : Nat} {K : Nat → Nat} {P : Nat → Nat} {V : Nat → Nat} {p : Nat} {le : Nat} {d1 : Nat} {tp : Nat → Nat} (hT : zq_T φ tot at_ cur pl va fa fp sf sp no op K P V) (hB : zq_tp φ tp) (hc0 : tp (p + 1) = 93) (hc1 : tp p = d1) (hc2 : 48 ≤ d1 ∧ d1 ≤ 57) (hc3 : p + 1 < le ∧ le ≤ 3000) (hc4 : tot < 3002) : x_f x_P (d + 2) 144 [(6, 2, 0), (6, 1, 0), (0, le, 0), (0, p, 0), (11, 0, 0), (11, 0, 0), (11, 0, 0), (11, 0, 0), (11, 0, 0), (11, 0, 0), (11, 0, 0), (11, 0, 0)] φ n sl (x_rR (0, 1, 0) n sl (fun φ2 => zq_T φ2 (tot + 1) at_ cur pl va fa fp sf sp no op (x_s K tot 2) (x_s P tot p) (x_s V tot (0 + d1 - 48)) ∧ ∀ j, j ≠ 2 → j ≠ 4 → j ≠ 5 → j ≠ 6 → φ2 j = φ j)) := by
  refine x_f_of rfl ?_
  refine q_const (p2 := 1) rfl rfl ?_
  refine q_store2 (loc2 := [(6, 2, 0), (6, 1, 0), (0, le, 0), (0, p, 0), (2, 0, 0), (11, 0, 0), (11, 0, 0), (11, 0, 0), (11, 0, 0), (11, 0, 0), (11, 0, 0), (11, 0, 0)]) (p2 := 2) rfl rfl rfl rfl rfl ?_
  refine q_const (p2 := 3) rfl rfl ?_
  refine q_store (loc2 := [(6, 2, 0), (6, 1, 0), (0, le, 0), (0, p, 0), (2, 0, 0), (11, 0, 0), (0, 0, 0), (11, 0, 0), (11, 0, 0), (11, 0, 0), (11, 0, 0), (11, 0, 0)]) (p2 := 4) rfl rfl rfl rfl rfl ?_
  refine q_load (v := (0, p, 0)) (p2 := 5) rfl rfl rfl rfl ?_
  refine q_store (loc2 := [(6, 2, 0), (6, 1, 0), (0, le, 0), (0, p, 0), (2, 0, 0), (11, 0, 0), (0, 0, 0), (0, p, 0), (11, 0, 0), (11, 0, 0), (11, 0, 0), (11, 0, 0)]) (p2 := 6) rfl rfl rfl rfl rfl ?_
  refine q_load (v := (0, p, 0)) (p2 := 7) rfl rfl rfl rfl ?_
  refine q_load (v := (0, le, 0)) (p2 := 8) rfl rfl rfl rfl ?_
  refine q_icmp_s (p2 := 9) rfl (by decide) (by omega) (by omega) rfl (fun hb => absurd hb (show ¬ (¬ (p < le)) by omega)) (fun _ => ?_)
  refine q_load (v := (6, 1, 0)) (p2 := 10) rfl rfl rfl rfl ?_
  refine q_load (v := (0, p, 0)) (p2 := 11) rfl rfl rfl rfl ?_
  refine q_aldT (tag := 0) (v := d1) (p2 := 12) rfl hB (by omega) (by omega) hc1 rfl ?_
  refine q_callr (xs := [(0, d1, 0)]) (p2 := 13) rfl rfl rfl rfl (fun _ _ => rfl) rfl (zc_dg_isDigit (by omega)) (Nat.le_refl _) (Nat.le_refl _) rfl ?_
  refine q_if0_s (p2 := 14) rfl (by decide) (by omega) rfl (fun hb => absurd hb (show ¬ (1 = 0) by omega)) (fun _ => ?_)
  refine q_load (v := (0, 0, 0)) (p2 := 15) rfl rfl rfl rfl ?_
  refine q_const (p2 := 16) rfl rfl ?_
  refine q_icmp_s (p2 := 17) rfl (by decide) (by omega) (by omega) rfl (fun hb => absurd hb (show ¬ (¬ (0 < 9)) by omega)) (fun _ => ?_)
  refine q_load (v := (2, 0, 0)) (p2 := 18) rfl rfl rfl rfl ?_
  refine q_const (p2 := 19) rfl rfl ?_
  refine q_lmulz (z := 0) (p2 := 20) rfl (by omega) (by omega) rfl ?_
  refine q_load (v := (6, 1, 0)) (p2 := 21) rfl rfl rfl rfl ?_
  refine q_load (v := (0, p, 0)) (p2 := 22) rfl rfl rfl rfl ?_
  refine q_aldT (tag := 0) (v := d1) (p2 := 23) rfl hB (by omega) (by omega) hc1 rfl ?_
  refine q_i2l (p2 := 24) rfl (by omega) rfl ?_
  refine q_laddz (z := (0 + d1)) (p2 := 25) rfl (by omega) (by omega) rfl ?_
  refine q_const (p2 := 26) rfl rfl ?_
  refine q_lsubz (z := ((0 + d1) - 48)) (p2 := 27) rfl (by omega) (by omega) rfl ?_
  refine q_goto rfl ?_
  refine q_store2 (loc2 := [(6, 2, 0), (6, 1, 0), (0, le, 0), (0, p, 0), (2, ((0 + d1) - 48), 0), (11, 0, 0), (0, 0, 0), (0, p, 0), (11, 0, 0), (11, 0, 0), (11, 0, 0), (11, 0, 0)]) (p2 := 30) rfl rfl rfl rfl rfl ?_
  refine q_iinc (z := 1) (loc2 := [(6, 2, 0), (6, 1, 0), (0, le, 0), (0, p, 0), (2, ((0 + d1) - 48), 0), (11, 0, 0), (0, 1, 0), (0, p, 0), (11, 0, 0), (11, 0, 0), (11, 0, 0), (11, 0, 0)]) (p2 := 31) rfl rfl (by decide) rfl rfl ?_
  refine q_iinc (z := p + 1) (loc2 := [(6, 2, 0), (6, 1, 0), (0, le, 0), (0, p, 0), (2, ((0 + d1) - 48), 0), (11, 0, 0), (0, 1, 0), (0, p + 1, 0), (11, 0, 0), (11, 0, 0), (11, 0, 0), (11, 0, 0)]) (p2 := 32) rfl rfl (Nat.mod_eq_of_lt (by omega)) rfl rfl ?_
  refine q_goto rfl ?_
  refine q_load (v := (0, p + 1, 0)) (p2 := 7) rfl rfl rfl rfl ?_
  refine q_load (v := (0, le, 0)) (p2 := 8) rfl rfl rfl rfl ?_
  refine q_icmp_s (p2 := 9) rfl (by decide) (by omega) (by omega) rfl (fun hb => absurd hb (show ¬ (¬ (p + 1 < le)) by omega)) (fun _ => ?_)
  refine q_load (v := (6, 1, 0)) (p2 := 10) rfl rfl rfl rfl ?_
  refine q_load (v := (0, p + 1, 0)) (p2 := 11) rfl rfl rfl rfl ?_
  refine q_aldT (tag := 0) (v := 93) (p2 := 12) rfl hB (by omega) (by omega) hc0 rfl ?_
  refine q_callr (xs := [(0, 93, 0)]) (p2 := 13) rfl rfl rfl rfl (fun _ _ => rfl) rfl (zc_a_143_93 ) (Nat.le_refl _) (Nat.le_refl _) rfl ?_
  refine q_if0_s (p2 := 14) rfl (by decide) (by omega) rfl (fun _ => ?_) (fun hb => absurd (show 0 = 0 by omega) hb)
  refine q_const (p2 := 34) rfl rfl ?_
  refine q_store (loc2 := [(6, 2, 0), (6, 1, 0), (0, le, 0), (0, p, 0), (2, ((0 + d1) - 48), 0), (11, 0, 0), (0, 1, 0), (0, 0, 0), (11, 0, 0), (11, 0, 0), (11, 0, 0), (11, 0, 0)]) (p2 := 35) rfl rfl rfl rfl rfl ?_
  refine q_const (p2 := 36) rfl rfl ?_
  refine q_store2 (loc2 := [(6, 2, 0), (6, 1, 0), (0, le, 0), (0, p, 0), (2, ((0 + d1) - 48), 0), (11, 0, 0), (0, 1, 0), (0, 0, 0), (2, 1, 0), (11, 0, 0), (11, 0, 0), (11, 0, 0)]) (p2 := 37) rfl rfl rfl rfl rfl ?_
  refine q_load (v := (0, p, 0)) (p2 := 38) rfl rfl rfl rfl ?_
  refine q_load (v := (0, 1, 0)) (p2 := 39) rfl rfl rfl rfl ?_
  refine q_iaddz (z := p + 1) (p2 := 40) rfl (by omega) (by omega) rfl ?_
  refine q_load (v := (0, le, 0)) (p2 := 41) rfl rfl rfl rfl ?_
  refine q_icmp_s (p2 := 42) rfl (by decide) (by omega) (by omega) rfl (fun hb => absurd hb (show ¬ (¬ (p + 1 < le)) by omega)) (fun _ => ?_)
  refine q_load (v := (6, 1, 0)) (p2 := 43) rfl rfl rfl rfl ?_
  refine q_load (v := (0, p, 0)) (p2 := 44) rfl rfl rfl rfl ?_
  refine q_load (v := (0, 1, 0)) (p2 := 45) rfl rfl rfl rfl ?_
  refine q_iaddz (z := p + 1) (p2 := 46) rfl (by omega) (by omega) rfl ?_
  refine q_aldT (tag := 0) (v := 93) (p2 := 47) rfl hB (by omega) (by omega) hc0 rfl ?_
  refine q_const (p2 := 48) rfl rfl ?_
  refine q_icmp_s (p2 := 49) rfl (by decide) (by omega) (by omega) rfl (fun _ => ?_) (fun hb => absurd (show ¬ (93 = 46) by omega) hb)
  refine q_const (p2 := 52) rfl rfl ?_
  refine q_store (loc2 := [(6, 2, 0), (6, 1, 0), (0, le, 0), (0, p, 0), (2, ((0 + d1) - 48), 0), (11, 0, 0), (0, 1, 0), (0, 0, 0), (2, 1, 0), (11, 0, 0), (0, 0, 0), (11, 0, 0)]) (p2 := 53) rfl rfl rfl rfl rfl ?_
  refine q_load (v := (0, p, 0)) (p2 := 54) rfl rfl rfl rfl ?_
  refine q_load (v := (0, 1, 0)) (p2 := 55) rfl rfl rfl rfl ?_
  refine q_iaddz (z := p + 1) (p2 := 56) rfl (by omega) (by omega) rfl ?_
  refine q_const (p2 := 57) rfl rfl ?_
  refine q_iaddz (z := p + 2) (p2 := 58) rfl (by omega) (by omega) rfl ?_
  refine q_store (loc2 := [(6, 2, 0), (6, 1, 0), (0, le, 0), (0, p, 0), (2, ((0 + d1) - 48), 0), (11, 0, 0), (0, 1, 0), (0, 0, 0), (2, 1, 0), (11, 0, 0), (0, 0, 0), (0, p + 2, 0)]) (p2 := 59) rfl rfl rfl rfl rfl ?_
  refine q_load (v := (0, 0, 0)) (p2 := 60) rfl rfl rfl rfl ?_
  refine q_if0_s (p2 := 61) rfl (by decide) (by omega) rfl (fun _ => ?_) (fun hb => absurd (show 0 = 0 by omega) hb)
  refine q_load (v := (0, 1, 0)) (p2 := 98) rfl rfl rfl rfl ?_
  refine q_load (v := (0, 0, 0)) (p2 := 99) rfl rfl rfl rfl ?_
  refine q_if0_s (p2 := 100) rfl (by decide) (by omega) rfl (fun _ => ?_) (fun hb => absurd (show ¬ (0 < 0) by omega) hb)
  refine q_const (p2 := 103) rfl rfl ?_
  refine q_icmp_s (p2 := 104) rfl (by decide) (by omega) (by omega) rfl (fun hb => absurd hb (show ¬ (9 < 1) by omega)) (fun _ => ?_)
  refine q_load (v := (0, 0, 0)) (p2 := 105) rfl rfl rfl rfl ?_
  refine q_const (p2 := 106) rfl rfl ?_
  refine q_icmp_s (p2 := 107) rfl (by decide) (by omega) (by omega) rfl (fun _ => ?_) (fun hb => absurd (show ¬ (6 < 0) by omega) hb)
  refine q_load (v := (6, 2, 0)) (p2 := 110) rfl rfl rfl rfl ?_
  refine q_load (v := (0, 0, 0)) (p2 := 111) rfl rfl rfl rfl ?_
  refine q_if0_s (p2 := 112) rfl (by decide) (by omega) rfl (fun _ => ?_) (fun hb => absurd (show ¬ (0 < 0) by omega) hb)
  refine q_const (p2 := 115) rfl rfl ?_
  refine q_load (v := (0, p, 0)) (p2 := 116) rfl rfl rfl rfl ?_
  refine q_load (v := (0, 0, 0)) (p2 := 117) rfl rfl rfl rfl ?_
  refine q_if0_s (p2 := 118) rfl (by decide) (by omega) rfl (fun _ => ?_) (fun hb => absurd (show ¬ (0 < 0) by omega) hb)
  refine q_load (v := (2, ((0 + d1) - 48), 0)) (p2 := 123) rfl rfl rfl rfl ?_
  refine q_callvE (xs := [(2, ((0 + d1) - 48), 0), (0, p, 0), (0, 2, 0), (6, 2, 0)]) (p2 := 124) rfl rfl rfl rfl (x_rcv_s 2 hT.1) rfl (zc_t_add hT (by omega)) (Nat.le_refl _) (Nat.le_refl _) rfl (fun φ1 hR1 => ?_)
  obtain ⟨hs1_0, fr1⟩ := hR1
  refine q_load (v := (0, 0, 0)) (p2 := 125) rfl rfl rfl rfl ?_
  refine q_if0_s (p2 := 126) rfl (by decide) (by omega) rfl (fun _ => ?_) (fun hb => absurd (show ¬ (0 < 0) by omega) hb)
  refine q_load (v := (0, 1, 0)) (p2 := 133) rfl rfl rfl rfl ?_
  exact q_retv (v := (0, 1, 0)) rfl rfl (⟨rfl, rfl, rfl, rfl, hs1_0, fun j hj0 hj1 hj2 hj3 => (fr1 j (by omega) (by omega) (by omega) (by omega))⟩)
theorem zc_scn_1_93 {d n sl : Nat} {φ : FH} {tot : Nat} {at_ : Nat} {cur : Nat} {pl : Nat} {va : Nat} {fa : Nat} {fp : Nat} {sf : Nat} {sp : Nat} {no : Nat} {op : Nat} {K : Nat → Nat} {P : Nat → Nat} {V : Nat → Nat} {p : Nat} {le : Nat} {d1 : Nat} {tp : Nat → Nat} (hT : zq_T φ tot at_ cur pl va fa fp sf sp no op K P V) (hB : zq_tp φ tp) (hc0 : tp (p + 1) = 93) (hc1 : tp p = d1) (hc2 : 48 ≤ d1 ∧ d1 ≤ 57) (hc3 : p + 1 < le ∧ le ≤ 3000) (hc4 : tot < 3002) : x_f x_P (d + 3) 88 [(6, 2, 0), (6, 1, 0), (0, le, 0), (0, p, 0), (11, 0, 0), (11, 0, 0), (11, 0, 0)] φ n sl (x_rR (0, 1, 0) n sl (fun φ2 => zq_T φ2 (tot + 1) at_ cur pl va fa fp sf sp no op (x_s K tot 2) (x_s P tot p) (x_s V tot (0 + d1 - 48)) ∧ ∀ j, j ≠ 2 → j ≠ 4 → j ≠ 5 → j ≠ 6 → φ2 j = φ j)) := by
  refine x_f_of rfl ?_
  refine q_load (v := (6, 1, 0)) (p2 := 1) rfl rfl rfl rfl ?_
  refine q_load (v := (0, p, 0)) (p2 := 2) rfl rfl rfl rfl ?_
  refine q_aldT (tag := 0) (v := d1) (p2 := 3) rfl hB (by omega) (by omega) hc1 rfl ?_
  refine q_callr (xs := [(0, d1, 0)]) (p2 := 4) rfl rfl rfl rfl (fun _ _ => rfl) rfl (zc_dg_isLetter (by omega)) (Nat.le_refl _) (Nat.le_refl _) rfl ?_
  refine q_if0_s (p2 := 5) rfl (by decide) (by omega) rfl (fun _ => ?_) (fun hb => absurd (show 0 = 0 by omega) hb)
  refine q_load (v := (6, 1, 0)) (p2 := 12) rfl rfl rfl rfl ?_
  refine q_load (v := (0, p, 0)) (p2 := 13) rfl rfl rfl rfl ?_
  refine q_aldT (tag := 0) (v := d1) (p2 := 14) rfl hB (by omega) (by omega) hc1 rfl ?_
  refine q_callr (xs := [(0, d1, 0)]) (p2 := 15) rfl rfl rfl rfl (fun _ _ => rfl) rfl (zc_dg_isDigit (by omega)) (Nat.le_refl _) (Nat.le_refl _) rfl ?_
  refine q_if0_s (p2 := 16) rfl (by decide) (by omega) rfl (fun hb => absurd hb (show ¬ (1 = 0) by omega)) (fun _ => ?_)
  refine q_load (v := (6, 2, 0)) (p2 := 17) rfl rfl rfl rfl ?_
  refine q_load (v := (6, 1, 0)) (p2 := 18) rfl rfl rfl rfl ?_
  refine q_load (v := (0, le, 0)) (p2 := 19) rfl rfl rfl rfl ?_
  refine q_load (v := (0, p, 0)) (p2 := 20) rfl rfl rfl rfl ?_
  refine q_callrE (xs := [(0, p, 0), (0, le, 0), (6, 1, 0), (6, 2, 0)]) (p2 := 21) rfl rfl rfl rfl (x_rcv_s 2 hT.1) rfl (zc_sn_1_93 hT hB hc0 hc1 (by omega) (by omega) (by omega)) (Nat.le_refl _) (Nat.le_refl _) rfl (fun φ1 hR1 => ?_)
  obtain ⟨hs1_0, fr1⟩ := hR1
  exact q_retv (v := (0, 1, 0)) rfl rfl (⟨rfl, rfl, rfl, rfl, hs1_0, fun j hj0 hj1 hj2 hj3 => (fr1 j (by omega) (by omega) (by omega) (by omega))⟩)
theorem zc_sn_1_41 {d n sl : Nat} {φ : FH} {tot : Nat} {at_ : Nat} {cur : Nat} {pl : Nat} {va : Nat} {fa : Nat} {fp : Nat} {sf : Nat} {sp : Nat} {no : Nat} {op : Nat} {K : Nat → Nat} {P : Nat → Nat} {V : Nat → Nat} {p : Nat} {le : Nat} {d1 : Nat} {tp : Nat → Nat} (hT : zq_T φ tot at_ cur pl va fa fp sf sp no op K P V) (hB : zq_tp φ tp) (hc0 : tp (p + 1) = 41) (hc1 : tp p = d1) (hc2 : 48 ≤ d1 ∧ d1 ≤ 57) (hc3 : p + 1 < le ∧ le ≤ 3000) (hc4 : tot < 3002) : x_f x_P (d + 2) 144 [(6, 2, 0), (6, 1, 0), (0, le, 0), (0, p, 0), (11, 0, 0), (11, 0, 0), (11, 0, 0), (11, 0, 0), (11, 0, 0), (11, 0, 0), (11, 0, 0), (11, 0, 0)] φ n sl (x_rR (0, 1, 0) n sl (fun φ2 => zq_T φ2 (tot + 1) at_ cur pl va fa fp sf sp no op (x_s K tot 2) (x_s P tot p) (x_s V tot (0 + d1 - 48)) ∧ ∀ j, j ≠ 2 → j ≠ 4 → j ≠ 5 → j ≠ 6 → φ2 j = φ j)) := by
  refine x_f_of rfl ?_
  refine q_const (p2 := 1) rfl rfl ?_
  refine q_store2 (loc2 := [(6, 2, 0), (6, 1, 0), (0, le, 0), (0, p, 0), (2, 0, 0), (11, 0, 0), (11, 0, 0), (11, 0, 0), (11, 0, 0), (11, 0, 0), (11, 0, 0), (11, 0, 0)]) (p2 := 2) rfl rfl rfl rfl rfl ?_
  refine q_const (p2 := 3) rfl rfl ?_
  refine q_store (loc2 := [(6, 2, 0), (6, 1, 0), (0, le, 0), (0, p, 0), (2, 0, 0), (11, 0, 0), (0, 0, 0), (11, 0, 0), (11, 0, 0), (11, 0, 0), (11, 0, 0), (11, 0, 0)]) (p2 := 4) rfl rfl rfl rfl rfl ?_
  refine q_load (v := (0, p, 0)) (p2 := 5) rfl rfl rfl rfl ?_
  refine q_store (loc2 := [(6, 2, 0), (6, 1, 0), (0, le, 0), (0, p, 0), (2, 0, 0), (11, 0, 0), (0, 0, 0), (0, p, 0), (11, 0, 0), (11, 0, 0), (11, 0, 0), (11, 0, 0)]) (p2 := 6) rfl rfl rfl rfl rfl ?_
  refine q_load (v := (0, p, 0)) (p2 := 7) rfl rfl rfl rfl ?_
  refine q_load (v := (0, le, 0)) (p2 := 8) rfl rfl rfl rfl ?_
  refine q_icmp_s (p2 := 9) rfl (by decide) (by omega) (by omega) rfl (fun hb => absurd hb (show ¬ (¬ (p < le)) by omega)) (fun _ => ?_)
  refine q_load (v := (6, 1, 0)) (p2 := 10) rfl rfl rfl rfl ?_
  refine q_load (v := (0, p, 0)) (p2 := 11) rfl rfl rfl rfl ?_
  refine q_aldT (tag := 0) (v := d1) (p2 := 12) rfl hB (by omega) (by omega) hc1 rfl ?_
  refine q_callr (xs := [(0, d1, 0)]) (p2 := 13) rfl rfl rfl rfl (fun _ _ => rfl) rfl (zc_dg_isDigit (by omega)) (Nat.le_refl _) (Nat.le_refl _) rfl ?_
  refine q_if0_s (p2 := 14) rfl (by decide) (by omega) rfl (fun hb => absurd hb (show ¬ (1 = 0) by omega)) (fun _ => ?_)
  refine q_load (v := (0, 0, 0)) (p2 := 15) rfl rfl rfl rfl ?_
  refine q_const (p2 := 16) rfl rfl ?_
  refine q_icmp_s (p2 := 17) rfl (by decide) (by omega) (by omega) rfl (fun hb => absurd hb (show ¬ (¬ (0 < 9)) by omega)) (fun _ => ?_)
  refine q_load (v := (2, 0, 0)) (p2 := 18) rfl rfl rfl rfl ?_
  refine q_const (p2 := 19) rfl rfl ?_
  refine q_lmulz (z := 0) (p2 := 20) rfl (by omega) (by omega) rfl ?_
  refine q_load (v := (6, 1, 0)) (p2 := 21) rfl rfl rfl rfl ?_
  refine q_load (v := (0, p, 0)) (p2 := 22) rfl rfl rfl rfl ?_
  refine q_aldT (tag := 0) (v := d1) (p2 := 23) rfl hB (by omega) (by omega) hc1 rfl ?_
  refine q_i2l (p2 := 24) rfl (by omega) rfl ?_
  refine q_laddz (z := (0 + d1)) (p2 := 25) rfl (by omega) (by omega) rfl ?_
  refine q_const (p2 := 26) rfl rfl ?_
  refine q_lsubz (z := ((0 + d1) - 48)) (p2 := 27) rfl (by omega) (by omega) rfl ?_
  refine q_goto rfl ?_
  refine q_store2 (loc2 := [(6, 2, 0), (6, 1, 0), (0, le, 0), (0, p, 0), (2, ((0 + d1) - 48), 0), (11, 0, 0), (0, 0, 0), (0, p, 0), (11, 0, 0), (11, 0, 0), (11, 0, 0), (11, 0, 0)]) (p2 := 30) rfl rfl rfl rfl rfl ?_
  refine q_iinc (z := 1) (loc2 := [(6, 2, 0), (6, 1, 0), (0, le, 0), (0, p, 0), (2, ((0 + d1) - 48), 0), (11, 0, 0), (0, 1, 0), (0, p, 0), (11, 0, 0), (11, 0, 0), (11, 0, 0), (11, 0, 0)]) (p2 := 31) rfl rfl (by decide) rfl rfl ?_
  refine q_iinc (z := p + 1) (loc2 := [(6, 2, 0), (6, 1, 0), (0, le, 0), (0, p, 0), (2, ((0 + d1) - 48), 0), (11, 0, 0), (0, 1, 0), (0, p + 1, 0), (11, 0, 0), (11, 0, 0), (11, 0, 0), (11, 0, 0)]) (p2 := 32) rfl rfl (Nat.mod_eq_of_lt (by omega)) rfl rfl ?_
  refine q_goto rfl ?_
  refine q_load (v := (0, p + 1, 0)) (p2 := 7) rfl rfl rfl rfl ?_
  refine q_load (v := (0, le, 0)) (p2 := 8) rfl rfl rfl rfl ?_
  refine q_icmp_s (p2 := 9) rfl (by decide) (by omega) (by omega) rfl (fun hb => absurd hb (show ¬ (¬ (p + 1 < le)) by omega)) (fun _ => ?_)
  refine q_load (v := (6, 1, 0)) (p2 := 10) rfl rfl rfl rfl ?_
  refine q_load (v := (0, p + 1, 0)) (p2 := 11) rfl rfl rfl rfl ?_
  refine q_aldT (tag := 0) (v := 41) (p2 := 12) rfl hB (by omega) (by omega) hc0 rfl ?_
  refine q_callr (xs := [(0, 41, 0)]) (p2 := 13) rfl rfl rfl rfl (fun _ _ => rfl) rfl (zc_a_143_41 ) (Nat.le_refl _) (Nat.le_refl _) rfl ?_
  refine q_if0_s (p2 := 14) rfl (by decide) (by omega) rfl (fun _ => ?_) (fun hb => absurd (show 0 = 0 by omega) hb)
  refine q_const (p2 := 34) rfl rfl ?_
  refine q_store (loc2 := [(6, 2, 0), (6, 1, 0), (0, le, 0), (0, p, 0), (2, ((0 + d1) - 48), 0), (11, 0, 0), (0, 1, 0), (0, 0, 0), (11, 0, 0), (11, 0, 0), (11, 0, 0), (11, 0, 0)]) (p2 := 35) rfl rfl rfl rfl rfl ?_
  refine q_const (p2 := 36) rfl rfl ?_
  refine q_store2 (loc2 := [(6, 2, 0), (6, 1, 0), (0, le, 0), (0, p, 0), (2, ((0 + d1) - 48), 0), (11, 0, 0), (0, 1, 0), (0, 0, 0), (2, 1, 0), (11, 0, 0), (11, 0, 0), (11, 0, 0)]) (p2 := 37) rfl rfl rfl rfl rfl ?_
  refine q_load (v := (0, p, 0)) (p2 := 38) rfl rfl rfl rfl ?_
  refine q_load (v := (0, 1, 0)) (p2 := 39) rfl rfl rfl rfl ?_
  refine q_iaddz (z := p + 1) (p2 := 40) rfl (by omega) (by omega) rfl ?_
  refine q_load (v := (0, le, 0)) (p2 := 41) rfl rfl rfl rfl ?_
  refine q_icmp_s (p2 := 42) rfl (by decide) (by omega) (by omega) rfl (fun hb => absurd hb (show ¬ (¬ (p + 1 < le)) by omega)) (fun _ => ?_)
  refine q_load (v := (6, 1, 0)) (p2 := 43) rfl rfl rfl rfl ?_
  refine q_load (v := (0, p, 0)) (p2 := 44) rfl rfl rfl rfl ?_
  refine q_load (v := (0, 1, 0)) (p2 := 45) rfl rfl rfl rfl ?_
  refine q_iaddz (z := p + 1) (p2 := 46) rfl (by omega) (by omega) rfl ?_
  refine q_aldT (tag := 0) (v := 41) (p2 := 47) rfl hB (by omega) (by omega) hc0 rfl ?_
  refine q_const (p2 := 48) rfl rfl ?_
  refine q_icmp_s (p2 := 49) rfl (by decide) (by omega) (by omega) rfl (fun _ => ?_) (fun hb => absurd (show ¬ (41 = 46) by omega) hb)
  refine q_const (p2 := 52) rfl rfl ?_
  refine q_store (loc2 := [(6, 2, 0), (6, 1, 0), (0, le, 0), (0, p, 0), (2, ((0 + d1) - 48), 0), (11, 0, 0), (0, 1, 0), (0, 0, 0), (2, 1, 0), (11, 0, 0), (0, 0, 0), (11, 0, 0)]) (p2 := 53) rfl rfl rfl rfl rfl ?_
  refine q_load (v := (0, p, 0)) (p2 := 54) rfl rfl rfl rfl ?_
  refine q_load (v := (0, 1, 0)) (p2 := 55) rfl rfl rfl rfl ?_
  refine q_iaddz (z := p + 1) (p2 := 56) rfl (by omega) (by omega) rfl ?_
  refine q_const (p2 := 57) rfl rfl ?_
  refine q_iaddz (z := p + 2) (p2 := 58) rfl (by omega) (by omega) rfl ?_
  refine q_store (loc2 := [(6, 2, 0), (6, 1, 0), (0, le, 0), (0, p, 0), (2, ((0 + d1) - 48), 0), (11, 0, 0), (0, 1, 0), (0, 0, 0), (2, 1, 0), (11, 0, 0), (0, 0, 0), (0, p + 2, 0)]) (p2 := 59) rfl rfl rfl rfl rfl ?_
  refine q_load (v := (0, 0, 0)) (p2 := 60) rfl rfl rfl rfl ?_
  refine q_if0_s (p2 := 61) rfl (by decide) (by omega) rfl (fun _ => ?_) (fun hb => absurd (show 0 = 0 by omega) hb)
  refine q_load (v := (0, 1, 0)) (p2 := 98) rfl rfl rfl rfl ?_
  refine q_load (v := (0, 0, 0)) (p2 := 99) rfl rfl rfl rfl ?_
  refine q_if0_s (p2 := 100) rfl (by decide) (by omega) rfl (fun _ => ?_) (fun hb => absurd (show ¬ (0 < 0) by omega) hb)
  refine q_const (p2 := 103) rfl rfl ?_
  refine q_icmp_s (p2 := 104) rfl (by decide) (by omega) (by omega) rfl (fun hb => absurd hb (show ¬ (9 < 1) by omega)) (fun _ => ?_)
  refine q_load (v := (0, 0, 0)) (p2 := 105) rfl rfl rfl rfl ?_
  refine q_const (p2 := 106) rfl rfl ?_
  refine q_icmp_s (p2 := 107) rfl (by decide) (by omega) (by omega) rfl (fun _ => ?_) (fun hb => absurd (show ¬ (6 < 0) by omega) hb)
  refine q_load (v := (6, 2, 0)) (p2 := 110) rfl rfl rfl rfl ?_
  refine q_load (v := (0, 0, 0)) (p2 := 111) rfl rfl rfl rfl ?_
  refine q_if0_s (p2 := 112) rfl (by decide) (by omega) rfl (fun _ => ?_) (fun hb => absurd (show ¬ (0 < 0) by omega) hb)
  refine q_const (p2 := 115) rfl rfl ?_
  refine q_load (v := (0, p, 0)) (p2 := 116) rfl rfl rfl rfl ?_
  refine q_load (v := (0, 0, 0)) (p2 := 117) rfl rfl rfl rfl ?_
  refine q_if0_s (p2 := 118) rfl (by decide) (by omega) rfl (fun _ => ?_) (fun hb => absurd (show ¬ (0 < 0) by omega) hb)
  refine q_load (v := (2, ((0 + d1) - 48), 0)) (p2 := 123) rfl rfl rfl rfl ?_
  refine q_callvE (xs := [(2, ((0 + d1) - 48), 0), (0, p, 0), (0, 2, 0), (6, 2, 0)]) (p2 := 124) rfl rfl rfl rfl (x_rcv_s 2 hT.1) rfl (zc_t_add hT (by omega)) (Nat.le_refl _) (Nat.le_refl _) rfl (fun φ1 hR1 => ?_)
  obtain ⟨hs1_0, fr1⟩ := hR1
  refine q_load (v := (0, 0, 0)) (p2 := 125) rfl rfl rfl rfl ?_
  refine q_if0_s (p2 := 126) rfl (by decide) (by omega) rfl (fun _ => ?_) (fun hb => absurd (show ¬ (0 < 0) by omega) hb)
  refine q_load (v := (0, 1, 0)) (p2 := 133) rfl rfl rfl rfl ?_
  exact q_retv (v := (0, 1, 0)) rfl rfl (⟨rfl, rfl, rfl, rfl, hs1_0, fun j hj0 hj1 hj2 hj3 => (fr1 j (by omega) (by omega) (by omega) (by omega))⟩)
theorem zc_scn_1_41 {d n sl : Nat} {φ : FH} {tot : Nat} {at_ : Nat} {cur : Nat} {pl : Nat} {va : Nat} {fa : Nat} {fp : Nat} {sf : Nat} {sp : Nat} {no : Nat} {op : Nat} {K : Nat → Nat} {P : Nat → Nat} {V : Nat → Nat} {p : Nat} {le : Nat} {d1 : Nat} {tp : Nat → Nat} (hT : zq_T φ tot at_ cur pl va fa fp sf sp no op K P V) (hB : zq_tp φ tp) (hc0 : tp (p + 1) = 41) (hc1 : tp p = d1) (hc2 : 48 ≤ d1 ∧ d1 ≤ 57) (hc3 : p + 1 < le ∧ le ≤ 3000) (hc4 : tot < 3002) : x_f x_P (d + 3) 88 [(6, 2, 0), (6, 1, 0), (0, le, 0), (0, p, 0), (11, 0, 0), (11, 0, 0), (11, 0, 0)] φ n sl (x_rR (0, 1, 0) n sl (fun φ2 => zq_T φ2 (tot + 1) at_ cur pl va fa fp sf sp no op (x_s K tot 2) (x_s P tot p) (x_s V tot (0 + d1 - 48)) ∧ ∀ j, j ≠ 2 → j ≠ 4 → j ≠ 5 → j ≠ 6 → φ2 j = φ j)) := by
  refine x_f_of rfl ?_
  refine q_load (v := (6, 1, 0)) (p2 := 1) rfl rfl rfl rfl ?_
  refine q_load (v := (0, p, 0)) (p2 := 2) rfl rfl rfl rfl ?_
  refine q_aldT (tag := 0) (v := d1) (p2 := 3) rfl hB (by omega) (by omega) hc1 rfl ?_
  refine q_callr (xs := [(0, d1, 0)]) (p2 := 4) rfl rfl rfl rfl (fun _ _ => rfl) rfl (zc_dg_isLetter (by omega)) (Nat.le_refl _) (Nat.le_refl _) rfl ?_
  refine q_if0_s (p2 := 5) rfl (by decide) (by omega) rfl (fun _ => ?_) (fun hb => absurd (show 0 = 0 by omega) hb)
  refine q_load (v := (6, 1, 0)) (p2 := 12) rfl rfl rfl rfl ?_
  refine q_load (v := (0, p, 0)) (p2 := 13) rfl rfl rfl rfl ?_
  refine q_aldT (tag := 0) (v := d1) (p2 := 14) rfl hB (by omega) (by omega) hc1 rfl ?_
  refine q_callr (xs := [(0, d1, 0)]) (p2 := 15) rfl rfl rfl rfl (fun _ _ => rfl) rfl (zc_dg_isDigit (by omega)) (Nat.le_refl _) (Nat.le_refl _) rfl ?_
  refine q_if0_s (p2 := 16) rfl (by decide) (by omega) rfl (fun hb => absurd hb (show ¬ (1 = 0) by omega)) (fun _ => ?_)
  refine q_load (v := (6, 2, 0)) (p2 := 17) rfl rfl rfl rfl ?_
  refine q_load (v := (6, 1, 0)) (p2 := 18) rfl rfl rfl rfl ?_
  refine q_load (v := (0, le, 0)) (p2 := 19) rfl rfl rfl rfl ?_
  refine q_load (v := (0, p, 0)) (p2 := 20) rfl rfl rfl rfl ?_
  refine q_callrE (xs := [(0, p, 0), (0, le, 0), (6, 1, 0), (6, 2, 0)]) (p2 := 21) rfl rfl rfl rfl (x_rcv_s 2 hT.1) rfl (zc_sn_1_41 hT hB hc0 hc1 (by omega) (by omega) (by omega)) (Nat.le_refl _) (Nat.le_refl _) rfl (fun φ1 hR1 => ?_)
  obtain ⟨hs1_0, fr1⟩ := hR1
  exact q_retv (v := (0, 1, 0)) rfl rfl (⟨rfl, rfl, rfl, rfl, hs1_0, fun j hj0 hj1 hj2 hj3 => (fr1 j (by omega) (by omega) (by omega) (by omega))⟩)
theorem zc_sn_1_61 {d n sl : Nat} {φ : FH} {tot : Nat} {at_ : Nat} {cur : Nat} {pl : Nat} {va : Nat} {fa : Nat} {fp : Nat} {sf : Nat} {sp : Nat} {no : Nat} {op : Nat} {K : Nat → Nat} {P : Nat → Nat} {V : Nat → Nat} {p : Nat} {le : Nat} {d1 : Nat} {tp : Nat → Nat} (hT : zq_T φ tot at_ cur pl va fa fp sf sp no op K P V) (hB : zq_tp φ tp) (hc0 : tp (p + 1) = 61) (hc1 : tp p = d1) (hc2 : 48 ≤ d1 ∧ d1 ≤ 57) (hc3 : p + 1 < le ∧ le ≤ 3000) (hc4 : tot < 3002) : x_f x_P (d + 2) 144 [(6, 2, 0), (6, 1, 0), (0, le, 0), (0, p, 0), (11, 0, 0), (11, 0, 0), (11, 0, 0), (11, 0, 0), (11, 0, 0), (11, 0, 0), (11, 0, 0), (11, 0, 0)] φ n sl (x_rR (0, 1, 0) n sl (fun φ2 => zq_T φ2 (tot + 1) at_ cur pl va fa fp sf sp no op (x_s K tot 2) (x_s P tot p) (x_s V tot (0 + d1 - 48)) ∧ ∀ j, j ≠ 2 → j ≠ 4 → j ≠ 5 → j ≠ 6 → φ2 j = φ j)) := by
  refine x_f_of rfl ?_
  refine q_const (p2 := 1) rfl rfl ?_
  refine q_store2 (loc2 := [(6, 2, 0), (6, 1, 0), (0, le, 0), (0, p, 0), (2, 0, 0), (11, 0, 0), (11, 0, 0), (11, 0, 0), (11, 0, 0), (11, 0, 0), (11, 0, 0), (11, 0, 0)]) (p2 := 2) rfl rfl rfl rfl rfl ?_
  refine q_const (p2 := 3) rfl rfl ?_
  refine q_store (loc2 := [(6, 2, 0), (6, 1, 0), (0, le, 0), (0, p, 0), (2, 0, 0), (11, 0, 0), (0, 0, 0), (11, 0, 0), (11, 0, 0), (11, 0, 0), (11, 0, 0), (11, 0, 0)]) (p2 := 4) rfl rfl rfl rfl rfl ?_
  refine q_load (v := (0, p, 0)) (p2 := 5) rfl rfl rfl rfl ?_
  refine q_store (loc2 := [(6, 2, 0), (6, 1, 0), (0, le, 0), (0, p, 0), (2, 0, 0), (11, 0, 0), (0, 0, 0), (0, p, 0), (11, 0, 0), (11, 0, 0), (11, 0, 0), (11, 0, 0)]) (p2 := 6) rfl rfl rfl rfl rfl ?_
  refine q_load (v := (0, p, 0)) (p2 := 7) rfl rfl rfl rfl ?_
  refine q_load (v := (0, le, 0)) (p2 := 8) rfl rfl rfl rfl ?_
  refine q_icmp_s (p2 := 9) rfl (by decide) (by omega) (by omega) rfl (fun hb => absurd hb (show ¬ (¬ (p < le)) by omega)) (fun _ => ?_)
  refine q_load (v := (6, 1, 0)) (p2 := 10) rfl rfl rfl rfl ?_
  refine q_load (v := (0, p, 0)) (p2 := 11) rfl rfl rfl rfl ?_
  refine q_aldT (tag := 0) (v := d1) (p2 := 12) rfl hB (by omega) (by omega) hc1 rfl ?_
  refine q_callr (xs := [(0, d1, 0)]) (p2 := 13) rfl rfl rfl rfl (fun _ _ => rfl) rfl (zc_dg_isDigit (by omega)) (Nat.le_refl _) (Nat.le_refl _) rfl ?_
  refine q_if0_s (p2 := 14) rfl (by decide) (by omega) rfl (fun hb => absurd hb (show ¬ (1 = 0) by omega)) (fun _ => ?_)
  refine q_load (v := (0, 0, 0)) (p2 := 15) rfl rfl rfl rfl ?_
  refine q_const (p2 := 16) rfl rfl ?_
  refine q_icmp_s (p2 := 17) rfl (by decide) (by omega) (by omega) rfl (fun hb => absurd hb (show ¬ (¬ (0 < 9)) by omega)) (fun _ => ?_)
  refine q_load (v := (2, 0, 0)) (p2 := 18) rfl rfl rfl rfl ?_
  refine q_const (p2 := 19) rfl rfl ?_
  refine q_lmulz (z := 0) (p2 := 20) rfl (by omega) (by omega) rfl ?_
  refine q_load (v := (6, 1, 0)) (p2 := 21) rfl rfl rfl rfl ?_
  refine q_load (v := (0, p, 0)) (p2 := 22) rfl rfl rfl rfl ?_
  refine q_aldT (tag := 0) (v := d1) (p2 := 23) rfl hB (by omega) (by omega) hc1 rfl ?_
  refine q_i2l (p2 := 24) rfl (by omega) rfl ?_
  refine q_laddz (z := (0 + d1)) (p2 := 25) rfl (by omega) (by omega) rfl ?_
  refine q_const (p2 := 26) rfl rfl ?_
  refine q_lsubz (z := ((0 + d1) - 48)) (p2 := 27) rfl (by omega) (by omega) rfl ?_
  refine q_goto rfl ?_
  refine q_store2 (loc2 := [(6, 2, 0), (6, 1, 0), (0, le, 0), (0, p, 0), (2, ((0 + d1) - 48), 0), (11, 0, 0), (0, 0, 0), (0, p, 0), (11, 0, 0), (11, 0, 0), (11, 0, 0), (11, 0, 0)]) (p2 := 30) rfl rfl rfl rfl rfl ?_
  refine q_iinc (z := 1) (loc2 := [(6, 2, 0), (6, 1, 0), (0, le, 0), (0, p, 0), (2, ((0 + d1) - 48), 0), (11, 0, 0), (0, 1, 0), (0, p, 0), (11, 0, 0), (11, 0, 0), (11, 0, 0), (11, 0, 0)]) (p2 := 31) rfl rfl (by decide) rfl rfl ?_
  refine q_iinc (z := p + 1) (loc2 := [(6, 2, 0), (6, 1, 0), (0, le, 0), (0, p, 0), (2, ((0 + d1) - 48), 0), (11, 0, 0), (0, 1, 0), (0, p + 1, 0), (11, 0, 0), (11, 0, 0), (11, 0, 0), (11, 0, 0)]) (p2 := 32) rfl rfl (Nat.mod_eq_of_lt (by omega)) rfl rfl ?_
  refine q_goto rfl ?_
  refine q_load (v := (0, p + 1, 0)) (p2 := 7) rfl rfl rfl rfl ?_
  refine q_load (v := (0, le, 0)) (p2 := 8) rfl rfl rfl rfl ?_
  refine q_icmp_s (p2 := 9) rfl (by decide) (by omega) (by omega) rfl (fun hb => absurd hb (show ¬ (¬ (p + 1 < le)) by omega)) (fun _ => ?_)
  refine q_load (v := (6, 1, 0)) (p2 := 10) rfl rfl rfl rfl ?_
  refine q_load (v := (0, p + 1, 0)) (p2 := 11) rfl rfl rfl rfl ?_
  refine q_aldT (tag := 0) (v := 61) (p2 := 12) rfl hB (by omega) (by omega) hc0 rfl ?_
  refine q_callr (xs := [(0, 61, 0)]) (p2 := 13) rfl rfl rfl rfl (fun _ _ => rfl) rfl (zc_a_143_61 ) (Nat.le_refl _) (Nat.le_refl _) rfl ?_
  refine q_if0_s (p2 := 14) rfl (by decide) (by omega) rfl (fun _ => ?_) (fun hb => absurd (show 0 = 0 by omega) hb)
  refine q_const (p2 := 34) rfl rfl ?_
  refine q_store (loc2 := [(6, 2, 0), (6, 1, 0), (0, le, 0), (0, p, 0), (2, ((0 + d1) - 48), 0), (11, 0, 0), (0, 1, 0), (0, 0, 0), (11, 0, 0), (11, 0, 0), (11, 0, 0), (11, 0, 0)]) (p2 := 35) rfl rfl rfl rfl rfl ?_
  refine q_const (p2 := 36) rfl rfl ?_
  refine q_store2 (loc2 := [(6, 2, 0), (6, 1, 0), (0, le, 0), (0, p, 0), (2, ((0 + d1) - 48), 0), (11, 0, 0), (0, 1, 0), (0, 0, 0), (2, 1, 0), (11, 0, 0), (11, 0, 0), (11, 0, 0)]) (p2 := 37) rfl rfl rfl rfl rfl ?_
  refine q_load (v := (0, p, 0)) (p2 := 38) rfl rfl rfl rfl ?_
  refine q_load (v := (0, 1, 0)) (p2 := 39) rfl rfl rfl rfl ?_
  refine q_iaddz (z := p + 1) (p2 := 40) rfl (by omega) (by omega) rfl ?_
  refine q_load (v := (0, le, 0)) (p2 := 41) rfl rfl rfl rfl ?_
  refine q_icmp_s (p2 := 42) rfl (by decide) (by omega) (by omega) rfl (fun hb => absurd hb (show ¬ (¬ (p + 1 < le)) by omega)) (fun _ => ?_)
  refine q_load (v := (6, 1, 0)) (p2 := 43) rfl rfl rfl rfl ?_
  refine q_load (v := (0, p, 0)) (p2 := 44) rfl rfl rfl rfl ?_
  refine q_load (v := (0, 1, 0)) (p2 := 45) rfl rfl rfl rfl ?_
  refine q_iaddz (z := p + 1) (p2 := 46) rfl (by omega) (by omega) rfl ?_
  refine q_aldT (tag := 0) (v := 61) (p2 := 47) rfl hB (by omega) (by omega) hc0 rfl ?_
  refine q_const (p2 := 48) rfl rfl ?_
  refine q_icmp_s (p2 := 49) rfl (by decide) (by omega) (by omega) rfl (fun _ => ?_) (fun hb => absurd (show ¬ (61 = 46) by omega) hb)
  refine q_const (p2 := 52) rfl rfl ?_
  refine q_store (loc2 := [(6, 2, 0), (6, 1, 0), (0, le, 0), (0, p, 0), (2, ((0 + d1) - 48), 0), (11, 0, 0), (0, 1, 0), (0, 0, 0), (2, 1, 0), (11, 0, 0), (0, 0, 0), (11, 0, 0)]) (p2 := 53) rfl rfl rfl rfl rfl ?_
  refine q_load (v := (0, p, 0)) (p2 := 54) rfl rfl rfl rfl ?_
  refine q_load (v := (0, 1, 0)) (p2 := 55) rfl rfl rfl rfl ?_
  refine q_iaddz (z := p + 1) (p2 := 56) rfl (by omega) (by omega) rfl ?_
  refine q_const (p2 := 57) rfl rfl ?_
  refine q_iaddz (z := p + 2) (p2 := 58) rfl (by omega) (by omega) rfl ?_
  refine q_store (loc2 := [(6, 2, 0), (6, 1, 0), (0, le, 0), (0, p, 0), (2, ((0 + d1) - 48), 0), (11, 0, 0), (0, 1, 0), (0, 0, 0), (2, 1, 0), (11, 0, 0), (0, 0, 0), (0, p + 2, 0)]) (p2 := 59) rfl rfl rfl rfl rfl ?_
  refine q_load (v := (0, 0, 0)) (p2 := 60) rfl rfl rfl rfl ?_
  refine q_if0_s (p2 := 61) rfl (by decide) (by omega) rfl (fun _ => ?_) (fun hb => absurd (show 0 = 0 by omega) hb)
  refine q_load (v := (0, 1, 0)) (p2 := 98) rfl rfl rfl rfl ?_
  refine q_load (v := (0, 0, 0)) (p2 := 99) rfl rfl rfl rfl ?_
  refine q_if0_s (p2 := 100) rfl (by decide) (by omega) rfl (fun _ => ?_) (fun hb => absurd (show ¬ (0 < 0) by omega) hb)
  refine q_const (p2 := 103) rfl rfl ?_
  refine q_icmp_s (p2 := 104) rfl (by decide) (by omega) (by omega) rfl (fun hb => absurd hb (show ¬ (9 < 1) by omega)) (fun _ => ?_)
  refine q_load (v := (0, 0, 0)) (p2 := 105) rfl rfl rfl rfl ?_
  refine q_const (p2 := 106) rfl rfl ?_
  refine q_icmp_s (p2 := 107) rfl (by decide) (by omega) (by omega) rfl (fun _ => ?_) (fun hb => absurd (show ¬ (6 < 0) by omega) hb)
  refine q_load (v := (6, 2, 0)) (p2 := 110) rfl rfl rfl rfl ?_
  refine q_load (v := (0, 0, 0)) (p2 := 111) rfl rfl rfl rfl ?_
  refine q_if0_s (p2 := 112) rfl (by decide) (by omega) rfl (fun _ => ?_) (fun hb => absurd (show ¬ (0 < 0) by omega) hb)
  refine q_const (p2 := 115) rfl rfl ?_
  refine q_load (v := (0, p, 0)) (p2 := 116) rfl rfl rfl rfl ?_
  refine q_load (v := (0, 0, 0)) (p2 := 117) rfl rfl rfl rfl ?_
  refine q_if0_s (p2 := 118) rfl (by decide) (by omega) rfl (fun _ => ?_) (fun hb => absurd (show ¬ (0 < 0) by omega) hb)
  refine q_load (v := (2, ((0 + d1) - 48), 0)) (p2 := 123) rfl rfl rfl rfl ?_
  refine q_callvE (xs := [(2, ((0 + d1) - 48), 0), (0, p, 0), (0, 2, 0), (6, 2, 0)]) (p2 := 124) rfl rfl rfl rfl (x_rcv_s 2 hT.1) rfl (zc_t_add hT (by omega)) (Nat.le_refl _) (Nat.le_refl _) rfl (fun φ1 hR1 => ?_)
  obtain ⟨hs1_0, fr1⟩ := hR1
  refine q_load (v := (0, 0, 0)) (p2 := 125) rfl rfl rfl rfl ?_
  refine q_if0_s (p2 := 126) rfl (by decide) (by omega) rfl (fun _ => ?_) (fun hb => absurd (show ¬ (0 < 0) by omega) hb)
  refine q_load (v := (0, 1, 0)) (p2 := 133) rfl rfl rfl rfl ?_
  exact q_retv (v := (0, 1, 0)) rfl rfl (⟨rfl, rfl, rfl, rfl, hs1_0, fun j hj0 hj1 hj2 hj3 => (fr1 j (by omega) (by omega) (by omega) (by omega))⟩)
theorem zc_scn_1_61 {d n sl : Nat} {φ : FH} {tot : Nat} {at_ : Nat} {cur : Nat} {pl : Nat} {va : Nat} {fa : Nat} {fp : Nat} {sf : Nat} {sp : Nat} {no : Nat} {op : Nat} {K : Nat → Nat} {P : Nat → Nat} {V : Nat → Nat} {p : Nat} {le : Nat} {d1 : Nat} {tp : Nat → Nat} (hT : zq_T φ tot at_ cur pl va fa fp sf sp no op K P V) (hB : zq_tp φ tp) (hc0 : tp (p + 1) = 61) (hc1 : tp p = d1) (hc2 : 48 ≤ d1 ∧ d1 ≤ 57) (hc3 : p + 1 < le ∧ le ≤ 3000) (hc4 : tot < 3002) : x_f x_P (d + 3) 88 [(6, 2, 0), (6, 1, 0), (0, le, 0), (0, p, 0), (11, 0, 0), (11, 0, 0), (11, 0, 0)] φ n sl (x_rR (0, 1, 0) n sl (fun φ2 => zq_T φ2 (tot + 1) at_ cur pl va fa fp sf sp no op (x_s K tot 2) (x_s P tot p) (x_s V tot (0 + d1 - 48)) ∧ ∀ j, j ≠ 2 → j ≠ 4 → j ≠ 5 → j ≠ 6 → φ2 j = φ j)) := by
  refine x_f_of rfl ?_
  refine q_load (v := (6, 1, 0)) (p2 := 1) rfl rfl rfl rfl ?_
  refine q_load (v := (0, p, 0)) (p2 := 2) rfl rfl rfl rfl ?_
  refine q_aldT (tag := 0) (v := d1) (p2 := 3) rfl hB (by omega) (by omega) hc1 rfl ?_
  refine q_callr (xs := [(0, d1, 0)]) (p2 := 4) rfl rfl rfl rfl (fun _ _ => rfl) rfl (zc_dg_isLetter (by omega)) (Nat.le_refl _) (Nat.le_refl _) rfl ?_
  refine q_if0_s (p2 := 5) rfl (by decide) (by omega) rfl (fun _ => ?_) (fun hb => absurd (show 0 = 0 by omega) hb)
  refine q_load (v := (6, 1, 0)) (p2 := 12) rfl rfl rfl rfl ?_
  refine q_load (v := (0, p, 0)) (p2 := 13) rfl rfl rfl rfl ?_
  refine q_aldT (tag := 0) (v := d1) (p2 := 14) rfl hB (by omega) (by omega) hc1 rfl ?_
  refine q_callr (xs := [(0, d1, 0)]) (p2 := 15) rfl rfl rfl rfl (fun _ _ => rfl) rfl (zc_dg_isDigit (by omega)) (Nat.le_refl _) (Nat.le_refl _) rfl ?_
  refine q_if0_s (p2 := 16) rfl (by decide) (by omega) rfl (fun hb => absurd hb (show ¬ (1 = 0) by omega)) (fun _ => ?_)
  refine q_load (v := (6, 2, 0)) (p2 := 17) rfl rfl rfl rfl ?_
  refine q_load (v := (6, 1, 0)) (p2 := 18) rfl rfl rfl rfl ?_
  refine q_load (v := (0, le, 0)) (p2 := 19) rfl rfl rfl rfl ?_
  refine q_load (v := (0, p, 0)) (p2 := 20) rfl rfl rfl rfl ?_
  refine q_callrE (xs := [(0, p, 0), (0, le, 0), (6, 1, 0), (6, 2, 0)]) (p2 := 21) rfl rfl rfl rfl (x_rcv_s 2 hT.1) rfl (zc_sn_1_61 hT hB hc0 hc1 (by omega) (by omega) (by omega)) (Nat.le_refl _) (Nat.le_refl _) rfl (fun φ1 hR1 => ?_)
  obtain ⟨hs1_0, fr1⟩ := hR1
  exact q_retv (v := (0, 1, 0)) rfl rfl (⟨rfl, rfl, rfl, rfl, hs1_0, fun j hj0 hj1 hj2 hj3 => (fr1 j (by omega) (by omega) (by omega) (by omega))⟩)
theorem zc_sn_1_43 {d n sl : Nat} {φ : FH} {tot : Nat} {at_ : Nat} {cur : Nat} {pl : Nat} {va : Nat} {fa : Nat} {fp : Nat} {sf : Nat} {sp : Nat} {no : Nat} {op : Nat} {K : Nat → Nat} {P : Nat → Nat} {V : Nat → Nat} {p : Nat} {le : Nat} {d1 : Nat} {tp : Nat → Nat} (hT : zq_T φ tot at_ cur pl va fa fp sf sp no op K P V) (hB : zq_tp φ tp) (hc0 : tp (p + 1) = 43) (hc1 : tp p = d1) (hc2 : 48 ≤ d1 ∧ d1 ≤ 57) (hc3 : p + 1 < le ∧ le ≤ 3000) (hc4 : tot < 3002) : x_f x_P (d + 2) 144 [(6, 2, 0), (6, 1, 0), (0, le, 0), (0, p, 0), (11, 0, 0), (11, 0, 0), (11, 0, 0), (11, 0, 0), (11, 0, 0), (11, 0, 0), (11, 0, 0), (11, 0, 0)] φ n sl (x_rR (0, 1, 0) n sl (fun φ2 => zq_T φ2 (tot + 1) at_ cur pl va fa fp sf sp no op (x_s K tot 2) (x_s P tot p) (x_s V tot (0 + d1 - 48)) ∧ ∀ j, j ≠ 2 → j ≠ 4 → j ≠ 5 → j ≠ 6 → φ2 j = φ j)) := by
  refine x_f_of rfl ?_
  refine q_const (p2 := 1) rfl rfl ?_
  refine q_store2 (loc2 := [(6, 2, 0), (6, 1, 0), (0, le, 0), (0, p, 0), (2, 0, 0), (11, 0, 0), (11, 0, 0), (11, 0, 0), (11, 0, 0), (11, 0, 0), (11, 0, 0), (11, 0, 0)]) (p2 := 2) rfl rfl rfl rfl rfl ?_
  refine q_const (p2 := 3) rfl rfl ?_
  refine q_store (loc2 := [(6, 2, 0), (6, 1, 0), (0, le, 0), (0, p, 0), (2, 0, 0), (11, 0, 0), (0, 0, 0), (11, 0, 0), (11, 0, 0), (11, 0, 0), (11, 0, 0), (11, 0, 0)]) (p2 := 4) rfl rfl rfl rfl rfl ?_
  refine q_load (v := (0, p, 0)) (p2 := 5) rfl rfl rfl rfl ?_
  refine q_store (loc2 := [(6, 2, 0), (6, 1, 0), (0, le, 0), (0, p, 0), (2, 0, 0), (11, 0, 0), (0, 0, 0), (0, p, 0), (11, 0, 0), (11, 0, 0), (11, 0, 0), (11, 0, 0)]) (p2 := 6) rfl rfl rfl rfl rfl ?_
  refine q_load (v := (0, p, 0)) (p2 := 7) rfl rfl rfl rfl ?_
  refine q_load (v := (0, le, 0)) (p2 := 8) rfl rfl rfl rfl ?_
  refine q_icmp_s (p2 := 9) rfl (by decide) (by omega) (by omega) rfl (fun hb => absurd hb (show ¬ (¬ (p < le)) by omega)) (fun _ => ?_)
  refine q_load (v := (6, 1, 0)) (p2 := 10) rfl rfl rfl rfl ?_
  refine q_load (v := (0, p, 0)) (p2 := 11) rfl rfl rfl rfl ?_
  refine q_aldT (tag := 0) (v := d1) (p2 := 12) rfl hB (by omega) (by omega) hc1 rfl ?_
  refine q_callr (xs := [(0, d1, 0)]) (p2 := 13) rfl rfl rfl rfl (fun _ _ => rfl) rfl (zc_dg_isDigit (by omega)) (Nat.le_refl _) (Nat.le_refl _) rfl ?_
  refine q_if0_s (p2 := 14) rfl (by decide) (by omega) rfl (fun hb => absurd hb (show ¬ (1 = 0) by omega)) (fun _ => ?_)
  refine q_load (v := (0, 0, 0)) (p2 := 15) rfl rfl rfl rfl ?_
  refine q_const (p2 := 16) rfl rfl ?_
  refine q_icmp_s (p2 := 17) rfl (by decide) (by omega) (by omega) rfl (fun hb => absurd hb (show ¬ (¬ (0 < 9)) by omega)) (fun _ => ?_)
  refine q_load (v := (2, 0, 0)) (p2 := 18) rfl rfl rfl rfl ?_
  refine q_const (p2 := 19) rfl rfl ?_
  refine q_lmulz (z := 0) (p2 := 20) rfl (by omega) (by omega) rfl ?_
  refine q_load (v := (6, 1, 0)) (p2 := 21) rfl rfl rfl rfl ?_
  refine q_load (v := (0, p, 0)) (p2 := 22) rfl rfl rfl rfl ?_
  refine q_aldT (tag := 0) (v := d1) (p2 := 23) rfl hB (by omega) (by omega) hc1 rfl ?_
  refine q_i2l (p2 := 24) rfl (by omega) rfl ?_
  refine q_laddz (z := (0 + d1)) (p2 := 25) rfl (by omega) (by omega) rfl ?_
  refine q_const (p2 := 26) rfl rfl ?_
  refine q_lsubz (z := ((0 + d1) - 48)) (p2 := 27) rfl (by omega) (by omega) rfl ?_
  refine q_goto rfl ?_
  refine q_store2 (loc2 := [(6, 2, 0), (6, 1, 0), (0, le, 0), (0, p, 0), (2, ((0 + d1) - 48), 0), (11, 0, 0), (0, 0, 0), (0, p, 0), (11, 0, 0), (11, 0, 0), (11, 0, 0), (11, 0, 0)]) (p2 := 30) rfl rfl rfl rfl rfl ?_
  refine q_iinc (z := 1) (loc2 := [(6, 2, 0), (6, 1, 0), (0, le, 0), (0, p, 0), (2, ((0 + d1) - 48), 0), (11, 0, 0), (0, 1, 0), (0, p, 0), (11, 0, 0), (11, 0, 0), (11, 0, 0), (11, 0, 0)]) (p2 := 31) rfl rfl (by decide) rfl rfl ?_
  refine q_iinc (z := p + 1) (loc2 := [(6, 2, 0), (6, 1, 0), (0, le, 0), (0, p, 0), (2, ((0 + d1) - 48), 0), (11, 0, 0), (0, 1, 0), (0, p + 1, 0), (11, 0, 0), (11, 0, 0), (11, 0, 0), (11, 0, 0)]) (p2 := 32) rfl rfl (Nat.mod_eq_of_lt (by omega)) rfl rfl ?_
  refine q_goto rfl ?_
  refine q_load (v := (0, p + 1, 0)) (p2 := 7) rfl rfl rfl rfl ?_
  refine q_load (v := (0, le, 0)) (p2 := 8) rfl rfl rfl rfl ?_
  refine q_icmp_s (p2 := 9) rfl (by decide) (by omega) (by omega) rfl (fun hb => absurd hb (show ¬ (¬ (p + 1 < le)) by omega)) (fun _ => ?_)
  refine q_load (v := (6, 1, 0)) (p2 := 10) rfl rfl rfl rfl ?_
  refine q_load (v := (0, p + 1, 0)) (p2 := 11) rfl rfl rfl rfl ?_
  refine q_aldT (tag := 0) (v := 43) (p2 := 12) rfl hB (by omega) (by omega) hc0 rfl ?_
  refine q_callr (xs := [(0, 43, 0)]) (p2 := 13) rfl rfl rfl rfl (fun _ _ => rfl) rfl (zc_a_143_43 ) (Nat.le_refl _) (Nat.le_refl _) rfl ?_
  refine q_if0_s (p2 := 14) rfl (by decide) (by omega) rfl (fun _ => ?_) (fun hb => absurd (show 0 = 0 by omega) hb)
  refine q_const (p2 := 34) rfl rfl ?_
  refine q_store (loc2 := [(6, 2, 0), (6, 1, 0), (0, le, 0), (0, p, 0), (2, ((0 + d1) - 48), 0), (11, 0, 0), (0, 1, 0), (0, 0, 0), (11, 0, 0), (11, 0, 0), (11, 0, 0), (11, 0, 0)]) (p2 := 35) rfl rfl rfl rfl rfl ?_
  refine q_const (p2 := 36) rfl rfl ?_
  refine q_store2 (loc2 := [(6, 2, 0), (6, 1, 0), (0, le, 0), (0, p, 0), (2, ((0 + d1) - 48), 0), (11, 0, 0), (0, 1, 0), (0, 0, 0), (2, 1, 0), (11, 0, 0), (11, 0, 0), (11, 0, 0)]) (p2 := 37) rfl rfl rfl rfl rfl ?_
  refine q_load (v := (0, p, 0)) (p2 := 38) rfl rfl rfl rfl ?_
  refine q_load (v := (0, 1, 0)) (p2 := 39) rfl rfl rfl rfl ?_
  refine q_iaddz (z := p + 1) (p2 := 40) rfl (by omega) (by omega) rfl ?_
  refine q_load (v := (0, le, 0)) (p2 := 41) rfl rfl rfl rfl ?_
  refine q_icmp_s (p2 := 42) rfl (by decide) (by omega) (by omega) rfl (fun hb => absurd hb (show ¬ (¬ (p + 1 < le)) by omega)) (fun _ => ?_)
  refine q_load (v := (6, 1, 0)) (p2 := 43) rfl rfl rfl rfl ?_
  refine q_load (v := (0, p, 0)) (p2 := 44) rfl rfl rfl rfl ?_
  refine q_load (v := (0, 1, 0)) (p2 := 45) rfl rfl rfl rfl ?_
  refine q_iaddz (z := p + 1) (p2 := 46) rfl (by omega) (by omega) rfl ?_
  refine q_aldT (tag := 0) (v := 43) (p2 := 47) rfl hB (by omega) (by omega) hc0 rfl ?_
  refine q_const (p2 := 48) rfl rfl ?_
  refine q_icmp_s (p2 := 49) rfl (by decide) (by omega) (by omega) rfl (fun _ => ?_) (fun hb => absurd (show ¬ (43 = 46) by omega) hb)
  refine q_const (p2 := 52) rfl rfl ?_
  refine q_store (loc2 := [(6, 2, 0), (6, 1, 0), (0, le, 0), (0, p, 0), (2, ((0 + d1) - 48), 0), (11, 0, 0), (0, 1, 0), (0, 0, 0), (2, 1, 0), (11, 0, 0), (0, 0, 0), (11, 0, 0)]) (p2 := 53) rfl rfl rfl rfl rfl ?_
  refine q_load (v := (0, p, 0)) (p2 := 54) rfl rfl rfl rfl ?_
  refine q_load (v := (0, 1, 0)) (p2 := 55) rfl rfl rfl rfl ?_
  refine q_iaddz (z := p + 1) (p2 := 56) rfl (by omega) (by omega) rfl ?_
  refine q_const (p2 := 57) rfl rfl ?_
  refine q_iaddz (z := p + 2) (p2 := 58) rfl (by omega) (by omega) rfl ?_
  refine q_store (loc2 := [(6, 2, 0), (6, 1, 0), (0, le, 0), (0, p, 0), (2, ((0 + d1) - 48), 0), (11, 0, 0), (0, 1, 0), (0, 0, 0), (2, 1, 0), (11, 0, 0), (0, 0, 0), (0, p + 2, 0)]) (p2 := 59) rfl rfl rfl rfl rfl ?_
  refine q_load (v := (0, 0, 0)) (p2 := 60) rfl rfl rfl rfl ?_
  refine q_if0_s (p2 := 61) rfl (by decide) (by omega) rfl (fun _ => ?_) (fun hb => absurd (show 0 = 0 by omega) hb)
  refine q_load (v := (0, 1, 0)) (p2 := 98) rfl rfl rfl rfl ?_
  refine q_load (v := (0, 0, 0)) (p2 := 99) rfl rfl rfl rfl ?_
  refine q_if0_s (p2 := 100) rfl (by decide) (by omega) rfl (fun _ => ?_) (fun hb => absurd (show ¬ (0 < 0) by omega) hb)
  refine q_const (p2 := 103) rfl rfl ?_
  refine q_icmp_s (p2 := 104) rfl (by decide) (by omega) (by omega) rfl (fun hb => absurd hb (show ¬ (9 < 1) by omega)) (fun _ => ?_)
  refine q_load (v := (0, 0, 0)) (p2 := 105) rfl rfl rfl rfl ?_
  refine q_const (p2 := 106) rfl rfl ?_
  refine q_icmp_s (p2 := 107) rfl (by decide) (by omega) (by omega) rfl (fun _ => ?_) (fun hb => absurd (show ¬ (6 < 0) by omega) hb)
  refine q_load (v := (6, 2, 0)) (p2 := 110) rfl rfl rfl rfl ?_
  refine q_load (v := (0, 0, 0)) (p2 := 111) rfl rfl rfl rfl ?_
  refine q_if0_s (p2 := 112) rfl (by decide) (by omega) rfl (fun _ => ?_) (fun hb => absurd (show ¬ (0 < 0) by omega) hb)
  refine q_const (p2 := 115) rfl rfl ?_
  refine q_load (v := (0, p, 0)) (p2 := 116) rfl rfl rfl rfl ?_
  refine q_load (v := (0, 0, 0)) (p2 := 117) rfl rfl rfl rfl ?_
  refine q_if0_s (p2 := 118) rfl (by decide) (by omega) rfl (fun _ => ?_) (fun hb => absurd (show ¬ (0 < 0) by omega) hb)
  refine q_load (v := (2, ((0 + d1) - 48), 0)) (p2 := 123) rfl rfl rfl rfl ?_
  refine q_callvE (xs := [(2, ((0 + d1) - 48), 0), (0, p, 0), (0, 2, 0), (6, 2, 0)]) (p2 := 124) rfl rfl rfl rfl (x_rcv_s 2 hT.1) rfl (zc_t_add hT (by omega)) (Nat.le_refl _) (Nat.le_refl _) rfl (fun φ1 hR1 => ?_)
  obtain ⟨hs1_0, fr1⟩ := hR1
  refine q_load (v := (0, 0, 0)) (p2 := 125) rfl rfl rfl rfl ?_
  refine q_if0_s (p2 := 126) rfl (by decide) (by omega) rfl (fun _ => ?_) (fun hb => absurd (show ¬ (0 < 0) by omega) hb)
  refine q_load (v := (0, 1, 0)) (p2 := 133) rfl rfl rfl rfl ?_
  exact q_retv (v := (0, 1, 0)) rfl rfl (⟨rfl, rfl, rfl, rfl, hs1_0, fun j hj0 hj1 hj2 hj3 => (fr1 j (by omega) (by omega) (by omega) (by omega))⟩)
theorem zc_scn_1_43 {d n sl : Nat} {φ : FH} {tot : Nat} {at_ : Nat} {cur : Nat} {pl : Nat} {va : Nat} {fa : Nat} {fp : Nat} {sf : Nat} {sp : Nat} {no : Nat} {op : Nat} {K : Nat → Nat} {P : Nat → Nat} {V : Nat → Nat} {p : Nat} {le : Nat} {d1 : Nat} {tp : Nat → Nat} (hT : zq_T φ tot at_ cur pl va fa fp sf sp no op K P V) (hB : zq_tp φ tp) (hc0 : tp (p + 1) = 43) (hc1 : tp p = d1) (hc2 : 48 ≤ d1 ∧ d1 ≤ 57) (hc3 : p + 1 < le ∧ le ≤ 3000) (hc4 : tot < 3002) : x_f x_P (d + 3) 88 [(6, 2, 0), (6, 1, 0), (0, le, 0), (0, p, 0), (11, 0, 0), (11, 0, 0), (11, 0, 0)] φ n sl (x_rR (0, 1, 0) n sl (fun φ2 => zq_T φ2 (tot + 1) at_ cur pl va fa fp sf sp no op (x_s K tot 2) (x_s P tot p) (x_s V tot (0 + d1 - 48)) ∧ ∀ j, j ≠ 2 → j ≠ 4 → j ≠ 5 → j ≠ 6 → φ2 j = φ j)) := by
  refine x_f_of rfl ?_
  refine q_load (v := (6, 1, 0)) (p2 := 1) rfl rfl rfl rfl ?_
  refine q_load (v := (0, p, 0)) (p2 := 2) rfl rfl rfl rfl ?_
  refine q_aldT (tag := 0) (v := d1) (p2 := 3) rfl hB (by omega) (by omega) hc1 rfl ?_
  refine q_callr (xs := [(0, d1, 0)]) (p2 := 4) rfl rfl rfl rfl (fun _ _ => rfl) rfl (zc_dg_isLetter (by omega)) (Nat.le_refl _) (Nat.le_refl _) rfl ?_
  refine q_if0_s (p2 := 5) rfl (by decide) (by omega) rfl (fun _ => ?_) (fun hb => absurd (show 0 = 0 by omega) hb)
  refine q_load (v := (6, 1, 0)) (p2 := 12) rfl rfl rfl rfl ?_
  refine q_load (v := (0, p, 0)) (p2 := 13) rfl rfl rfl rfl ?_
  refine q_aldT (tag := 0) (v := d1) (p2 := 14) rfl hB (by omega) (by omega) hc1 rfl ?_
  refine q_callr (xs := [(0, d1, 0)]) (p2 := 15) rfl rfl rfl rfl (fun _ _ => rfl) rfl (zc_dg_isDigit (by omega)) (Nat.le_refl _) (Nat.le_refl _) rfl ?_
  refine q_if0_s (p2 := 16) rfl (by decide) (by omega) rfl (fun hb => absurd hb (show ¬ (1 = 0) by omega)) (fun _ => ?_)
  refine q_load (v := (6, 2, 0)) (p2 := 17) rfl rfl rfl rfl ?_
  refine q_load (v := (6, 1, 0)) (p2 := 18) rfl rfl rfl rfl ?_
  refine q_load (v := (0, le, 0)) (p2 := 19) rfl rfl rfl rfl ?_
  refine q_load (v := (0, p, 0)) (p2 := 20) rfl rfl rfl rfl ?_
  refine q_callrE (xs := [(0, p, 0), (0, le, 0), (6, 1, 0), (6, 2, 0)]) (p2 := 21) rfl rfl rfl rfl (x_rcv_s 2 hT.1) rfl (zc_sn_1_43 hT hB hc0 hc1 (by omega) (by omega) (by omega)) (Nat.le_refl _) (Nat.le_refl _) rfl (fun φ1 hR1 => ?_)
  obtain ⟨hs1_0, fr1⟩ := hR1
  exact q_retv (v := (0, 1, 0)) rfl rfl (⟨rfl, rfl, rfl, rfl, hs1_0, fun j hj0 hj1 hj2 hj3 => (fr1 j (by omega) (by omega) (by omega) (by omega))⟩)
theorem x_words_lt (i : Nat) : x_words i < 9223372036854775808 := by
  by_cases h : i < 50
  · exact (show ∀ i, i < 50 → x_words i < 9223372036854775808 by decide +kernel) i h
  · unfold x_words x_l
    rw [List.getD_eq_getElem?_getD, List.getElem?_eq_none (by show 50 ≤ i; omega)]; decide
theorem zc_kow_6 {d n sl : Nat} {φ : FH} {tot : Nat} {at_ : Nat} {cur : Nat} {pl : Nat} {va : Nat} {fa : Nat} {fp : Nat} {sf : Nat} {sp : Nat} {no : Nat} {op : Nat} {K : Nat → Nat} {P : Nat → Nat} {V : Nat → Nat} (hT : zq_T φ tot at_ cur pl va fa fp sf sp no op K P V) (k : Nat) : ∀ w, w + k = 50 → x_n x_P d xc_220 2 [] [(6, 2, 0), (2, 6, 0), (11, 0, 0), (0, w, 0)] φ n sl (x_r φ n sl (0, 1, 0)) := by
  induction k with
  | zero =>
    intro w hw
    have hw : w = 50 := hw
    subst hw
    refine q_load (v := (0, 50, 0)) (p2 := 3) rfl rfl rfl rfl ?_
    refine q_load (v := (6, 2, 0)) (p2 := 4) rfl rfl rfl rfl ?_
    refine q_getv (v := (6, 3, 0)) (p2 := 5) rfl hT.1 (by decide) rfl rfl ?_
    refine q_alen (p2 := 6) rfl hT.2.1 rfl (by omega) rfl ?_
    refine q_icmp_s (p2 := 7) rfl (by decide) (by omega) (by omega) rfl (fun _ => ?_) (fun hb => absurd (show ¬ (50 < 50) by omega) hb)
    refine q_const (p2 := 21) rfl rfl ?_
    exact q_retv (v := (0, 1, 0)) rfl rfl (⟨rfl, rfl, rfl, rfl, rfl⟩)
  | succ k ih =>
    intro w hw
    have hb := x_words_lt w
    have hne : x_words w ≠ 6 := (show ∀ i, i < 50 → x_words i ≠ 6 by decide +kernel) w (by omega)
    refine q_load (v := (0, w, 0)) (p2 := 3) rfl rfl rfl rfl ?_
    refine q_load (v := (6, 2, 0)) (p2 := 4) rfl rfl rfl rfl ?_
    refine q_getv (v := (6, 3, 0)) (p2 := 5) rfl hT.1 (by decide) rfl rfl ?_
    refine q_alen (p2 := 6) rfl hT.2.1 rfl (by omega) rfl ?_
    refine q_icmp_s (p2 := 7) rfl (by decide) (by omega) (by omega) rfl (fun hb => absurd hb (show ¬ (¬ (w < 50)) by omega)) (fun _ => ?_)
    refine q_load (v := (6, 2, 0)) (p2 := 8) rfl rfl rfl rfl ?_
    refine q_getv (v := (6, 3, 0)) (p2 := 9) rfl hT.1 (by decide) rfl rfl ?_
    refine q_load (v := (0, w, 0)) (p2 := 10) rfl rfl rfl rfl ?_
    refine q_aldT (tag := 2) (v := x_words w) (p2 := 11) rfl hT.2.1 (by omega) (by omega) rfl rfl ?_
    refine q_load (v := (2, 6, 0)) (p2 := 12) rfl rfl rfl rfl ?_
    refine q_lcif (p2 := 14) rfl rfl (by decide) (by omega) (by omega) rfl (fun _ => ?_) (fun hb => absurd (show ¬ (x_words w = 6) by omega) hb)
    refine q_iinc (z := w + 1) (loc2 := [(6, 2, 0), (2, 6, 0), (11, 0, 0), (0, w + 1, 0)]) (p2 := 19) rfl rfl (Nat.mod_eq_of_lt (by omega)) rfl rfl ?_
    refine q_goto rfl ?_
    exact ih (w + 1) (by omega)
theorem zc_kw_6 {d n sl : Nat} {φ : FH} {tot : Nat} {at_ : Nat} {cur : Nat} {pl : Nat} {va : Nat} {fa : Nat} {fp : Nat} {sf : Nat} {sp : Nat} {no : Nat} {op : Nat} {K : Nat → Nat} {P : Nat → Nat} {V : Nat → Nat} (hT : zq_T φ tot at_ cur pl va fa fp sf sp no op K P V) : x_f x_P (d + 1) 220 [(6, 2, 0), (2, 6, 0), (11, 0, 0), (11, 0, 0)] φ n sl (x_r φ n sl (0, 1, 0)) := by
  refine x_f_of rfl ?_
  refine q_const (p2 := 1) rfl rfl ?_
  refine q_store (loc2 := [(6, 2, 0), (2, 6, 0), (11, 0, 0), (0, 0, 0)]) (p2 := 2) rfl rfl rfl rfl rfl ?_
  exact zc_kow_6 hT 50 0 rfl
theorem zc_kow_1703836604 {d n sl : Nat} {φ : FH} {tot : Nat} {at_ : Nat} {cur : Nat} {pl : Nat} {va : Nat} {fa : Nat} {fp : Nat} {sf : Nat} {sp : Nat} {no : Nat} {op : Nat} {K : Nat → Nat} {P : Nat → Nat} {V : Nat → Nat} (hT : zq_T φ tot at_ cur pl va fa fp sf sp no op K P V) (k : Nat) : ∀ w, w + k = 50 → x_n x_P d xc_220 2 [] [(6, 2, 0), (2, 1703836604, 0), (11, 0, 0), (0, w, 0)] φ n sl (x_r φ n sl (0, 1, 0)) := by
  induction k with
  | zero =>
    intro w hw
    have hw : w = 50 := hw
    subst hw
    refine q_load (v := (0, 50, 0)) (p2 := 3) rfl rfl rfl rfl ?_
    refine q_load (v := (6, 2, 0)) (p2 := 4) rfl rfl rfl rfl ?_
    refine q_getv (v := (6, 3, 0)) (p2 := 5) rfl hT.1 (by decide) rfl rfl ?_
    refine q_alen (p2 := 6) rfl hT.2.1 rfl (by omega) rfl ?_
    refine q_icmp_s (p2 := 7) rfl (by decide) (by omega) (by omega) rfl (fun _ => ?_) (fun hb => absurd (show ¬ (50 < 50) by omega) hb)
    refine q_const (p2 := 21) rfl rfl ?_
    exact q_retv (v := (0, 1, 0)) rfl rfl (⟨rfl, rfl, rfl, rfl, rfl⟩)
  | succ k ih =>
    intro w hw
    have hb := x_words_lt w
    have hne : x_words w ≠ 1703836604 := (show ∀ i, i < 50 → x_words i ≠ 1703836604 by decide +kernel) w (by omega)
    refine q_load (v := (0, w, 0)) (p2 := 3) rfl rfl rfl rfl ?_
    refine q_load (v := (6, 2, 0)) (p2 := 4) rfl rfl rfl rfl ?_
    refine q_getv (v := (6, 3, 0)) (p2 := 5) rfl hT.1 (by decide) rfl rfl ?_
    refine q_alen (p2 := 6) rfl hT.2.1 rfl (by omega) rfl ?_
    refine q_icmp_s (p2 := 7) rfl (by decide) (by omega) (by omega) rfl (fun hb => absurd hb (show ¬ (¬ (w < 50)) by omega)) (fun _ => ?_)
    refine q_load (v := (6, 2, 0)) (p2 := 8) rfl rfl rfl rfl ?_
    refine q_getv (v := (6, 3, 0)) (p2 := 9) rfl hT.1 (by decide) rfl rfl ?_
    refine q_load (v := (0, w, 0)) (p2 := 10) rfl rfl rfl rfl ?_
    refine q_aldT (tag := 2) (v := x_words w) (p2 := 11) rfl hT.2.1 (by omega) (by omega) rfl rfl ?_
    refine q_load (v := (2, 1703836604, 0)) (p2 := 12) rfl rfl rfl rfl ?_
    refine q_lcif (p2 := 14) rfl rfl (by decide) (by omega) (by omega) rfl (fun _ => ?_) (fun hb => absurd (show ¬ (x_words w = 1703836604) by omega) hb)
    refine q_iinc (z := w + 1) (loc2 := [(6, 2, 0), (2, 1703836604, 0), (11, 0, 0), (0, w + 1, 0)]) (p2 := 19) rfl rfl (Nat.mod_eq_of_lt (by omega)) rfl rfl ?_
    refine q_goto rfl ?_
    exact ih (w + 1) (by omega)
theorem zc_kw_1703836604 {d n sl : Nat} {φ : FH} {tot : Nat} {at_ : Nat} {cur : Nat} {pl : Nat} {va : Nat} {fa : Nat} {fp : Nat} {sf : Nat} {sp : Nat} {no : Nat} {op : Nat} {K : Nat → Nat} {P : Nat → Nat} {V : Nat → Nat} (hT : zq_T φ tot at_ cur pl va fa fp sf sp no op K P V) : x_f x_P (d + 1) 220 [(6, 2, 0), (2, 1703836604, 0), (11, 0, 0), (11, 0, 0)] φ n sl (x_r φ n sl (0, 1, 0)) := by
  refine x_f_of rfl ?_
  refine q_const (p2 := 1) rfl rfl ?_
  refine q_store (loc2 := [(6, 2, 0), (2, 1703836604, 0), (11, 0, 0), (0, 0, 0)]) (p2 := 2) rfl rfl rfl rfl rfl ?_
  exact zc_kow_1703836604 hT 50 0 rfl
theorem zc_kow_1 {d n sl : Nat} {φ : FH} {tot : Nat} {at_ : Nat} {cur : Nat} {pl : Nat} {va : Nat} {fa : Nat} {fp : Nat} {sf : Nat} {sp : Nat} {no : Nat} {op : Nat} {K : Nat → Nat} {P : Nat → Nat} {V : Nat → Nat} (hT : zq_T φ tot at_ cur pl va fa fp sf sp no op K P V) (k : Nat) : ∀ w, w + k = 50 → x_n x_P d xc_220 2 [] [(6, 2, 0), (2, 1, 0), (11, 0, 0), (0, w, 0)] φ n sl (x_r φ n sl (0, 1, 0)) := by
  induction k with
  | zero =>
    intro w hw
    have hw : w = 50 := hw
    subst hw
    refine q_load (v := (0, 50, 0)) (p2 := 3) rfl rfl rfl rfl ?_
    refine q_load (v := (6, 2, 0)) (p2 := 4) rfl rfl rfl rfl ?_
    refine q_getv (v := (6, 3, 0)) (p2 := 5) rfl hT.1 (by decide) rfl rfl ?_
    refine q_alen (p2 := 6) rfl hT.2.1 rfl (by omega) rfl ?_
    refine q_icmp_s (p2 := 7) rfl (by decide) (by omega) (by omega) rfl (fun _ => ?_) (fun hb => absurd (show ¬ (50 < 50) by omega) hb)
    refine q_const (p2 := 21) rfl rfl ?_
    exact q_retv (v := (0, 1, 0)) rfl rfl (⟨rfl, rfl, rfl, rfl, rfl⟩)
  | succ k ih =>
    intro w hw
    have hb := x_words_lt w
    have hne : x_words w ≠ 1 := (show ∀ i, i < 50 → x_words i ≠ 1 by decide +kernel) w (by omega)
    refine q_load (v := (0, w, 0)) (p2 := 3) rfl rfl rfl rfl ?_
    refine q_load (v := (6, 2, 0)) (p2 := 4) rfl rfl rfl rfl ?_
    refine q_getv (v := (6, 3, 0)) (p2 := 5) rfl hT.1 (by decide) rfl rfl ?_
    refine q_alen (p2 := 6) rfl hT.2.1 rfl (by omega) rfl ?_
    refine q_icmp_s (p2 := 7) rfl (by decide) (by omega) (by omega) rfl (fun hb => absurd hb (show ¬ (¬ (w < 50)) by omega)) (fun _ => ?_)
    refine q_load (v := (6, 2, 0)) (p2 := 8) rfl rfl rfl rfl ?_
    refine q_getv (v := (6, 3, 0)) (p2 := 9) rfl hT.1 (by decide) rfl rfl ?_
    refine q_load (v := (0, w, 0)) (p2 := 10) rfl rfl rfl rfl ?_
    refine q_aldT (tag := 2) (v := x_words w) (p2 := 11) rfl hT.2.1 (by omega) (by omega) rfl rfl ?_
    refine q_load (v := (2, 1, 0)) (p2 := 12) rfl rfl rfl rfl ?_
    refine q_lcif (p2 := 14) rfl rfl (by decide) (by omega) (by omega) rfl (fun _ => ?_) (fun hb => absurd (show ¬ (x_words w = 1) by omega) hb)
    refine q_iinc (z := w + 1) (loc2 := [(6, 2, 0), (2, 1, 0), (11, 0, 0), (0, w + 1, 0)]) (p2 := 19) rfl rfl (Nat.mod_eq_of_lt (by omega)) rfl rfl ?_
    refine q_goto rfl ?_
    exact ih (w + 1) (by omega)
theorem zc_kw_1 {d n sl : Nat} {φ : FH} {tot : Nat} {at_ : Nat} {cur : Nat} {pl : Nat} {va : Nat} {fa : Nat} {fp : Nat} {sf : Nat} {sp : Nat} {no : Nat} {op : Nat} {K : Nat → Nat} {P : Nat → Nat} {V : Nat → Nat} (hT : zq_T φ tot at_ cur pl va fa fp sf sp no op K P V) : x_f x_P (d + 1) 220 [(6, 2, 0), (2, 1, 0), (11, 0, 0), (11, 0, 0)] φ n sl (x_r φ n sl (0, 1, 0)) := by
  refine x_f_of rfl ?_
  refine q_const (p2 := 1) rfl rfl ?_
  refine q_store (loc2 := [(6, 2, 0), (2, 1, 0), (11, 0, 0), (0, 0, 0)]) (p2 := 2) rfl rfl rfl rfl rfl ?_
  exact zc_kow_1 hT 50 0 rfl
theorem zc_a_86_102 {d n sl : Nat} {φ : FH}    : x_f x_P (d + 1) 86 [(0, 102, 0)] φ n sl (x_r φ n sl (0, 6, 0)) := by
  refine x_f_of rfl ?_
  refine q_load (v := (0, 102, 0)) (p2 := 1) rfl rfl rfl rfl ?_
  refine q_const (p2 := 2) rfl rfl ?_
  refine q_icmp_s (p2 := 3) rfl (by decide) (by omega) (by omega) rfl (fun hb => absurd hb (show ¬ (102 < 97) by omega)) (fun _ => ?_)
  refine q_load (v := (0, 102, 0)) (p2 := 4) rfl rfl rfl rfl ?_
  refine q_const (p2 := 5) rfl rfl ?_
  refine q_icmp_s (p2 := 6) rfl (by decide) (by omega) (by omega) rfl (fun hb => absurd hb (show ¬ (122 < 102) by omega)) (fun _ => ?_)
  refine q_load (v := (0, 102, 0)) (p2 := 7) rfl rfl rfl rfl ?_
  refine q_const (p2 := 8) rfl rfl ?_
  refine q_iop (w := 102 + (4294967296 - 97 % 4294967296)) (z := 5) (p2 := 9) rfl (xo_sub 102 97) (by decide) rfl ?_
  refine q_const (p2 := 10) rfl rfl ?_
  refine q_iop (w := 5 + 1) (z := 6) (p2 := 11) rfl (xo_add 5 1) (by decide) rfl ?_
  exact q_retv (v := (0, 6, 0)) rfl rfl (⟨rfl, rfl, rfl, rfl, rfl⟩)
theorem zc_a_86_40 {d n sl : Nat} {φ : FH}    : x_f x_P (d + 1) 86 [(0, 40, 0)] φ n sl (x_r φ n sl (0, 0, 0)) := by
  refine x_f_of rfl ?_
  refine q_load (v := (0, 40, 0)) (p2 := 1) rfl rfl rfl rfl ?_
  refine q_const (p2 := 2) rfl rfl ?_
  refine q_icmp_s (p2 := 3) rfl (by decide) (by omega) (by omega) rfl (fun _ => ?_) (fun hb => absurd (show 40 < 97 by omega) hb)
  refine q_load (v := (0, 40, 0)) (p2 := 13) rfl rfl rfl rfl ?_
  refine q_const (p2 := 14) rfl rfl ?_
  refine q_icmp_s (p2 := 15) rfl (by decide) (by omega) (by omega) rfl (fun _ => ?_) (fun hb => absurd (show 40 < 48 by omega) hb)
  refine q_load (v := (0, 40, 0)) (p2 := 25) rfl rfl rfl rfl ?_
  refine q_const (p2 := 26) rfl rfl ?_
  refine q_icmp_s (p2 := 27) rfl (by decide) (by omega) (by omega) rfl (fun _ => ?_) (fun hb => absurd (show ¬ (40 = 95) by omega) hb)
  refine q_const (p2 := 30) rfl rfl ?_
  exact q_retv (v := (0, 0, 0)) rfl rfl (⟨rfl, rfl, rfl, rfl, rfl⟩)
theorem zc_swn_f {d n sl : Nat} {φ : FH} {tot : Nat} {at_ : Nat} {cur : Nat} {pl : Nat} {va : Nat} {fa : Nat} {fp : Nat} {sf : Nat} {sp : Nat} {no : Nat} {op : Nat} {K : Nat → Nat} {P : Nat → Nat} {V : Nat → Nat} {le : Nat} {tp : Nat → Nat} (hT : zq_T φ tot at_ cur pl va fa fp sf sp no op K P V) (hB : zq_tp φ tp) (hc0 : 1 < le ∧ le ≤ 3000) (hc1 : tot < 3002) (hc2 : tp 0 = 102) (hc3 : tp 1 = 40) : x_f x_P (d + 2) 142 [(6, 2, 0), (6, 1, 0), (0, le, 0), (0, 0, 0), (11, 0, 0), (11, 0, 0), (11, 0, 0), (11, 0, 0)] φ n sl (x_rR (0, 1, 0) n sl (fun φ2 => zq_T φ2 (tot + 1) at_ cur pl va fa fp sf sp no op (x_s K tot 1) (x_s P tot 0) (x_s V tot 6) ∧ ∀ j, j ≠ 2 → j ≠ 4 → j ≠ 5 → j ≠ 6 → φ2 j = φ j)) := by
  refine x_f_of rfl ?_
  refine q_const (p2 := 1) rfl rfl ?_
  refine q_store2 (loc2 := [(6, 2, 0), (6, 1, 0), (0, le, 0), (0, 0, 0), (2, 0, 0), (11, 0, 0), (11, 0, 0), (11, 0, 0)]) (p2 := 2) rfl rfl rfl rfl rfl ?_
  refine q_const (p2 := 3) rfl rfl ?_
  refine q_store (loc2 := [(6, 2, 0), (6, 1, 0), (0, le, 0), (0, 0, 0), (2, 0, 0), (11, 0, 0), (0, 0, 0), (11, 0, 0)]) (p2 := 4) rfl rfl rfl rfl rfl ?_
  refine q_load (v := (0, 0, 0)) (p2 := 5) rfl rfl rfl rfl ?_
  refine q_store (loc2 := [(6, 2, 0), (6, 1, 0), (0, le, 0), (0, 0, 0), (2, 0, 0), (11, 0, 0), (0, 0, 0), (0, 0, 0)]) (p2 := 6) rfl rfl rfl rfl rfl ?_
  refine q_load (v := (0, 0, 0)) (p2 := 7) rfl rfl rfl rfl ?_
  refine q_load (v := (0, le, 0)) (p2 := 8) rfl rfl rfl rfl ?_
  refine q_icmp_s (p2 := 9) rfl (by decide) (by omega) (by omega) rfl (fun hb => absurd hb (show ¬ (¬ (0 < le)) by omega)) (fun _ => ?_)
  refine q_load (v := (0, 0, 0)) (p2 := 10) rfl rfl rfl rfl ?_
  refine q_const (p2 := 11) rfl rfl ?_
  refine q_icmp_s (p2 := 12) rfl (by decide) (by omega) (by omega) rfl (fun hb => absurd hb (show ¬ (12 < 0) by omega)) (fun _ => ?_)
  refine q_load (v := (6, 1, 0)) (p2 := 13) rfl rfl rfl rfl ?_
  refine q_load (v := (0, 0, 0)) (p2 := 14) rfl rfl rfl rfl ?_
  refine q_aldT (tag := 0) (v := 102) (p2 := 15) rfl hB (by omega) (by omega) hc2 rfl ?_
  refine q_callr (xs := [(0, 102, 0)]) (p2 := 16) rfl rfl rfl rfl (fun _ _ => rfl) rfl (zc_a_86_102 ) (Nat.le_refl _) (Nat.le_refl _) rfl ?_
  refine q_if0_s (p2 := 17) rfl (by decide) (by omega) rfl (fun hb => absurd hb (show ¬ (¬ (0 < 6)) by omega)) (fun _ => ?_)
  refine q_load (v := (0, 0, 0)) (p2 := 18) rfl rfl rfl rfl ?_
  refine q_const (p2 := 19) rfl rfl ?_
  refine q_icmp_s (p2 := 20) rfl (by decide) (by omega) (by omega) rfl (fun hb => absurd hb (show ¬ (¬ (0 < 12)) by omega)) (fun _ => ?_)
  refine q_load (v := (2, 0, 0)) (p2 := 21) rfl rfl rfl rfl ?_
  refine q_const (p2 := 22) rfl rfl ?_
  refine q_lmulz (z := 0) (p2 := 23) rfl (by omega) (by omega) rfl ?_
  refine q_load (v := (6, 1, 0)) (p2 := 24) rfl rfl rfl rfl ?_
  refine q_load (v := (0, 0, 0)) (p2 := 25) rfl rfl rfl rfl ?_
  refine q_aldT (tag := 0) (v := 102) (p2 := 26) rfl hB (by omega) (by omega) hc2 rfl ?_
  refine q_callr (xs := [(0, 102, 0)]) (p2 := 27) rfl rfl rfl rfl (fun _ _ => rfl) rfl (zc_a_86_102 ) (Nat.le_refl _) (Nat.le_refl _) rfl ?_
  refine q_i2l (p2 := 28) rfl (by omega) rfl ?_
  refine q_laddz (z := 6) (p2 := 29) rfl (by omega) (by omega) rfl ?_
  refine q_store2 (loc2 := [(6, 2, 0), (6, 1, 0), (0, le, 0), (0, 0, 0), (2, 6, 0), (11, 0, 0), (0, 0, 0), (0, 0, 0)]) (p2 := 30) rfl rfl rfl rfl rfl ?_
  refine q_iinc (z := 1) (loc2 := [(6, 2, 0), (6, 1, 0), (0, le, 0), (0, 0, 0), (2, 6, 0), (11, 0, 0), (0, 1, 0), (0, 0, 0)]) (p2 := 31) rfl rfl (by decide) rfl rfl ?_
  refine q_iinc (z := 1) (loc2 := [(6, 2, 0), (6, 1, 0), (0, le, 0), (0, 0, 0), (2, 6, 0), (11, 0, 0), (0, 1, 0), (0, 1, 0)]) (p2 := 32) rfl rfl (by decide) rfl rfl ?_
  refine q_goto rfl ?_
  refine q_load (v := (0, 1, 0)) (p2 := 7) rfl rfl rfl rfl ?_
  refine q_load (v := (0, le, 0)) (p2 := 8) rfl rfl rfl rfl ?_
  refine q_icmp_s (p2 := 9) rfl (by decide) (by omega) (by omega) rfl (fun hb => absurd hb (show ¬ (¬ (1 < le)) by omega)) (fun _ => ?_)
  refine q_load (v := (0, 1, 0)) (p2 := 10) rfl rfl rfl rfl ?_
  refine q_const (p2 := 11) rfl rfl ?_
  refine q_icmp_s (p2 := 12) rfl (by decide) (by omega) (by omega) rfl (fun hb => absurd hb (show ¬ (12 < 1) by omega)) (fun _ => ?_)
  refine q_load (v := (6, 1, 0)) (p2 := 13) rfl rfl rfl rfl ?_
  refine q_load (v := (0, 1, 0)) (p2 := 14) rfl rfl rfl rfl ?_
  refine q_aldT (tag := 0) (v := 40) (p2 := 15) rfl hB (by omega) (by omega) hc3 rfl ?_
  refine q_callr (xs := [(0, 40, 0)]) (p2 := 16) rfl rfl rfl rfl (fun _ _ => rfl) rfl (zc_a_86_40 ) (Nat.le_refl _) (Nat.le_refl _) rfl ?_
  refine q_if0_s (p2 := 17) rfl (by decide) (by omega) rfl (fun _ => ?_) (fun hb => absurd (show ¬ (0 < 0) by omega) hb)
  refine q_load (v := (0, 1, 0)) (p2 := 34) rfl rfl rfl rfl ?_
  refine q_const (p2 := 35) rfl rfl ?_
  refine q_icmp_s (p2 := 36) rfl (by decide) (by omega) (by omega) rfl (fun _ => ?_) (fun hb => absurd (show ¬ (12 < 1) by omega) hb)
  refine q_load (v := (6, 2, 0)) (p2 := 39) rfl rfl rfl rfl ?_
  refine q_load (v := (6, 2, 0)) (p2 := 40) rfl rfl rfl rfl ?_
  refine q_load (v := (2, 6, 0)) (p2 := 41) rfl rfl rfl rfl ?_
  refine q_callr (xs := [(2, 6, 0), (6, 2, 0)]) (p2 := 42) rfl rfl rfl rfl (x_rcv_s 2 hT.1) rfl (zc_kw_6 hT) (Nat.le_refl _) (Nat.le_refl _) rfl ?_
  refine q_load (v := (0, 0, 0)) (p2 := 43) rfl rfl rfl rfl ?_
  refine q_load (v := (2, 6, 0)) (p2 := 44) rfl rfl rfl rfl ?_
  refine q_callvE (xs := [(2, 6, 0), (0, 0, 0), (0, 1, 0), (6, 2, 0)]) (p2 := 45) rfl rfl rfl rfl (x_rcv_s 2 hT.1) rfl (zc_t_add hT (by omega)) (Nat.le_refl _) (Nat.le_refl _) rfl (fun φ1 hR1 => ?_)
  obtain ⟨hs1_0, fr1⟩ := hR1
  refine q_load (v := (0, 1, 0)) (p2 := 46) rfl rfl rfl rfl ?_
  exact q_retv (v := (0, 1, 0)) rfl rfl (⟨rfl, rfl, rfl, rfl, hs1_0, fun j hj0 hj1 hj2 hj3 => (fr1 j (by omega) (by omega) (by omega) (by omega))⟩)
theorem zc_a_141_102 {d n sl : Nat} {φ : FH}    : x_f x_P (d + 1) 141 [(0, 102, 0)] φ n sl (x_r φ n sl (0, 1, 0)) := by
  refine x_f_of rfl ?_
  refine q_load (v := (0, 102, 0)) (p2 := 1) rfl rfl rfl rfl ?_
  refine q_const (p2 := 2) rfl rfl ?_
  refine q_icmp_s (p2 := 3) rfl (by decide) (by omega) (by omega) rfl (fun hb => absurd hb (show ¬ (102 < 97) by omega)) (fun _ => ?_)
  refine q_load (v := (0, 102, 0)) (p2 := 4) rfl rfl rfl rfl ?_
  refine q_const (p2 := 5) rfl rfl ?_
  refine q_icmp_s (p2 := 6) rfl (by decide) (by omega) (by omega) rfl (fun hb => absurd hb (show ¬ (122 < 102) by omega)) (fun _ => ?_)
  refine q_const (p2 := 7) rfl rfl ?_
  refine q_goto rfl ?_
  exact q_retv (v := (0, 1, 0)) rfl rfl (⟨rfl, rfl, rfl, rfl, rfl⟩)
theorem zc_swd_f {d n sl : Nat} {φ : FH} {tot : Nat} {at_ : Nat} {cur : Nat} {pl : Nat} {va : Nat} {fa : Nat} {fp : Nat} {sf : Nat} {sp : Nat} {no : Nat} {op : Nat} {K : Nat → Nat} {P : Nat → Nat} {V : Nat → Nat} {le : Nat} {tp : Nat → Nat} (hT : zq_T φ tot at_ cur pl va fa fp sf sp no op K P V) (hB : zq_tp φ tp) (hc0 : 1 < le ∧ le ≤ 3000) (hc1 : tot < 3002) (hc2 : tp 0 = 102) (hc3 : tp 1 = 40) : x_f x_P (d + 3) 88 [(6, 2, 0), (6, 1, 0), (0, le, 0), (0, 0, 0), (11, 0, 0), (11, 0, 0), (11, 0, 0)] φ n sl (x_rR (0, 1, 0) n sl (fun φ2 => zq_T φ2 (tot + 1) at_ cur pl va fa fp sf sp no op (x_s K tot 1) (x_s P tot 0) (x_s V tot 6) ∧ ∀ j, j ≠ 2 → j ≠ 4 → j ≠ 5 → j ≠ 6 → φ2 j = φ j)) := by
  refine x_f_of rfl ?_
  refine q_load (v := (6, 1, 0)) (p2 := 1) rfl rfl rfl rfl ?_
  refine q_load (v := (0, 0, 0)) (p2 := 2) rfl rfl rfl rfl ?_
  refine q_aldT (tag := 0) (v := 102) (p2 := 3) rfl hB (by omega) (by omega) hc2 rfl ?_
  refine q_callr (xs := [(0, 102, 0)]) (p2 := 4) rfl rfl rfl rfl (fun _ _ => rfl) rfl (zc_a_141_102 ) (Nat.le_refl _) (Nat.le_refl _) rfl ?_
  refine q_if0_s (p2 := 5) rfl (by decide) (by omega) rfl (fun hb => absurd hb (show ¬ (1 = 0) by omega)) (fun _ => ?_)
  refine q_load (v := (6, 2, 0)) (p2 := 6) rfl rfl rfl rfl ?_
  refine q_load (v := (6, 1, 0)) (p2 := 7) rfl rfl rfl rfl ?_
  refine q_load (v := (0, le, 0)) (p2 := 8) rfl rfl rfl rfl ?_
  refine q_load (v := (0, 0, 0)) (p2 := 9) rfl rfl rfl rfl ?_
  refine q_callrE (xs := [(0, 0, 0), (0, le, 0), (6, 1, 0), (6, 2, 0)]) (p2 := 10) rfl rfl rfl rfl (x_rcv_s 2 hT.1) rfl (zc_swn_f hT hB (by omega) (by omega) hc2 hc3) (Nat.le_refl _) (Nat.le_refl _) rfl (fun φ1 hR1 => ?_)
  obtain ⟨hs1_0, fr1⟩ := hR1
  exact q_retv (v := (0, 1, 0)) rfl rfl (⟨rfl, rfl, rfl, rfl, hs1_0, fun j hj0 hj1 hj2 hj3 => (fr1 j (by omega) (by omega) (by omega) (by omega))⟩)
theorem zc_a_86_117 {d n sl : Nat} {φ : FH}    : x_f x_P (d + 1) 86 [(0, 117, 0)] φ n sl (x_r φ n sl (0, 21, 0)) := by
  refine x_f_of rfl ?_
  refine q_load (v := (0, 117, 0)) (p2 := 1) rfl rfl rfl rfl ?_
  refine q_const (p2 := 2) rfl rfl ?_
  refine q_icmp_s (p2 := 3) rfl (by decide) (by omega) (by omega) rfl (fun hb => absurd hb (show ¬ (117 < 97) by omega)) (fun _ => ?_)
  refine q_load (v := (0, 117, 0)) (p2 := 4) rfl rfl rfl rfl ?_
  refine q_const (p2 := 5) rfl rfl ?_
  refine q_icmp_s (p2 := 6) rfl (by decide) (by omega) (by omega) rfl (fun hb => absurd hb (show ¬ (122 < 117) by omega)) (fun _ => ?_)
  refine q_load (v := (0, 117, 0)) (p2 := 7) rfl rfl rfl rfl ?_
  refine q_const (p2 := 8) rfl rfl ?_
  refine q_iop (w := 117 + (4294967296 - 97 % 4294967296)) (z := 20) (p2 := 9) rfl (xo_sub 117 97) (by decide) rfl ?_
  refine q_const (p2 := 10) rfl rfl ?_
  refine q_iop (w := 20 + 1) (z := 21) (p2 := 11) rfl (xo_add 20 1) (by decide) rfl ?_
  exact q_retv (v := (0, 21, 0)) rfl rfl (⟨rfl, rfl, rfl, rfl, rfl⟩)
theorem zc_a_86_115 {d n sl : Nat} {φ : FH}    : x_f x_P (d + 1) 86 [(0, 115, 0)] φ n sl (x_r φ n sl (0, 19, 0)) := by
  refine x_f_of rfl ?_
  refine q_load (v := (0, 115, 0)) (p2 := 1) rfl rfl rfl rfl ?_
  refine q_const (p2 := 2) rfl rfl ?_
  refine q_icmp_s (p2 := 3) rfl (by decide) (by omega) (by omega) rfl (fun hb => absurd hb (show ¬ (115 < 97) by omega)) (fun _ => ?_)
  refine q_load (v := (0, 115, 0)) (p2 := 4) rfl rfl rfl rfl ?_
  refine q_const (p2 := 5) rfl rfl ?_
  refine q_icmp_s (p2 := 6) rfl (by decide) (by omega) (by omega) rfl (fun hb => absurd hb (show ¬ (122 < 115) by omega)) (fun _ => ?_)
  refine q_load (v := (0, 115, 0)) (p2 := 7) rfl rfl rfl rfl ?_
  refine q_const (p2 := 8) rfl rfl ?_
  refine q_iop (w := 115 + (4294967296 - 97 % 4294967296)) (z := 18) (p2 := 9) rfl (xo_sub 115 97) (by decide) rfl ?_
  refine q_const (p2 := 10) rfl rfl ?_
  refine q_iop (w := 18 + 1) (z := 19) (p2 := 11) rfl (xo_add 18 1) (by decide) rfl ?_
  exact q_retv (v := (0, 19, 0)) rfl rfl (⟨rfl, rfl, rfl, rfl, rfl⟩)
theorem zc_a_86_101 {d n sl : Nat} {φ : FH}    : x_f x_P (d + 1) 86 [(0, 101, 0)] φ n sl (x_r φ n sl (0, 5, 0)) := by
  refine x_f_of rfl ?_
  refine q_load (v := (0, 101, 0)) (p2 := 1) rfl rfl rfl rfl ?_
  refine q_const (p2 := 2) rfl rfl ?_
  refine q_icmp_s (p2 := 3) rfl (by decide) (by omega) (by omega) rfl (fun hb => absurd hb (show ¬ (101 < 97) by omega)) (fun _ => ?_)
  refine q_load (v := (0, 101, 0)) (p2 := 4) rfl rfl rfl rfl ?_
  refine q_const (p2 := 5) rfl rfl ?_
  refine q_icmp_s (p2 := 6) rfl (by decide) (by omega) (by omega) rfl (fun hb => absurd hb (show ¬ (122 < 101) by omega)) (fun _ => ?_)
  refine q_load (v := (0, 101, 0)) (p2 := 7) rfl rfl rfl rfl ?_
  refine q_const (p2 := 8) rfl rfl ?_
  refine q_iop (w := 101 + (4294967296 - 97 % 4294967296)) (z := 4) (p2 := 9) rfl (xo_sub 101 97) (by decide) rfl ?_
  refine q_const (p2 := 10) rfl rfl ?_
  refine q_iop (w := 4 + 1) (z := 5) (p2 := 11) rfl (xo_add 4 1) (by decide) rfl ?_
  exact q_retv (v := (0, 5, 0)) rfl rfl (⟨rfl, rfl, rfl, rfl, rfl⟩)
theorem zc_a_86_100 {d n sl : Nat} {φ : FH}    : x_f x_P (d + 1) 86 [(0, 100, 0)] φ n sl (x_r φ n sl (0, 4, 0)) := by
  refine x_f_of rfl ?_
  refine q_load (v := (0, 100, 0)) (p2 := 1) rfl rfl rfl rfl ?_
  refine q_const (p2 := 2) rfl rfl ?_
  refine q_icmp_s (p2 := 3) rfl (by decide) (by omega) (by omega) rfl (fun hb => absurd hb (show ¬ (100 < 97) by omega)) (fun _ => ?_)
  refine q_load (v := (0, 100, 0)) (p2 := 4) rfl rfl rfl rfl ?_
  refine q_const (p2 := 5) rfl rfl ?_
  refine q_icmp_s (p2 := 6) rfl (by decide) (by omega) (by omega) rfl (fun hb => absurd hb (show ¬ (122 < 100) by omega)) (fun _ => ?_)
  refine q_load (v := (0, 100, 0)) (p2 := 7) rfl rfl rfl rfl ?_
  refine q_const (p2 := 8) rfl rfl ?_
  refine q_iop (w := 100 + (4294967296 - 97 % 4294967296)) (z := 3) (p2 := 9) rfl (xo_sub 100 97) (by decide) rfl ?_
  refine q_const (p2 := 10) rfl rfl ?_
  refine q_iop (w := 3 + 1) (z := 4) (p2 := 11) rfl (xo_add 3 1) (by decide) rfl ?_
  exact q_retv (v := (0, 4, 0)) rfl rfl (⟨rfl, rfl, rfl, rfl, rfl⟩)
theorem zc_a_86_105 {d n sl : Nat} {φ : FH}    : x_f x_P (d + 1) 86 [(0, 105, 0)] φ n sl (x_r φ n sl (0, 9, 0)) := by
  refine x_f_of rfl ?_
  refine q_load (v := (0, 105, 0)) (p2 := 1) rfl rfl rfl rfl ?_
  refine q_const (p2 := 2) rfl rfl ?_
  refine q_icmp_s (p2 := 3) rfl (by decide) (by omega) (by omega) rfl (fun hb => absurd hb (show ¬ (105 < 97) by omega)) (fun _ => ?_)
  refine q_load (v := (0, 105, 0)) (p2 := 4) rfl rfl rfl rfl ?_
  refine q_const (p2 := 5) rfl rfl ?_
  refine q_icmp_s (p2 := 6) rfl (by decide) (by omega) (by omega) rfl (fun hb => absurd hb (show ¬ (122 < 105) by omega)) (fun _ => ?_)
  refine q_load (v := (0, 105, 0)) (p2 := 7) rfl rfl rfl rfl ?_
  refine q_const (p2 := 8) rfl rfl ?_
  refine q_iop (w := 105 + (4294967296 - 97 % 4294967296)) (z := 8) (p2 := 9) rfl (xo_sub 105 97) (by decide) rfl ?_
  refine q_const (p2 := 10) rfl rfl ?_
  refine q_iop (w := 8 + 1) (z := 9) (p2 := 11) rfl (xo_add 8 1) (by decide) rfl ?_
  exact q_retv (v := (0, 9, 0)) rfl rfl (⟨rfl, rfl, rfl, rfl, rfl⟩)
theorem zc_a_86_110 {d n sl : Nat} {φ : FH}    : x_f x_P (d + 1) 86 [(0, 110, 0)] φ n sl (x_r φ n sl (0, 14, 0)) := by
  refine x_f_of rfl ?_
  refine q_load (v := (0, 110, 0)) (p2 := 1) rfl rfl rfl rfl ?_
  refine q_const (p2 := 2) rfl rfl ?_
  refine q_icmp_s (p2 := 3) rfl (by decide) (by omega) (by omega) rfl (fun hb => absurd hb (show ¬ (110 < 97) by omega)) (fun _ => ?_)
  refine q_load (v := (0, 110, 0)) (p2 := 4) rfl rfl rfl rfl ?_
  refine q_const (p2 := 5) rfl rfl ?_
  refine q_icmp_s (p2 := 6) rfl (by decide) (by omega) (by omega) rfl (fun hb => absurd hb (show ¬ (122 < 110) by omega)) (fun _ => ?_)
  refine q_load (v := (0, 110, 0)) (p2 := 7) rfl rfl rfl rfl ?_
  refine q_const (p2 := 8) rfl rfl ?_
  refine q_iop (w := 110 + (4294967296 - 97 % 4294967296)) (z := 13) (p2 := 9) rfl (xo_sub 110 97) (by decide) rfl ?_
  refine q_const (p2 := 10) rfl rfl ?_
  refine q_iop (w := 13 + 1) (z := 14) (p2 := 11) rfl (xo_add 13 1) (by decide) rfl ?_
  exact q_retv (v := (0, 14, 0)) rfl rfl (⟨rfl, rfl, rfl, rfl, rfl⟩)
theorem zc_swn_usedin {d n sl : Nat} {φ : FH} {tot : Nat} {at_ : Nat} {cur : Nat} {pl : Nat} {va : Nat} {fa : Nat} {fp : Nat} {sf : Nat} {sp : Nat} {no : Nat} {op : Nat} {K : Nat → Nat} {P : Nat → Nat} {V : Nat → Nat} {le : Nat} {tp : Nat → Nat} (hT : zq_T φ tot at_ cur pl va fa fp sf sp no op K P V) (hB : zq_tp φ tp) (hc0 : 6 < le ∧ le ≤ 3000) (hc1 : tot < 3002) (hc2 : tp 0 = 117) (hc3 : tp 1 = 115) (hc4 : tp 2 = 101) (hc5 : tp 3 = 100) (hc6 : tp 4 = 105) (hc7 : tp 5 = 110) (hc8 : tp 6 = 40) : x_f x_P (d + 2) 142 [(6, 2, 0), (6, 1, 0), (0, le, 0), (0, 0, 0), (11, 0, 0), (11, 0, 0), (11, 0, 0), (11, 0, 0)] φ n sl (x_rR (0, 6, 0) n sl (fun φ2 => zq_T φ2 (tot + 1) at_ cur pl va fa fp sf sp no op (x_s K tot 1) (x_s P tot 0) (x_s V tot 1703836604) ∧ ∀ j, j ≠ 2 → j ≠ 4 → j ≠ 5 → j ≠ 6 → φ2 j = φ j)) := by
  refine x_f_of rfl ?_
  refine q_const (p2 := 1) rfl rfl ?_
  refine q_store2 (loc2 := [(6, 2, 0), (6, 1, 0), (0, le, 0), (0, 0, 0), (2, 0, 0), (11, 0, 0), (11, 0, 0), (11, 0, 0)]) (p2 := 2) rfl rfl rfl rfl rfl ?_
  refine q_const (p2 := 3) rfl rfl ?_
  refine q_store (loc2 := [(6, 2, 0), (6, 1, 0), (0, le, 0), (0, 0, 0), (2, 0, 0), (11, 0, 0), (0, 0, 0), (11, 0, 0)]) (p2 := 4) rfl rfl rfl rfl rfl ?_
  refine q_load (v := (0, 0, 0)) (p2 := 5) rfl rfl rfl rfl ?_
  refine q_store (loc2 := [(6, 2, 0), (6, 1, 0), (0, le, 0), (0, 0, 0), (2, 0, 0), (11, 0, 0), (0, 0, 0), (0, 0, 0)]) (p2 := 6) rfl rfl rfl rfl rfl ?_
  refine q_load (v := (0, 0, 0)) (p2 := 7) rfl rfl rfl rfl ?_
  refine q_load (v := (0, le, 0)) (p2 := 8) rfl rfl rfl rfl ?_
  refine q_icmp_s (p2 := 9) rfl (by decide) (by omega) (by omega) rfl (fun hb => absurd hb (show ¬ (¬ (0 < le)) by omega)) (fun _ => ?_)
  refine q_load (v := (0, 0, 0)) (p2 := 10) rfl rfl rfl rfl ?_
  refine q_const (p2 := 11) rfl rfl ?_
  refine q_icmp_s (p2 := 12) rfl (by decide) (by omega) (by omega) rfl (fun hb => absurd hb (show ¬ (12 < 0) by omega)) (fun _ => ?_)
  refine q_load (v := (6, 1, 0)) (p2 := 13) rfl rfl rfl rfl ?_
  refine q_load (v := (0, 0, 0)) (p2 := 14) rfl rfl rfl rfl ?_
  refine q_aldT (tag := 0) (v := 117) (p2 := 15) rfl hB (by omega) (by omega) hc2 rfl ?_
  refine q_callr (xs := [(0, 117, 0)]) (p2 := 16) rfl rfl rfl rfl (fun _ _ => rfl) rfl (zc_a_86_117 ) (Nat.le_refl _) (Nat.le_refl _) rfl ?_
  refine q_if0_s (p2 := 17) rfl (by decide) (by omega) rfl (fun hb => absurd hb (show ¬ (¬ (0 < 21)) by omega)) (fun _ => ?_)
  refine q_load (v := (0, 0, 0)) (p2 := 18) rfl rfl rfl rfl ?_
  refine q_const (p2 := 19) rfl rfl ?_
  refine q_icmp_s (p2 := 20) rfl (by decide) (by omega) (by omega) rfl (fun hb => absurd hb (show ¬ (¬ (0 < 12)) by omega)) (fun _ => ?_)
  refine q_load (v := (2, 0, 0)) (p2 := 21) rfl rfl rfl rfl ?_
  refine q_const (p2 := 22) rfl rfl ?_
  refine q_lmulz (z := 0) (p2 := 23) rfl (by omega) (by omega) rfl ?_
  refine q_load (v := (6, 1, 0)) (p2 := 24) rfl rfl rfl rfl ?_
  refine q_load (v := (0, 0, 0)) (p2 := 25) rfl rfl rfl rfl ?_
  refine q_aldT (tag := 0) (v := 117) (p2 := 26) rfl hB (by omega) (by omega) hc2 rfl ?_
  refine q_callr (xs := [(0, 117, 0)]) (p2 := 27) rfl rfl rfl rfl (fun _ _ => rfl) rfl (zc_a_86_117 ) (Nat.le_refl _) (Nat.le_refl _) rfl ?_
  refine q_i2l (p2 := 28) rfl (by omega) rfl ?_
  refine q_laddz (z := 21) (p2 := 29) rfl (by omega) (by omega) rfl ?_
  refine q_store2 (loc2 := [(6, 2, 0), (6, 1, 0), (0, le, 0), (0, 0, 0), (2, 21, 0), (11, 0, 0), (0, 0, 0), (0, 0, 0)]) (p2 := 30) rfl rfl rfl rfl rfl ?_
  refine q_iinc (z := 1) (loc2 := [(6, 2, 0), (6, 1, 0), (0, le, 0), (0, 0, 0), (2, 21, 0), (11, 0, 0), (0, 1, 0), (0, 0, 0)]) (p2 := 31) rfl rfl (by decide) rfl rfl ?_
  refine q_iinc (z := 1) (loc2 := [(6, 2, 0), (6, 1, 0), (0, le, 0), (0, 0, 0), (2, 21, 0), (11, 0, 0), (0, 1, 0), (0, 1, 0)]) (p2 := 32) rfl rfl (by decide) rfl rfl ?_
  refine q_goto rfl ?_
  refine q_load (v := (0, 1, 0)) (p2 := 7) rfl rfl rfl rfl ?_
  refine q_load (v := (0, le, 0)) (p2 := 8) rfl rfl rfl rfl ?_
  refine q_icmp_s (p2 := 9) rfl (by decide) (by omega) (by omega) rfl (fun hb => absurd hb (show ¬ (¬ (1 < le)) by omega)) (fun _ => ?_)
  refine q_load (v := (0, 1, 0)) (p2 := 10) rfl rfl rfl rfl ?_
  refine q_const (p2 := 11) rfl rfl ?_
  refine q_icmp_s (p2 := 12) rfl (by decide) (by omega) (by omega) rfl (fun hb => absurd hb (show ¬ (12 < 1) by omega)) (fun _ => ?_)
  refine q_load (v := (6, 1, 0)) (p2 := 13) rfl rfl rfl rfl ?_
  refine q_load (v := (0, 1, 0)) (p2 := 14) rfl rfl rfl rfl ?_
  refine q_aldT (tag := 0) (v := 115) (p2 := 15) rfl hB (by omega) (by omega) hc3 rfl ?_
  refine q_callr (xs := [(0, 115, 0)]) (p2 := 16) rfl rfl rfl rfl (fun _ _ => rfl) rfl (zc_a_86_115 ) (Nat.le_refl _) (Nat.le_refl _) rfl ?_
  refine q_if0_s (p2 := 17) rfl (by decide) (by omega) rfl (fun hb => absurd hb (show ¬ (¬ (0 < 19)) by omega)) (fun _ => ?_)
  refine q_load (v := (0, 1, 0)) (p2 := 18) rfl rfl rfl rfl ?_
  refine q_const (p2 := 19) rfl rfl ?_
  refine q_icmp_s (p2 := 20) rfl (by decide) (by omega) (by omega) rfl (fun hb => absurd hb (show ¬ (¬ (1 < 12)) by omega)) (fun _ => ?_)
  refine q_load (v := (2, 21, 0)) (p2 := 21) rfl rfl rfl rfl ?_
  refine q_const (p2 := 22) rfl rfl ?_
  refine q_lmulz (z := 798) (p2 := 23) rfl (by omega) (by omega) rfl ?_
  refine q_load (v := (6, 1, 0)) (p2 := 24) rfl rfl rfl rfl ?_
  refine q_load (v := (0, 1, 0)) (p2 := 25) rfl rfl rfl rfl ?_
  refine q_aldT (tag := 0) (v := 115) (p2 := 26) rfl hB (by omega) (by omega) hc3 rfl ?_
  refine q_callr (xs := [(0, 115, 0)]) (p2 := 27) rfl rfl rfl rfl (fun _ _ => rfl) rfl (zc_a_86_115 ) (Nat.le_refl _) (Nat.le_refl _) rfl ?_
  refine q_i2l (p2 := 28) rfl (by omega) rfl ?_
  refine q_laddz (z := 817) (p2 := 29) rfl (by omega) (by omega) rfl ?_
  refine q_store2 (loc2 := [(6, 2, 0), (6, 1, 0), (0, le, 0), (0, 0, 0), (2, 817, 0), (11, 0, 0), (0, 1, 0), (0, 1, 0)]) (p2 := 30) rfl rfl rfl rfl rfl ?_
  refine q_iinc (z := 2) (loc2 := [(6, 2, 0), (6, 1, 0), (0, le, 0), (0, 0, 0), (2, 817, 0), (11, 0, 0), (0, 2, 0), (0, 1, 0)]) (p2 := 31) rfl rfl (by decide) rfl rfl ?_
  refine q_iinc (z := 2) (loc2 := [(6, 2, 0), (6, 1, 0), (0, le, 0), (0, 0, 0), (2, 817, 0), (11, 0, 0), (0, 2, 0), (0, 2, 0)]) (p2 := 32) rfl rfl (by decide) rfl rfl ?_
  refine q_goto rfl ?_
  refine q_load (v := (0, 2, 0)) (p2 := 7) rfl rfl rfl rfl ?_
  refine q_load (v := (0, le, 0)) (p2 := 8) rfl rfl rfl rfl ?_
  refine q_icmp_s (p2 := 9) rfl (by decide) (by omega) (by omega) rfl (fun hb => absurd hb (show ¬ (¬ (2 < le)) by omega)) (fun _ => ?_)
  refine q_load (v := (0, 2, 0)) (p2 := 10) rfl rfl rfl rfl ?_
  refine q_const (p2 := 11) rfl rfl ?_
  refine q_icmp_s (p2 := 12) rfl (by decide) (by omega) (by omega) rfl (fun hb => absurd hb (show ¬ (12 < 2) by omega)) (fun _ => ?_)
  refine q_load (v := (6, 1, 0)) (p2 := 13) rfl rfl rfl rfl ?_
  refine q_load (v := (0, 2, 0)) (p2 := 14) rfl rfl rfl rfl ?_
  refine q_aldT (tag := 0) (v := 101) (p2 := 15) rfl hB (by omega) (by omega) hc4 rfl ?_
  refine q_callr (xs := [(0, 101, 0)]) (p2 := 16) rfl rfl rfl rfl (fun _ _ => rfl) rfl (zc_a_86_101 ) (Nat.le_refl _) (Nat.le_refl _) rfl ?_
  refine q_if0_s (p2 := 17) rfl (by decide) (by omega) rfl (fun hb => absurd hb (show ¬ (¬ (0 < 5)) by omega)) (fun _ => ?_)
  refine q_load (v := (0, 2, 0)) (p2 := 18) rfl rfl rfl rfl ?_
  refine q_const (p2 := 19) rfl rfl ?_
  refine q_icmp_s (p2 := 20) rfl (by decide) (by omega) (by omega) rfl (fun hb => absurd hb (show ¬ (¬ (2 < 12)) by omega)) (fun _ => ?_)
  refine q_load (v := (2, 817, 0)) (p2 := 21) rfl rfl rfl rfl ?_
  refine q_const (p2 := 22) rfl rfl ?_
  refine q_lmulz (z := 31046) (p2 := 23) rfl (by omega) (by omega) rfl ?_
  refine q_load (v := (6, 1, 0)) (p2 := 24) rfl rfl rfl rfl ?_
  refine q_load (v := (0, 2, 0)) (p2 := 25) rfl rfl rfl rfl ?_
  refine q_aldT (tag := 0) (v := 101) (p2 := 26) rfl hB (by omega) (by omega) hc4 rfl ?_
  refine q_callr (xs := [(0, 101, 0)]) (p2 := 27) rfl rfl rfl rfl (fun _ _ => rfl) rfl (zc_a_86_101 ) (Nat.le_refl _) (Nat.le_refl _) rfl ?_
  refine q_i2l (p2 := 28) rfl (by omega) rfl ?_
  refine q_laddz (z := 31051) (p2 := 29) rfl (by omega) (by omega) rfl ?_
  refine q_store2 (loc2 := [(6, 2, 0), (6, 1, 0), (0, le, 0), (0, 0, 0), (2, 31051, 0), (11, 0, 0), (0, 2, 0), (0, 2, 0)]) (p2 := 30) rfl rfl rfl rfl rfl ?_
  refine q_iinc (z := 3) (loc2 := [(6, 2, 0), (6, 1, 0), (0, le, 0), (0, 0, 0), (2, 31051, 0), (11, 0, 0), (0, 3, 0), (0, 2, 0)]) (p2 := 31) rfl rfl (by decide) rfl rfl ?_
  refine q_iinc (z := 3) (loc2 := [(6, 2, 0), (6, 1, 0), (0, le, 0), (0, 0, 0), (2, 31051, 0), (11, 0, 0), (0, 3, 0), (0, 3, 0)]) (p2 := 32) rfl rfl (by decide) rfl rfl ?_
  refine q_goto rfl ?_
  refine q_load (v := (0, 3, 0)) (p2 := 7) rfl rfl rfl rfl ?_
  refine q_load (v := (0, le, 0)) (p2 := 8) rfl rfl rfl rfl ?_
  refine q_icmp_s (p2 := 9) rfl (by decide) (by omega) (by omega) rfl (fun hb => absurd hb (show ¬ (¬ (3 < le)) by omega)) (fun _ => ?_)
  refine q_load (v := (0, 3, 0)) (p2 := 10) rfl rfl rfl rfl ?_
  refine q_const (p2 := 11) rfl rfl ?_
  refine q_icmp_s (p2 := 12) rfl (by decide) (by omega) (by omega) rfl (fun hb => absurd hb (show ¬ (12 < 3) by omega)) (fun _ => ?_)
  refine q_load (v := (6, 1, 0)) (p2 := 13) rfl rfl rfl rfl ?_
  refine q_load (v := (0, 3, 0)) (p2 := 14) rfl rfl rfl rfl ?_
  refine q_aldT (tag := 0) (v := 100) (p2 := 15) rfl hB (by omega) (by omega) hc5 rfl ?_
  refine q_callr (xs := [(0, 100, 0)]) (p2 := 16) rfl rfl rfl rfl (fun _ _ => rfl) rfl (zc_a_86_100 ) (Nat.le_refl _) (Nat.le_refl _) rfl ?_
  refine q_if0_s (p2 := 17) rfl (by decide) (by omega) rfl (fun hb => absurd hb (show ¬ (¬ (0 < 4)) by omega)) (fun _ => ?_)
  refine q_load (v := (0, 3, 0)) (p2 := 18) rfl rfl rfl rfl ?_
  refine q_const (p2 := 19) rfl rfl ?_
  refine q_icmp_s (p2 := 20) rfl (by decide) (by omega) (by omega) rfl (fun hb => absurd hb (show ¬ (¬ (3 < 12)) by omega)) (fun _ => ?_)
  refine q_load (v := (2, 31051, 0)) (p2 := 21) rfl rfl rfl rfl ?_
  refine q_const (p2 := 22) rfl rfl ?_
  refine q_lmulz (z := 1179938) (p2 := 23) rfl (by omega) (by omega) rfl ?_
  refine q_load (v := (6, 1, 0)) (p2 := 24) rfl rfl rfl rfl ?_
  refine q_load (v := (0, 3, 0)) (p2 := 25) rfl rfl rfl rfl ?_
  refine q_aldT (tag := 0) (v := 100) (p2 := 26) rfl hB (by omega) (by omega) hc5 rfl ?_
  refine q_callr (xs := [(0, 100, 0)]) (p2 := 27) rfl rfl rfl rfl (fun _ _ => rfl) rfl (zc_a_86_100 ) (Nat.le_refl _) (Nat.le_refl _) rfl ?_
  refine q_i2l (p2 := 28) rfl (by omega) rfl ?_
  refine q_laddz (z := 1179942) (p2 := 29) rfl (by omega) (by omega) rfl ?_
  refine q_store2 (loc2 := [(6, 2, 0), (6, 1, 0), (0, le, 0), (0, 0, 0), (2, 1179942, 0), (11, 0, 0), (0, 3, 0), (0, 3, 0)]) (p2 := 30) rfl rfl rfl rfl rfl ?_
  refine q_iinc (z := 4) (loc2 := [(6, 2, 0), (6, 1, 0), (0, le, 0), (0, 0, 0), (2, 1179942, 0), (11, 0, 0), (0, 4, 0), (0, 3, 0)]) (p2 := 31) rfl rfl (by decide) rfl rfl ?_
  refine q_iinc (z := 4) (loc2 := [(6, 2, 0), (6, 1, 0), (0, le, 0), (0, 0, 0), (2, 1179942, 0), (11, 0, 0), (0, 4, 0), (0, 4, 0)]) (p2 := 32) rfl rfl (by decide) rfl rfl ?_
  refine q_goto rfl ?_
  refine q_load (v := (0, 4, 0)) (p2 := 7) rfl rfl rfl rfl ?_
  refine q_load (v := (0, le, 0)) (p2 := 8) rfl rfl rfl rfl ?_
  refine q_icmp_s (p2 := 9) rfl (by decide) (by omega) (by omega) rfl (fun hb => absurd hb (show ¬ (¬ (4 < le)) by omega)) (fun _ => ?_)
  refine q_load (v := (0, 4, 0)) (p2 := 10) rfl rfl rfl rfl ?_
  refine q_const (p2 := 11) rfl rfl ?_
  refine q_icmp_s (p2 := 12) rfl (by decide) (by omega) (by omega) rfl (fun hb => absurd hb (show ¬ (12 < 4) by omega)) (fun _ => ?_)
  refine q_load (v := (6, 1, 0)) (p2 := 13) rfl rfl rfl rfl ?_
  refine q_load (v := (0, 4, 0)) (p2 := 14) rfl rfl rfl rfl ?_
  refine q_aldT (tag := 0) (v := 105) (p2 := 15) rfl hB (by omega) (by omega) hc6 rfl ?_
  refine q_callr (xs := [(0, 105, 0)]) (p2 := 16) rfl rfl rfl rfl (fun _ _ => rfl) rfl (zc_a_86_105 ) (Nat.le_refl _) (Nat.le_refl _) rfl ?_
  refine q_if0_s (p2 := 17) rfl (by decide) (by omega) rfl (fun hb => absurd hb (show ¬ (¬ (0 < 9)) by omega)) (fun _ => ?_)
  refine q_load (v := (0, 4, 0)) (p2 := 18) rfl rfl rfl rfl ?_
  refine q_const (p2 := 19) rfl rfl ?_
  refine q_icmp_s (p2 := 20) rfl (by decide) (by omega) (by omega) rfl (fun hb => absurd hb (show ¬ (¬ (4 < 12)) by omega)) (fun _ => ?_)
  refine q_load (v := (2, 1179942, 0)) (p2 := 21) rfl rfl rfl rfl ?_
  refine q_const (p2 := 22) rfl rfl ?_
  refine q_lmulz (z := 44837796) (p2 := 23) rfl (by omega) (by omega) rfl ?_
  refine q_load (v := (6, 1, 0)) (p2 := 24) rfl rfl rfl rfl ?_
  refine q_load (v := (0, 4, 0)) (p2 := 25) rfl rfl rfl rfl ?_
  refine q_aldT (tag := 0) (v := 105) (p2 := 26) rfl hB (by omega) (by omega) hc6 rfl ?_
  refine q_callr (xs := [(0, 105, 0)]) (p2 := 27) rfl rfl rfl rfl (fun _ _ => rfl) rfl (zc_a_86_105 ) (Nat.le_refl _) (Nat.le_refl _) rfl ?_
  refine q_i2l (p2 := 28) rfl (by omega) rfl ?_
  refine q_laddz (z := 44837805) (p2 := 29) rfl (by omega) (by omega) rfl ?_
  refine q_store2 (loc2 := [(6, 2, 0), (6, 1, 0), (0, le, 0), (0, 0, 0), (2, 44837805, 0), (11, 0, 0), (0, 4, 0), (0, 4, 0)]) (p2 := 30) rfl rfl rfl rfl rfl ?_
  refine q_iinc (z := 5) (loc2 := [(6, 2, 0), (6, 1, 0), (0, le, 0), (0, 0, 0), (2, 44837805, 0), (11, 0, 0), (0, 5, 0), (0, 4, 0)]) (p2 := 31) rfl rfl (by decide) rfl rfl ?_
  refine q_iinc (z := 5) (loc2 := [(6, 2, 0), (6, 1, 0), (0, le, 0), (0, 0, 0), (2, 44837805, 0), (11, 0, 0), (0, 5, 0), (0, 5, 0)]) (p2 := 32) rfl rfl (by decide) rfl rfl ?_
  refine q_goto rfl ?_
  refine q_load (v := (0, 5, 0)) (p2 := 7) rfl rfl rfl rfl ?_
  refine q_load (v := (0, le, 0)) (p2 := 8) rfl rfl rfl rfl ?_
  refine q_icmp_s (p2 := 9) rfl (by decide) (by omega) (by omega) rfl (fun hb => absurd hb (show ¬ (¬ (5 < le)) by omega)) (fun _ => ?_)
  refine q_load (v := (0, 5, 0)) (p2 := 10) rfl rfl rfl rfl ?_
  refine q_const (p2 := 11) rfl rfl ?_
  refine q_icmp_s (p2 := 12) rfl (by decide) (by omega) (by omega) rfl (fun hb => absurd hb (show ¬ (12 < 5) by omega)) (fun _ => ?_)
  refine q_load (v := (6, 1, 0)) (p2 := 13) rfl rfl rfl rfl ?_
  refine q_load (v := (0, 5, 0)) (p2 := 14) rfl rfl rfl rfl ?_
  refine q_aldT (tag := 0) (v := 110) (p2 := 15) rfl hB (by omega) (by omega) hc7 rfl ?_
  refine q_callr (xs := [(0, 110, 0)]) (p2 := 16) rfl rfl rfl rfl (fun _ _ => rfl) rfl (zc_a_86_110 ) (Nat.le_refl _) (Nat.le_refl _) rfl ?_
  refine q_if0_s (p2 := 17) rfl (by decide) (by omega) rfl (fun hb => absurd hb (show ¬ (¬ (0 < 14)) by omega)) (fun _ => ?_)
  refine q_load (v := (0, 5, 0)) (p2 := 18) rfl rfl rfl rfl ?_
  refine q_const (p2 := 19) rfl rfl ?_
  refine q_icmp_s (p2 := 20) rfl (by decide) (by omega) (by omega) rfl (fun hb => absurd hb (show ¬ (¬ (5 < 12)) by omega)) (fun _ => ?_)
  refine q_load (v := (2, 44837805, 0)) (p2 := 21) rfl rfl rfl rfl ?_
  refine q_const (p2 := 22) rfl rfl ?_
  refine q_lmulz (z := 1703836590) (p2 := 23) rfl (by omega) (by omega) rfl ?_
  refine q_load (v := (6, 1, 0)) (p2 := 24) rfl rfl rfl rfl ?_
  refine q_load (v := (0, 5, 0)) (p2 := 25) rfl rfl rfl rfl ?_
  refine q_aldT (tag := 0) (v := 110) (p2 := 26) rfl hB (by omega) (by omega) hc7 rfl ?_
  refine q_callr (xs := [(0, 110, 0)]) (p2 := 27) rfl rfl rfl rfl (fun _ _ => rfl) rfl (zc_a_86_110 ) (Nat.le_refl _) (Nat.le_refl _) rfl ?_
  refine q_i2l (p2 := 28) rfl (by omega) rfl ?_
  refine q_laddz (z := 1703836604) (p2 := 29) rfl (by omega) (by omega) rfl ?_
  refine q_store2 (loc2 := [(6, 2, 0), (6, 1, 0), (0, le, 0), (0, 0, 0), (2, 1703836604, 0), (11, 0, 0), (0, 5, 0), (0, 5, 0)]) (p2 := 30) rfl rfl rfl rfl rfl ?_
  refine q_iinc (z := 6) (loc2 := [(6, 2, 0), (6, 1, 0), (0, le, 0), (0, 0, 0), (2, 1703836604, 0), (11, 0, 0), (0, 6, 0), (0, 5, 0)]) (p2 := 31) rfl rfl (by decide) rfl rfl ?_
  refine q_iinc (z := 6) (loc2 := [(6, 2, 0), (6, 1, 0), (0, le, 0), (0, 0, 0), (2, 1703836604, 0), (11, 0, 0), (0, 6, 0), (0, 6, 0)]) (p2 := 32) rfl rfl (by decide) rfl rfl ?_
  refine q_goto rfl ?_
  refine q_load (v := (0, 6, 0)) (p2 := 7) rfl rfl rfl rfl ?_
  refine q_load (v := (0, le, 0)) (p2 := 8) rfl rfl rfl rfl ?_
  refine q_icmp_s (p2 := 9) rfl (by decide) (by omega) (by omega) rfl (fun hb => absurd hb (show ¬ (¬ (6 < le)) by omega)) (fun _ => ?_)
  refine q_load (v := (0, 6, 0)) (p2 := 10) rfl rfl rfl rfl ?_
  refine q_const (p2 := 11) rfl rfl ?_
  refine q_icmp_s (p2 := 12) rfl (by decide) (by omega) (by omega) rfl (fun hb => absurd hb (show ¬ (12 < 6) by omega)) (fun _ => ?_)
  refine q_load (v := (6, 1, 0)) (p2 := 13) rfl rfl rfl rfl ?_
  refine q_load (v := (0, 6, 0)) (p2 := 14) rfl rfl rfl rfl ?_
  refine q_aldT (tag := 0) (v := 40) (p2 := 15) rfl hB (by omega) (by omega) hc8 rfl ?_
  refine q_callr (xs := [(0, 40, 0)]) (p2 := 16) rfl rfl rfl rfl (fun _ _ => rfl) rfl (zc_a_86_40 ) (Nat.le_refl _) (Nat.le_refl _) rfl ?_
  refine q_if0_s (p2 := 17) rfl (by decide) (by omega) rfl (fun _ => ?_) (fun hb => absurd (show ¬ (0 < 0) by omega) hb)
  refine q_load (v := (0, 6, 0)) (p2 := 34) rfl rfl rfl rfl ?_
  refine q_const (p2 := 35) rfl rfl ?_
  refine q_icmp_s (p2 := 36) rfl (by decide) (by omega) (by omega) rfl (fun _ => ?_) (fun hb => absurd (show ¬ (12 < 6) by omega) hb)
  refine q_load (v := (6, 2, 0)) (p2 := 39) rfl rfl rfl rfl ?_
  refine q_load (v := (6, 2, 0)) (p2 := 40) rfl rfl rfl rfl ?_
  refine q_load (v := (2, 1703836604, 0)) (p2 := 41) rfl rfl rfl rfl ?_
  refine q_callr (xs := [(2, 1703836604, 0), (6, 2, 0)]) (p2 := 42) rfl rfl rfl rfl (x_rcv_s 2 hT.1) rfl (zc_kw_1703836604 hT) (Nat.le_refl _) (Nat.le_refl _) rfl ?_
  refine q_load (v := (0, 0, 0)) (p2 := 43) rfl rfl rfl rfl ?_
  refine q_load (v := (2, 1703836604, 0)) (p2 := 44) rfl rfl rfl rfl ?_
  refine q_callvE (xs := [(2, 1703836604, 0), (0, 0, 0), (0, 1, 0), (6, 2, 0)]) (p2 := 45) rfl rfl rfl rfl (x_rcv_s 2 hT.1) rfl (zc_t_add hT (by omega)) (Nat.le_refl _) (Nat.le_refl _) rfl (fun φ1 hR1 => ?_)
  obtain ⟨hs1_0, fr1⟩ := hR1
  refine q_load (v := (0, 6, 0)) (p2 := 46) rfl rfl rfl rfl ?_
  exact q_retv (v := (0, 6, 0)) rfl rfl (⟨rfl, rfl, rfl, rfl, hs1_0, fun j hj0 hj1 hj2 hj3 => (fr1 j (by omega) (by omega) (by omega) (by omega))⟩)
theorem zc_a_141_117 {d n sl : Nat} {φ : FH}    : x_f x_P (d + 1) 141 [(0, 117, 0)] φ n sl (x_r φ n sl (0, 1, 0)) := by
  refine x_f_of rfl ?_
  refine q_load (v := (0, 117, 0)) (p2 := 1) rfl rfl rfl rfl ?_
  refine q_const (p2 := 2) rfl rfl ?_
  refine q_icmp_s (p2 := 3) rfl (by decide) (by omega) (by omega) rfl (fun hb => absurd hb (show ¬ (117 < 97) by omega)) (fun _ => ?_)
  refine q_load (v := (0, 117, 0)) (p2 := 4) rfl rfl rfl rfl ?_
  refine q_const (p2 := 5) rfl rfl ?_
  refine q_icmp_s (p2 := 6) rfl (by decide) (by omega) (by omega) rfl (fun hb => absurd hb (show ¬ (122 < 117) by omega)) (fun _ => ?_)
  refine q_const (p2 := 7) rfl rfl ?_
  refine q_goto rfl ?_
  exact q_retv (v := (0, 1, 0)) rfl rfl (⟨rfl, rfl, rfl, rfl, rfl⟩)
theorem zc_swd_usedin {d n sl : Nat} {φ : FH} {tot : Nat} {at_ : Nat} {cur : Nat} {pl : Nat} {va : Nat} {fa : Nat} {fp : Nat} {sf : Nat} {sp : Nat} {no : Nat} {op : Nat} {K : Nat → Nat} {P : Nat → Nat} {V : Nat → Nat} {le : Nat} {tp : Nat → Nat} (hT : zq_T φ tot at_ cur pl va fa fp sf sp no op K P V) (hB : zq_tp φ tp) (hc0 : 6 < le ∧ le ≤ 3000) (hc1 : tot < 3002) (hc2 : tp 0 = 117) (hc3 : tp 1 = 115) (hc4 : tp 2 = 101) (hc5 : tp 3 = 100) (hc6 : tp 4 = 105) (hc7 : tp 5 = 110) (hc8 : tp 6 = 40) : x_f x_P (d + 3) 88 [(6, 2, 0), (6, 1, 0), (0, le, 0), (0, 0, 0), (11, 0, 0), (11, 0, 0), (11, 0, 0)] φ n sl (x_rR (0, 6, 0) n sl (fun φ2 => zq_T φ2 (tot + 1) at_ cur pl va fa fp sf sp no op (x_s K tot 1) (x_s P tot 0) (x_s V tot 1703836604) ∧ ∀ j, j ≠ 2 → j ≠ 4 → j ≠ 5 → j ≠ 6 → φ2 j = φ j)) := by
  refine x_f_of rfl ?_
  refine q_load (v := (6, 1, 0)) (p2 := 1) rfl rfl rfl rfl ?_
  refine q_load (v := (0, 0, 0)) (p2 := 2) rfl rfl rfl rfl ?_
  refine q_aldT (tag := 0) (v := 117) (p2 := 3) rfl hB (by omega) (by omega) hc2 rfl ?_
  refine q_callr (xs := [(0, 117, 0)]) (p2 := 4) rfl rfl rfl rfl (fun _ _ => rfl) rfl (zc_a_141_117 ) (Nat.le_refl _) (Nat.le_refl _) rfl ?_
  refine q_if0_s (p2 := 5) rfl (by decide) (by omega) rfl (fun hb => absurd hb (show ¬ (1 = 0) by omega)) (fun _ => ?_)
  refine q_load (v := (6, 2, 0)) (p2 := 6) rfl rfl rfl rfl ?_
  refine q_load (v := (6, 1, 0)) (p2 := 7) rfl rfl rfl rfl ?_
  refine q_load (v := (0, le, 0)) (p2 := 8) rfl rfl rfl rfl ?_
  refine q_load (v := (0, 0, 0)) (p2 := 9) rfl rfl rfl rfl ?_
  refine q_callrE (xs := [(0, 0, 0), (0, le, 0), (6, 1, 0), (6, 2, 0)]) (p2 := 10) rfl rfl rfl rfl (x_rcv_s 2 hT.1) rfl (zc_swn_usedin hT hB (by omega) (by omega) hc2 hc3 hc4 hc5 hc6 hc7 hc8) (Nat.le_refl _) (Nat.le_refl _) rfl (fun φ1 hR1 => ?_)
  obtain ⟨hs1_0, fr1⟩ := hR1
  exact q_retv (v := (0, 6, 0)) rfl rfl (⟨rfl, rfl, rfl, rfl, hs1_0, fun j hj0 hj1 hj2 hj3 => (fr1 j (by omega) (by omega) (by omega) (by omega))⟩)
theorem zc_t_load_whole1 {d n sl : Nat} {φ : FH} {tot : Nat} {at_ : Nat} {cur : Nat} {pl : Nat} {va : Nat} {fa : Nat} {fp : Nat} {sf : Nat} {sp : Nat} {no : Nat} {op : Nat} {K : Nat → Nat} {P : Nat → Nat} {V : Nat → Nat} {d1 : Nat} {tp : Nat → Nat} (hT : zq_T φ tot at_ cur pl va fa fp sf sp no op K P V) (hB : zq_tp φ tp) (hc0 : tp 0 = d1) (hc1 : 48 ≤ d1 ∧ d1 ≤ 57) : x_f x_P (d + 4) 42 [(6, 2, 0), (6, 1, 0), (0, 1, 0), (11, 0, 0), (11, 0, 0), (11, 0, 0), (11, 0, 0), (11, 0, 0)] φ n sl (x_vR n sl (fun φ2 => zq_T φ2 2 0 2 0 (0 + d1 - 48) 0 fp 0 sp 0 0 (x_s (x_s K 0 2) 1 0) (x_s (x_s P 0 0) 1 1) (x_s (x_s V 0 (0 + d1 - 48)) 1 0) ∧ ∀ j, j ≠ 2 → j ≠ 4 → j ≠ 5 → j ≠ 6 → φ2 j = φ j)) := by
  refine x_f_of rfl ?_
  refine q_load (v := (6, 2, 0)) (p2 := 1) rfl rfl rfl rfl ?_
  refine q_const (p2 := 2) rfl rfl ?_
  refine q_putfE (v := (0, 0, 0)) (p2 := 3) rfl hT.1 (by decide) rfl rfl (fun φ1 f1 hh1 hg1 ho1 fr1 => ?_)
  have hs1 := zq_T_put_2_4 hT hh1 hg1 ho1 fr1
  refine q_load (v := (6, 2, 0)) (p2 := 4) rfl rfl rfl rfl ?_
  refine q_const (p2 := 5) rfl rfl ?_
  refine q_putfE (v := (0, 0, 0)) (p2 := 6) rfl hs1.1 (by decide) rfl rfl (fun φ2 f2 hh2 hg2 ho2 fr2 => ?_)
  have hs2 := zq_T_put_2_9 hs1 hh2 hg2 ho2 fr2
  refine q_load (v := (6, 2, 0)) (p2 := 7) rfl rfl rfl rfl ?_
  refine q_const (p2 := 8) rfl rfl ?_
  refine q_putfE (v := (0, 0, 0)) (p2 := 9) rfl hs2.1 (by decide) rfl rfl (fun φ3 f3 hh3 hg3 ho3 fr3 => ?_)
  have hs3 := zq_T_put_2_11 hs2 hh3 hg3 ho3 fr3
  refine q_load (v := (0, 1, 0)) (p2 := 10) rfl rfl rfl rfl ?_
  refine q_load (v := (6, 1, 0)) (p2 := 11) rfl rfl rfl rfl ?_
  have hm4 := (zq_tp_at hB ((fr3 1 (by decide)).trans ((fr2 1 (by decide)).trans (fr1 1 (by decide)))))
  refine q_alen (p2 := 12) rfl hm4 rfl (by omega) rfl ?_
  refine q_min_b (p2 := 13) rfl rfl (by omega) (by omega) rfl ?_
  refine q_store (loc2 := [(6, 2, 0), (6, 1, 0), (0, 1, 0), (0, 1, 0), (11, 0, 0), (11, 0, 0), (11, 0, 0), (11, 0, 0)]) (p2 := 14) rfl rfl rfl rfl rfl ?_
  refine q_const (p2 := 15) rfl rfl ?_
  refine q_store (loc2 := [(6, 2, 0), (6, 1, 0), (0, 1, 0), (0, 1, 0), (0, 0, 0), (11, 0, 0), (11, 0, 0), (11, 0, 0)]) (p2 := 16) rfl rfl rfl rfl rfl ?_
  refine q_const (p2 := 17) rfl rfl ?_
  refine q_store (loc2 := [(6, 2, 0), (6, 1, 0), (0, 1, 0), (0, 1, 0), (0, 0, 0), (0, 1, 0), (11, 0, 0), (11, 0, 0)]) (p2 := 18) rfl rfl rfl rfl rfl ?_
  refine q_const (p2 := 19) rfl rfl ?_
  refine q_store (loc2 := [(6, 2, 0), (6, 1, 0), (0, 1, 0), (0, 1, 0), (0, 0, 0), (0, 1, 0), (0, 0, 0), (11, 0, 0)]) (p2 := 20) rfl rfl rfl rfl rfl ?_
  refine q_load (v := (0, 0, 0)) (p2 := 21) rfl rfl rfl rfl ?_
  refine q_load (v := (0, 1, 0)) (p2 := 22) rfl rfl rfl rfl ?_
  refine q_icmp_s (p2 := 23) rfl (by decide) (by omega) (by omega) rfl (fun hb => absurd hb (show ¬ (¬ (0 < 1)) by omega)) (fun _ => ?_)
  refine q_load (v := (0, 0, 0)) (p2 := 24) rfl rfl rfl rfl ?_
  refine q_load (v := (0, 1, 0)) (p2 := 25) rfl rfl rfl rfl ?_
  refine q_icmp_s (p2 := 26) rfl (by decide) (by omega) (by omega) rfl (fun hb => absurd hb (show ¬ (¬ (0 < 1)) by omega)) (fun _ => ?_)
  refine q_load (v := (0, 1, 0)) (p2 := 27) rfl rfl rfl rfl ?_
  refine q_if0_s (p2 := 28) rfl (by decide) (by omega) rfl (fun hb => absurd hb (show ¬ (1 = 0) by omega)) (fun _ => ?_)
  refine q_load (v := (6, 1, 0)) (p2 := 29) rfl rfl rfl rfl ?_
  refine q_load (v := (0, 0, 0)) (p2 := 30) rfl rfl rfl rfl ?_
  refine q_aldT (tag := 0) (v := d1) (p2 := 31) rfl hm4 (by omega) (by omega) hc0 rfl ?_
  refine q_callr (xs := [(0, d1, 0)]) (p2 := 32) rfl rfl rfl rfl (fun _ _ => rfl) rfl (zc_dg_isBlank (by omega)) (Nat.le_refl _) (Nat.le_refl _) rfl ?_
  refine q_if0_s (p2 := 33) rfl (by decide) (by omega) rfl (fun _ => ?_) (fun hb => absurd (show 0 = 0 by omega) hb)
  refine q_load (v := (6, 2, 0)) (p2 := 36) rfl rfl rfl rfl ?_
  refine q_load (v := (6, 1, 0)) (p2 := 37) rfl rfl rfl rfl ?_
  refine q_load (v := (0, 1, 0)) (p2 := 38) rfl rfl rfl rfl ?_
  refine q_load (v := (0, 0, 0)) (p2 := 39) rfl rfl rfl rfl ?_
  refine q_callrE (xs := [(0, 0, 0), (0, 1, 0), (6, 1, 0), (6, 2, 0)]) (p2 := 40) rfl rfl rfl rfl (x_rcv_s 2 hs3.1) rfl (zc_scn_1e hs3 hm4 hc0 (by omega) (by omega) (by omega)) (Nat.le_refl _) (Nat.le_refl _) rfl (fun φ5 hR5 => ?_)
  obtain ⟨hs5_0, fr5⟩ := hR5
  refine q_store (loc2 := [(6, 2, 0), (6, 1, 0), (0, 1, 0), (0, 1, 0), (0, 0, 0), (0, 1, 0), (0, 0, 0), (0, 1, 0)]) (p2 := 41) rfl rfl rfl rfl rfl ?_
  refine q_load (v := (0, 1, 0)) (p2 := 42) rfl rfl rfl rfl ?_
  refine q_if0_s (p2 := 43) rfl (by decide) (by omega) rfl (fun hb => absurd hb (show ¬ (¬ (0 < 1)) by omega)) (fun _ => ?_)
  refine q_const (p2 := 44) rfl rfl ?_
  refine q_goto rfl ?_
  refine q_store (loc2 := [(6, 2, 0), (6, 1, 0), (0, 1, 0), (0, 1, 0), (0, 0, 0), (0, 1, 0), (0, 0, 0), (0, 1, 0)]) (p2 := 47) rfl rfl rfl rfl rfl ?_
  refine q_load (v := (0, 0, 0)) (p2 := 48) rfl rfl rfl rfl ?_
  refine q_load (v := (0, 1, 0)) (p2 := 49) rfl rfl rfl rfl ?_
  refine q_iop (w := 0 + 1) (z := 1) (p2 := 50) rfl (xo_add 0 1) (by decide) rfl ?_
  refine q_store (loc2 := [(6, 2, 0), (6, 1, 0), (0, 1, 0), (0, 1, 0), (0, 1, 0), (0, 1, 0), (0, 0, 0), (0, 1, 0)]) (p2 := 51) rfl rfl rfl rfl rfl ?_
  refine q_iinc (z := 1) (loc2 := [(6, 2, 0), (6, 1, 0), (0, 1, 0), (0, 1, 0), (0, 1, 0), (0, 1, 0), (0, 1, 0), (0, 1, 0)]) (p2 := 52) rfl rfl (by decide) rfl rfl ?_
  refine q_goto rfl ?_
  refine q_load (v := (0, 1, 0)) (p2 := 21) rfl rfl rfl rfl ?_
  refine q_load (v := (0, 1, 0)) (p2 := 22) rfl rfl rfl rfl ?_
  refine q_icmp_s (p2 := 23) rfl (by decide) (by omega) (by omega) rfl (fun _ => ?_) (fun hb => absurd (show ¬ (1 < 1) by omega) hb)
  refine q_load (v := (6, 2, 0)) (p2 := 54) rfl rfl rfl rfl ?_
  refine q_load (v := (0, 1, 0)) (p2 := 55) rfl rfl rfl rfl ?_
  refine q_if0_s (p2 := 56) rfl (by decide) (by omega) rfl (fun hb => absurd hb (show ¬ (1 = 0) by omega)) (fun _ => ?_)
  refine q_const (p2 := 57) rfl rfl ?_
  refine q_goto rfl ?_
  refine q_load (v := (0, 1, 0)) (p2 := 60) rfl rfl rfl rfl ?_
  refine q_const (p2 := 61) rfl rfl ?_
  refine q_callvE (xs := [(2, 0, 0), (0, 1, 0), (0, 0, 0), (6, 2, 0)]) (p2 := 62) rfl rfl rfl rfl (x_rcv_s 2 hs5_0.1) rfl (zc_t_add hs5_0 (by omega)) (Nat.le_refl _) (Nat.le_refl _) rfl (fun φ6 hR6 => ?_)
  obtain ⟨hs6_0, fr6⟩ := hR6
  refine q_load (v := (6, 2, 0)) (p2 := 63) rfl rfl rfl rfl ?_
  refine q_callvE (xs := [(6, 2, 0)]) (p2 := 64) rfl rfl rfl rfl (x_rcv_s 2 hs6_0.1) rfl (zc_t_rewind hs6_0 (by omega) ((x_s_ne (by decide)).trans (x_s_eq)) ((x_s_ne (by decide)).trans (x_s_eq)) ((x_s_ne (by decide)).trans (x_s_eq))) (Nat.le_refl _) (Nat.le_refl _) rfl (fun φ7 hR7 => ?_)
  obtain ⟨hs7_0, fr7⟩ := hR7
  exact q_ret rfl (⟨rfl, rfl, rfl, hs7_0, fun j hj0 hj1 hj2 hj3 => ((fr7 j (by omega)).trans ((fr6 j (by omega) (by omega) (by omega) (by omega)).trans ((fr5 j (by omega) (by omega) (by omega) (by omega)).trans ((fr3 j (by omega)).trans ((fr2 j (by omega)).trans (fr1 j (by omega)))))))⟩)
theorem zc_t_load_whole2 {d n sl : Nat} {φ : FH} {tot : Nat} {at_ : Nat} {cur : Nat} {pl : Nat} {va : Nat} {fa : Nat} {fp : Nat} {sf : Nat} {sp : Nat} {no : Nat} {op : Nat} {K : Nat → Nat} {P : Nat → Nat} {V : Nat → Nat} {d1 : Nat} {d2 : Nat} {tp : Nat → Nat} (hT : zq_T φ tot at_ cur pl va fa fp sf sp no op K P V) (hB : zq_tp φ tp) (hc0 : tp 0 = d1) (hc1 : tp 1 = d2) (hc2 : 48 ≤ d1 ∧ d1 ≤ 57 ∧ 48 ≤ d2 ∧ d2 ≤ 57) : x_f x_P (d + 4) 42 [(6, 2, 0), (6, 1, 0), (0, 2, 0), (11, 0, 0), (11, 0, 0), (11, 0, 0), (11, 0, 0), (11, 0, 0)] φ n sl (x_vR n sl (fun φ2 => zq_T φ2 2 0 2 0 ((((0 + d1) - 48) * 10) + d2 - 48) 0 fp 0 sp 0 0 (x_s (x_s K 0 2) 1 0) (x_s (x_s P 0 0) 1 2) (x_s (x_s V 0 ((((0 + d1) - 48) * 10) + d2 - 48)) 1 0) ∧ ∀ j, j ≠ 2 → j ≠ 4 → j ≠ 5 → j ≠ 6 → φ2 j = φ j)) := by
  refine x_f_of rfl ?_
  refine q_load (v := (6, 2, 0)) (p2 := 1) rfl rfl rfl rfl ?_
  refine q_const (p2 := 2) rfl rfl ?_
  refine q_putfE (v := (0, 0, 0)) (p2 := 3) rfl hT.1 (by decide) rfl rfl (fun φ1 f1 hh1 hg1 ho1 fr1 => ?_)
  have hs1 := zq_T_put_2_4 hT hh1 hg1 ho1 fr1
  refine q_load (v := (6, 2, 0)) (p2 := 4) rfl rfl rfl rfl ?_
  refine q_const (p2 := 5) rfl rfl ?_
  refine q_putfE (v := (0, 0, 0)) (p2 := 6) rfl hs1.1 (by decide) rfl rfl (fun φ2 f2 hh2 hg2 ho2 fr2 => ?_)
  have hs2 := zq_T_put_2_9 hs1 hh2 hg2 ho2 fr2
  refine q_load (v := (6, 2, 0)) (p2 := 7) rfl rfl rfl rfl ?_
  refine q_const (p2 := 8) rfl rfl ?_
  refine q_putfE (v := (0, 0, 0)) (p2 := 9) rfl hs2.1 (by decide) rfl rfl (fun φ3 f3 hh3 hg3 ho3 fr3 => ?_)
  have hs3 := zq_T_put_2_11 hs2 hh3 hg3 ho3 fr3
  refine q_load (v := (0, 2, 0)) (p2 := 10) rfl rfl rfl rfl ?_
  refine q_load (v := (6, 1, 0)) (p2 := 11) rfl rfl rfl rfl ?_
  have hm4 := (zq_tp_at hB ((fr3 1 (by decide)).trans ((fr2 1 (by decide)).trans (fr1 1 (by decide)))))
  refine q_alen (p2 := 12) rfl hm4 rfl (by omega) rfl ?_
  refine q_min_b (p2 := 13) rfl rfl (by omega) (by omega) rfl ?_
  refine q_store (loc2 := [(6, 2, 0), (6, 1, 0), (0, 2, 0), (0, 2, 0), (11, 0, 0), (11, 0, 0), (11, 0, 0), (11, 0, 0)]) (p2 := 14) rfl rfl rfl rfl rfl ?_
  refine q_const (p2 := 15) rfl rfl ?_
  refine q_store (loc2 := [(6, 2, 0), (6, 1, 0), (0, 2, 0), (0, 2, 0), (0, 0, 0), (11, 0, 0), (11, 0, 0), (11, 0, 0)]) (p2 := 16) rfl rfl rfl rfl rfl ?_
  refine q_const (p2 := 17) rfl rfl ?_
  refine q_store (loc2 := [(6, 2, 0), (6, 1, 0), (0, 2, 0), (0, 2, 0), (0, 0, 0), (0, 1, 0), (11, 0, 0), (11, 0, 0)]) (p2 := 18) rfl rfl rfl rfl rfl ?_
  refine q_const (p2 := 19) rfl rfl ?_
  refine q_store (loc2 := [(6, 2, 0), (6, 1, 0), (0, 2, 0), (0, 2, 0), (0, 0, 0), (0, 1, 0), (0, 0, 0), (11, 0, 0)]) (p2 := 20) rfl rfl rfl rfl rfl ?_
  refine q_load (v := (0, 0, 0)) (p2 := 21) rfl rfl rfl rfl ?_
  refine q_load (v := (0, 2, 0)) (p2 := 22) rfl rfl rfl rfl ?_
  refine q_icmp_s (p2 := 23) rfl (by decide) (by omega) (by omega) rfl (fun hb => absurd hb (show ¬ (¬ (0 < 2)) by omega)) (fun _ => ?_)
  refine q_load (v := (0, 0, 0)) (p2 := 24) rfl rfl rfl rfl ?_
  refine q_load (v := (0, 2, 0)) (p2 := 25) rfl rfl rfl rfl ?_
  refine q_icmp_s (p2 := 26) rfl (by decide) (by omega) (by omega) rfl (fun hb => absurd hb (show ¬ (¬ (0 < 2)) by omega)) (fun _ => ?_)
  refine q_load (v := (0, 1, 0)) (p2 := 27) rfl rfl rfl rfl ?_
  refine q_if0_s (p2 := 28) rfl (by decide) (by omega) rfl (fun hb => absurd hb (show ¬ (1 = 0) by omega)) (fun _ => ?_)
  refine q_load (v := (6, 1, 0)) (p2 := 29) rfl rfl rfl rfl ?_
  refine q_load (v := (0, 0, 0)) (p2 := 30) rfl rfl rfl rfl ?_
  refine q_aldT (tag := 0) (v := d1) (p2 := 31) rfl hm4 (by omega) (by omega) hc0 rfl ?_
  refine q_callr (xs := [(0, d1, 0)]) (p2 := 32) rfl rfl rfl rfl (fun _ _ => rfl) rfl (zc_dg_isBlank (by omega)) (Nat.le_refl _) (Nat.le_refl _) rfl ?_
  refine q_if0_s (p2 := 33) rfl (by decide) (by omega) rfl (fun _ => ?_) (fun hb => absurd (show 0 = 0 by omega) hb)
  refine q_load (v := (6, 2, 0)) (p2 := 36) rfl rfl rfl rfl ?_
  refine q_load (v := (6, 1, 0)) (p2 := 37) rfl rfl rfl rfl ?_
  refine q_load (v := (0, 2, 0)) (p2 := 38) rfl rfl rfl rfl ?_
  refine q_load (v := (0, 0, 0)) (p2 := 39) rfl rfl rfl rfl ?_
  refine q_callrE (xs := [(0, 0, 0), (0, 2, 0), (6, 1, 0), (6, 2, 0)]) (p2 := 40) rfl rfl rfl rfl (x_rcv_s 2 hs3.1) rfl (zc_scn_2e hs3 hm4 hc0 hc1 (by omega) (by omega) (by omega)) (Nat.le_refl _) (Nat.le_refl _) rfl (fun φ5 hR5 => ?_)
  obtain ⟨hs5_0, fr5⟩ := hR5
  refine q_store (loc2 := [(6, 2, 0), (6, 1, 0), (0, 2, 0), (0, 2, 0), (0, 0, 0), (0, 1, 0), (0, 0, 0), (0, 2, 0)]) (p2 := 41) rfl rfl rfl rfl rfl ?_
  refine q_load (v := (0, 2, 0)) (p2 := 42) rfl rfl rfl rfl ?_
  refine q_if0_s (p2 := 43) rfl (by decide) (by omega) rfl (fun hb => absurd hb (show ¬ (¬ (0 < 2)) by omega)) (fun _ => ?_)
  refine q_const (p2 := 44) rfl rfl ?_
  refine q_goto rfl ?_
  refine q_store (loc2 := [(6, 2, 0), (6, 1, 0), (0, 2, 0), (0, 2, 0), (0, 0, 0), (0, 1, 0), (0, 0, 0), (0, 2, 0)]) (p2 := 47) rfl rfl rfl rfl rfl ?_
  refine q_load (v := (0, 0, 0)) (p2 := 48) rfl rfl rfl rfl ?_
  refine q_load (v := (0, 2, 0)) (p2 := 49) rfl rfl rfl rfl ?_
  refine q_iop (w := 0 + 2) (z := 2) (p2 := 50) rfl (xo_add 0 2) (by decide) rfl ?_
  refine q_store (loc2 := [(6, 2, 0), (6, 1, 0), (0, 2, 0), (0, 2, 0), (0, 2, 0), (0, 1, 0), (0, 0, 0), (0, 2, 0)]) (p2 := 51) rfl rfl rfl rfl rfl ?_
  refine q_iinc (z := 1) (loc2 := [(6, 2, 0), (6, 1, 0), (0, 2, 0), (0, 2, 0), (0, 2, 0), (0, 1, 0), (0, 1, 0), (0, 2, 0)]) (p2 := 52) rfl rfl (by decide) rfl rfl ?_
  refine q_goto rfl ?_
  refine q_load (v := (0, 1, 0)) (p2 := 21) rfl rfl rfl rfl ?_
  refine q_load (v := (0, 2, 0)) (p2 := 22) rfl rfl rfl rfl ?_
  refine q_icmp_s (p2 := 23) rfl (by decide) (by omega) (by omega) rfl (fun hb => absurd hb (show ¬ (¬ (1 < 2)) by omega)) (fun _ => ?_)
  refine q_load (v := (0, 2, 0)) (p2 := 24) rfl rfl rfl rfl ?_
  refine q_load (v := (0, 2, 0)) (p2 := 25) rfl rfl rfl rfl ?_
  refine q_icmp_s (p2 := 26) rfl (by decide) (by omega) (by omega) rfl (fun _ => ?_) (fun hb => absurd (show ¬ (2 < 2) by omega) hb)
  refine q_load (v := (6, 2, 0)) (p2 := 54) rfl rfl rfl rfl ?_
  refine q_load (v := (0, 1, 0)) (p2 := 55) rfl rfl rfl rfl ?_
  refine q_if0_s (p2 := 56) rfl (by decide) (by omega) rfl (fun hb => absurd hb (show ¬ (1 = 0) by omega)) (fun _ => ?_)
  refine q_const (p2 := 57) rfl rfl ?_
  refine q_goto rfl ?_
  refine q_load (v := (0, 2, 0)) (p2 := 60) rfl rfl rfl rfl ?_
  refine q_const (p2 := 61) rfl rfl ?_
  refine q_callvE (xs := [(2, 0, 0), (0, 2, 0), (0, 0, 0), (6, 2, 0)]) (p2 := 62) rfl rfl rfl rfl (x_rcv_s 2 hs5_0.1) rfl (zc_t_add hs5_0 (by omega)) (Nat.le_refl _) (Nat.le_refl _) rfl (fun φ6 hR6 => ?_)
  obtain ⟨hs6_0, fr6⟩ := hR6
  refine q_load (v := (6, 2, 0)) (p2 := 63) rfl rfl rfl rfl ?_
  refine q_callvE (xs := [(6, 2, 0)]) (p2 := 64) rfl rfl rfl rfl (x_rcv_s 2 hs6_0.1) rfl (zc_t_rewind hs6_0 (by omega) ((x_s_ne (by decide)).trans (x_s_eq)) ((x_s_ne (by decide)).trans (x_s_eq)) ((x_s_ne (by decide)).trans (x_s_eq))) (Nat.le_refl _) (Nat.le_refl _) rfl (fun φ7 hR7 => ?_)
  obtain ⟨hs7_0, fr7⟩ := hR7
  exact q_ret rfl (⟨rfl, rfl, rfl, hs7_0, fun j hj0 hj1 hj2 hj3 => ((fr7 j (by omega)).trans ((fr6 j (by omega) (by omega) (by omega) (by omega)).trans ((fr5 j (by omega) (by omega) (by omega) (by omega)).trans ((fr3 j (by omega)).trans ((fr2 j (by omega)).trans (fr1 j (by omega)))))))⟩)
theorem zc_t_load_whole3 {d n sl : Nat} {φ : FH} {tot : Nat} {at_ : Nat} {cur : Nat} {pl : Nat} {va : Nat} {fa : Nat} {fp : Nat} {sf : Nat} {sp : Nat} {no : Nat} {op : Nat} {K : Nat → Nat} {P : Nat → Nat} {V : Nat → Nat} {d1 : Nat} {d2 : Nat} {d3 : Nat} {tp : Nat → Nat} (hT : zq_T φ tot at_ cur pl va fa fp sf sp no op K P V) (hB : zq_tp φ tp) (hc0 : tp 0 = d1) (hc1 : tp 1 = d2) (hc2 : tp 2 = d3) (hc3 : 48 ≤ d1 ∧ d1 ≤ 57 ∧ 48 ≤ d2 ∧ d2 ≤ 57 ∧ 48 ≤ d3 ∧ d3 ≤ 57) : x_f x_P (d + 4) 42 [(6, 2, 0), (6, 1, 0), (0, 3, 0), (11, 0, 0), (11, 0, 0), (11, 0, 0), (11, 0, 0), (11, 0, 0)] φ n sl (x_vR n sl (fun φ2 => zq_T φ2 2 0 2 0 (((((((0 + d1) - 48) * 10) + d2) - 48) * 10) + d3 - 48) 0 fp 0 sp 0 0 (x_s (x_s K 0 2) 1 0) (x_s (x_s P 0 0) 1 3) (x_s (x_s V 0 (((((((0 + d1) - 48) * 10) + d2) - 48) * 10) + d3 - 48)) 1 0) ∧ ∀ j, j ≠ 2 → j ≠ 4 → j ≠ 5 → j ≠ 6 → φ2 j = φ j)) := by
  refine x_f_of rfl ?_
  refine q_load (v := (6, 2, 0)) (p2 := 1) rfl rfl rfl rfl ?_
  refine q_const (p2 := 2) rfl rfl ?_
  refine q_putfE (v := (0, 0, 0)) (p2 := 3) rfl hT.1 (by decide) rfl rfl (fun φ1 f1 hh1 hg1 ho1 fr1 => ?_)
  have hs1 := zq_T_put_2_4 hT hh1 hg1 ho1 fr1
  refine q_load (v := (6, 2, 0)) (p2 := 4) rfl rfl rfl rfl ?_
  refine q_const (p2 := 5) rfl rfl ?_
  refine q_putfE (v := (0, 0, 0)) (p2 := 6) rfl hs1.1 (by decide) rfl rfl (fun φ2 f2 hh2 hg2 ho2 fr2 => ?_)
  have hs2 := zq_T_put_2_9 hs1 hh2 hg2 ho2 fr2
  refine q_load (v := (6, 2, 0)) (p2 := 7) rfl rfl rfl rfl ?_
  refine q_const (p2 := 8) rfl rfl ?_
  refine q_putfE (v := (0, 0, 0)) (p2 := 9) rfl hs2.1 (by decide) rfl rfl (fun φ3 f3 hh3 hg3 ho3 fr3 => ?_)
  have hs3 := zq_T_put_2_11 hs2 hh3 hg3 ho3 fr3
  refine q_load (v := (0, 3, 0)) (p2 := 10) rfl rfl rfl rfl ?_
  refine q_load (v := (6, 1, 0)) (p2 := 11) rfl rfl rfl rfl ?_
  have hm4 := (zq_tp_at hB ((fr3 1 (by decide)).trans ((fr2 1 (by decide)).trans (fr1 1 (by decide)))))
  refine q_alen (p2 := 12) rfl hm4 rfl (by omega) rfl ?_
  refine q_min_b (p2 := 13) rfl rfl (by omega) (by omega) rfl ?_
  refine q_store (loc2 := [(6, 2, 0), (6, 1, 0), (0, 3, 0), (0, 3, 0), (11, 0, 0), (11, 0, 0), (11, 0, 0), (11, 0, 0)]) (p2 := 14) rfl rfl rfl rfl rfl ?_
  refine q_const (p2 := 15) rfl rfl ?_
  refine q_store (loc2 := [(6, 2, 0), (6, 1, 0), (0, 3, 0), (0, 3, 0), (0, 0, 0), (11, 0, 0), (11, 0, 0), (11, 0, 0)]) (p2 := 16) rfl rfl rfl rfl rfl ?_
  refine q_const (p2 := 17) rfl rfl ?_
  refine q_store (loc2 := [(6, 2, 0), (6, 1, 0), (0, 3, 0), (0, 3, 0), (0, 0, 0), (0, 1, 0), (11, 0, 0), (11, 0, 0)]) (p2 := 18) rfl rfl rfl rfl rfl ?_
  refine q_const (p2 := 19) rfl rfl ?_
  refine q_store (loc2 := [(6, 2, 0), (6, 1, 0), (0, 3, 0), (0, 3, 0), (0, 0, 0), (0, 1, 0), (0, 0, 0), (11, 0, 0)]) (p2 := 20) rfl rfl rfl rfl rfl ?_
  refine q_load (v := (0, 0, 0)) (p2 := 21) rfl rfl rfl rfl ?_
  refine q_load (v := (0, 3, 0)) (p2 := 22) rfl rfl rfl rfl ?_
  refine q_icmp_s (p2 := 23) rfl (by decide) (by omega) (by omega) rfl (fun hb => absurd hb (show ¬ (¬ (0 < 3)) by omega)) (fun _ => ?_)
  refine q_load (v := (0, 0, 0)) (p2 := 24) rfl rfl rfl rfl ?_
  refine q_load (v := (0, 3, 0)) (p2 := 25) rfl rfl rfl rfl ?_
  refine q_icmp_s (p2 := 26) rfl (by decide) (by omega) (by omega) rfl (fun hb => absurd hb (show ¬ (¬ (0 < 3)) by omega)) (fun _ => ?_)
  refine q_load (v := (0, 1, 0)) (p2 := 27) rfl rfl rfl rfl ?_
  refine q_if0_s (p2 := 28) rfl (by decide) (by omega) rfl (fun hb => absurd hb (show ¬ (1 = 0) by omega)) (fun _ => ?_)
  refine q_load (v := (6, 1, 0)) (p2 := 29) rfl rfl rfl rfl ?_
  refine q_load (v := (0, 0, 0)) (p2 := 30) rfl rfl rfl rfl ?_
  refine q_aldT (tag := 0) (v := d1) (p2 := 31) rfl hm4 (by omega) (by omega) hc0 rfl ?_
  refine q_callr (xs := [(0, d1, 0)]) (p2 := 32) rfl rfl rfl rfl (fun _ _ => rfl) rfl (zc_dg_isBlank (by omega)) (Nat.le_refl _) (Nat.le_refl _) rfl ?_
  refine q_if0_s (p2 := 33) rfl (by decide) (by omega) rfl (fun _ => ?_) (fun hb => absurd (show 0 = 0 by omega) hb)
  refine q_load (v := (6, 2, 0)) (p2 := 36) rfl rfl rfl rfl ?_
  refine q_load (v := (6, 1, 0)) (p2 := 37) rfl rfl rfl rfl ?_
  refine q_load (v := (0, 3, 0)) (p2 := 38) rfl rfl rfl rfl ?_
  refine q_load (v := (0, 0, 0)) (p2 := 39) rfl rfl rfl rfl ?_
  refine q_callrE (xs := [(0, 0, 0), (0, 3, 0), (6, 1, 0), (6, 2, 0)]) (p2 := 40) rfl rfl rfl rfl (x_rcv_s 2 hs3.1) rfl (zc_scn_3e hs3 hm4 hc0 hc1 hc2 (by omega) (by omega) (by omega)) (Nat.le_refl _) (Nat.le_refl _) rfl (fun φ5 hR5 => ?_)
  obtain ⟨hs5_0, fr5⟩ := hR5
  refine q_store (loc2 := [(6, 2, 0), (6, 1, 0), (0, 3, 0), (0, 3, 0), (0, 0, 0), (0, 1, 0), (0, 0, 0), (0, 3, 0)]) (p2 := 41) rfl rfl rfl rfl rfl ?_
  refine q_load (v := (0, 3, 0)) (p2 := 42) rfl rfl rfl rfl ?_
  refine q_if0_s (p2 := 43) rfl (by decide) (by omega) rfl (fun hb => absurd hb (show ¬ (¬ (0 < 3)) by omega)) (fun _ => ?_)
  refine q_const (p2 := 44) rfl rfl ?_
  refine q_goto rfl ?_
  refine q_store (loc2 := [(6, 2, 0), (6, 1, 0), (0, 3, 0), (0, 3, 0), (0, 0, 0), (0, 1, 0), (0, 0, 0), (0, 3, 0)]) (p2 := 47) rfl rfl rfl rfl rfl ?_
  refine q_load (v := (0, 0, 0)) (p2 := 48) rfl rfl rfl rfl ?_
  refine q_load (v := (0, 3, 0)) (p2 := 49) rfl rfl rfl rfl ?_
  refine q_iop (w := 0 + 3) (z := 3) (p2 := 50) rfl (xo_add 0 3) (by decide) rfl ?_
  refine q_store (loc2 := [(6, 2, 0), (6, 1, 0), (0, 3, 0), (0, 3, 0), (0, 3, 0), (0, 1, 0), (0, 0, 0), (0, 3, 0)]) (p2 := 51) rfl rfl rfl rfl rfl ?_
  refine q_iinc (z := 1) (loc2 := [(6, 2, 0), (6, 1, 0), (0, 3, 0), (0, 3, 0), (0, 3, 0), (0, 1, 0), (0, 1, 0), (0, 3, 0)]) (p2 := 52) rfl rfl (by decide) rfl rfl ?_
  refine q_goto rfl ?_
  refine q_load (v := (0, 1, 0)) (p2 := 21) rfl rfl rfl rfl ?_
  refine q_load (v := (0, 3, 0)) (p2 := 22) rfl rfl rfl rfl ?_
  refine q_icmp_s (p2 := 23) rfl (by decide) (by omega) (by omega) rfl (fun hb => absurd hb (show ¬ (¬ (1 < 3)) by omega)) (fun _ => ?_)
  refine q_load (v := (0, 3, 0)) (p2 := 24) rfl rfl rfl rfl ?_
  refine q_load (v := (0, 3, 0)) (p2 := 25) rfl rfl rfl rfl ?_
  refine q_icmp_s (p2 := 26) rfl (by decide) (by omega) (by omega) rfl (fun _ => ?_) (fun hb => absurd (show ¬ (3 < 3) by omega) hb)
  refine q_load (v := (6, 2, 0)) (p2 := 54) rfl rfl rfl rfl ?_
  refine q_load (v := (0, 1, 0)) (p2 := 55) rfl rfl rfl rfl ?_
  refine q_if0_s (p2 := 56) rfl (by decide) (by omega) rfl (fun hb => absurd hb (show ¬ (1 = 0) by omega)) (fun _ => ?_)
  refine q_const (p2 := 57) rfl rfl ?_
  refine q_goto rfl ?_
  refine q_load (v := (0, 3, 0)) (p2 := 60) rfl rfl rfl rfl ?_
  refine q_const (p2 := 61) rfl rfl ?_
  refine q_callvE (xs := [(2, 0, 0), (0, 3, 0), (0, 0, 0), (6, 2, 0)]) (p2 := 62) rfl rfl rfl rfl (x_rcv_s 2 hs5_0.1) rfl (zc_t_add hs5_0 (by omega)) (Nat.le_refl _) (Nat.le_refl _) rfl (fun φ6 hR6 => ?_)
  obtain ⟨hs6_0, fr6⟩ := hR6
  refine q_load (v := (6, 2, 0)) (p2 := 63) rfl rfl rfl rfl ?_
  refine q_callvE (xs := [(6, 2, 0)]) (p2 := 64) rfl rfl rfl rfl (x_rcv_s 2 hs6_0.1) rfl (zc_t_rewind hs6_0 (by omega) ((x_s_ne (by decide)).trans (x_s_eq)) ((x_s_ne (by decide)).trans (x_s_eq)) ((x_s_ne (by decide)).trans (x_s_eq))) (Nat.le_refl _) (Nat.le_refl _) rfl (fun φ7 hR7 => ?_)
  obtain ⟨hs7_0, fr7⟩ := hR7
  exact q_ret rfl (⟨rfl, rfl, rfl, hs7_0, fun j hj0 hj1 hj2 hj3 => ((fr7 j (by omega)).trans ((fr6 j (by omega) (by omega) (by omega) (by omega)).trans ((fr5 j (by omega) (by omega) (by omega) (by omega)).trans ((fr3 j (by omega)).trans ((fr2 j (by omega)).trans (fr1 j (by omega)))))))⟩)
theorem zc_t_load_whole4 {d n sl : Nat} {φ : FH} {tot : Nat} {at_ : Nat} {cur : Nat} {pl : Nat} {va : Nat} {fa : Nat} {fp : Nat} {sf : Nat} {sp : Nat} {no : Nat} {op : Nat} {K : Nat → Nat} {P : Nat → Nat} {V : Nat → Nat} {d1 : Nat} {d2 : Nat} {d3 : Nat} {d4 : Nat} {tp : Nat → Nat} (hT : zq_T φ tot at_ cur pl va fa fp sf sp no op K P V) (hB : zq_tp φ tp) (hc0 : tp 0 = d1) (hc1 : tp 1 = d2) (hc2 : tp 2 = d3) (hc3 : tp 3 = d4) (hc4 : 48 ≤ d1 ∧ d1 ≤ 57 ∧ 48 ≤ d2 ∧ d2 ≤ 57 ∧ 48 ≤ d3 ∧ d3 ≤ 57 ∧ 48 ≤ d4 ∧ d4 ≤ 57) : x_f x_P (d + 4) 42 [(6, 2, 0), (6, 1, 0), (0, 4, 0), (11, 0, 0), (11, 0, 0), (11, 0, 0), (11, 0, 0), (11, 0, 0)] φ n sl (x_vR n sl (fun φ2 => zq_T φ2 2 0 2 0 ((((((((((0 + d1) - 48) * 10) + d2) - 48) * 10) + d3) - 48) * 10) + d4 - 48) 0 fp 0 sp 0 0 (x_s (x_s K 0 2) 1 0) (x_s (x_s P 0 0) 1 4) (x_s (x_s V 0 ((((((((((0 + d1) - 48) * 10) + d2) - 48) * 10) + d3) - 48) * 10) + d4 - 48)) 1 0) ∧ ∀ j, j ≠ 2 → j ≠ 4 → j ≠ 5 → j ≠ 6 → φ2 j = φ j)) := by
  refine x_f_of rfl ?_
  refine q_load (v := (6, 2, 0)) (p2 := 1) rfl rfl rfl rfl ?_
  refine q_const (p2 := 2) rfl rfl ?_
  refine q_putfE (v := (0, 0, 0)) (p2 := 3) rfl hT.1 (by decide) rfl rfl (fun φ1 f1 hh1 hg1 ho1 fr1 => ?_)
  have hs1 := zq_T_put_2_4 hT hh1 hg1 ho1 fr1
  refine q_load (v := (6, 2, 0)) (p2 := 4) rfl rfl rfl rfl ?_
  refine q_const (p2 := 5) rfl rfl ?_
  refine q_putfE (v := (0, 0, 0)) (p2 := 6) rfl hs1.1 (by decide) rfl rfl (fun φ2 f2 hh2 hg2 ho2 fr2 => ?_)
  have hs2 := zq_T_put_2_9 hs1 hh2 hg2 ho2 fr2
  refine q_load (v := (6, 2, 0)) (p2 := 7) rfl rfl rfl rfl ?_
  refine q_const (p2 := 8) rfl rfl ?_
  refine q_putfE (v := (0, 0, 0)) (p2 := 9) rfl hs2.1 (by decide) rfl rfl (fun φ3 f3 hh3 hg3 ho3 fr3 => ?_)
  have hs3 := zq_T_put_2_11 hs2 hh3 hg3 ho3 fr3
  refine q_load (v := (0, 4, 0)) (p2 := 10) rfl rfl rfl rfl ?_
  refine q_load (v := (6, 1, 0)) (p2 := 11) rfl rfl rfl rfl ?_
  have hm4 := (zq_tp_at hB ((fr3 1 (by decide)).trans ((fr2 1 (by decide)).trans (fr1 1 (by decide)))))
  refine q_alen (p2 := 12) rfl hm4 rfl (by omega) rfl ?_
  refine q_min_b (p2 := 13) rfl rfl (by omega) (by omega) rfl ?_
  refine q_store (loc2 := [(6, 2, 0), (6, 1, 0), (0, 4, 0), (0, 4, 0), (11, 0, 0), (11, 0, 0), (11, 0, 0), (11, 0, 0)]) (p2 := 14) rfl rfl rfl rfl rfl ?_
  refine q_const (p2 := 15) rfl rfl ?_
  refine q_store (loc2 := [(6, 2, 0), (6, 1, 0), (0, 4, 0), (0, 4, 0), (0, 0, 0), (11, 0, 0), (11, 0, 0), (11, 0, 0)]) (p2 := 16) rfl rfl rfl rfl rfl ?_
  refine q_const (p2 := 17) rfl rfl ?_
  refine q_store (loc2 := [(6, 2, 0), (6, 1, 0), (0, 4, 0), (0, 4, 0), (0, 0, 0), (0, 1, 0), (11, 0, 0), (11, 0, 0)]) (p2 := 18) rfl rfl rfl rfl rfl ?_
  refine q_const (p2 := 19) rfl rfl ?_
  refine q_store (loc2 := [(6, 2, 0), (6, 1, 0), (0, 4, 0), (0, 4, 0), (0, 0, 0), (0, 1, 0), (0, 0, 0), (11, 0, 0)]) (p2 := 20) rfl rfl rfl rfl rfl ?_
  refine q_load (v := (0, 0, 0)) (p2 := 21) rfl rfl rfl rfl ?_
  refine q_load (v := (0, 4, 0)) (p2 := 22) rfl rfl rfl rfl ?_
  refine q_icmp_s (p2 := 23) rfl (by decide) (by omega) (by omega) rfl (fun hb => absurd hb (show ¬ (¬ (0 < 4)) by omega)) (fun _ => ?_)
  refine q_load (v := (0, 0, 0)) (p2 := 24) rfl rfl rfl rfl ?_
  refine q_load (v := (0, 4, 0)) (p2 := 25) rfl rfl rfl rfl ?_
  refine q_icmp_s (p2 := 26) rfl (by decide) (by omega) (by omega) rfl (fun hb => absurd hb (show ¬ (¬ (0 < 4)) by omega)) (fun _ => ?_)
  refine q_load (v := (0, 1, 0)) (p2 := 27) rfl rfl rfl rfl ?_
  refine q_if0_s (p2 := 28) rfl (by decide) (by omega) rfl (fun hb => absurd hb (show ¬ (1 = 0) by omega)) (fun _ => ?_)
  refine q_load (v := (6, 1, 0)) (p2 := 29) rfl rfl rfl rfl ?_
  refine q_load (v := (0, 0, 0)) (p2 := 30) rfl rfl rfl rfl ?_
  refine q_aldT (tag := 0) (v := d1) (p2 := 31) rfl hm4 (by omega) (by omega) hc0 rfl ?_
  refine q_callr (xs := [(0, d1, 0)]) (p2 := 32) rfl rfl rfl rfl (fun _ _ => rfl) rfl (zc_dg_isBlank (by omega)) (Nat.le_refl _) (Nat.le_refl _) rfl ?_
  refine q_if0_s (p2 := 33) rfl (by decide) (by omega) rfl (fun _ => ?_) (fun hb => absurd (show 0 = 0 by omega) hb)
  refine q_load (v := (6, 2, 0)) (p2 := 36) rfl rfl rfl rfl ?_
  refine q_load (v := (6, 1, 0)) (p2 := 37) rfl rfl rfl rfl ?_
  refine q_load (v := (0, 4, 0)) (p2 := 38) rfl rfl rfl rfl ?_
  refine q_load (v := (0, 0, 0)) (p2 := 39) rfl rfl rfl rfl ?_
  refine q_callrE (xs := [(0, 0, 0), (0, 4, 0), (6, 1, 0), (6, 2, 0)]) (p2 := 40) rfl rfl rfl rfl (x_rcv_s 2 hs3.1) rfl (zc_scn_4e hs3 hm4 hc0 hc1 hc2 hc3 (by omega) (by omega) (by omega)) (Nat.le_refl _) (Nat.le_refl _) rfl (fun φ5 hR5 => ?_)
  obtain ⟨hs5_0, fr5⟩ := hR5
  refine q_store (loc2 := [(6, 2, 0), (6, 1, 0), (0, 4, 0), (0, 4, 0), (0, 0, 0), (0, 1, 0), (0, 0, 0), (0, 4, 0)]) (p2 := 41) rfl rfl rfl rfl rfl ?_
  refine q_load (v := (0, 4, 0)) (p2 := 42) rfl rfl rfl rfl ?_
  refine q_if0_s (p2 := 43) rfl (by decide) (by omega) rfl (fun hb => absurd hb (show ¬ (¬ (0 < 4)) by omega)) (fun _ => ?_)
  refine q_const (p2 := 44) rfl rfl ?_
  refine q_goto rfl ?_
  refine q_store (loc2 := [(6, 2, 0), (6, 1, 0), (0, 4, 0), (0, 4, 0), (0, 0, 0), (0, 1, 0), (0, 0, 0), (0, 4, 0)]) (p2 := 47) rfl rfl rfl rfl rfl ?_
  refine q_load (v := (0, 0, 0)) (p2 := 48) rfl rfl rfl rfl ?_
  refine q_load (v := (0, 4, 0)) (p2 := 49) rfl rfl rfl rfl ?_
  refine q_iop (w := 0 + 4) (z := 4) (p2 := 50) rfl (xo_add 0 4) (by decide) rfl ?_
  refine q_store (loc2 := [(6, 2, 0), (6, 1, 0), (0, 4, 0), (0, 4, 0), (0, 4, 0), (0, 1, 0), (0, 0, 0), (0, 4, 0)]) (p2 := 51) rfl rfl rfl rfl rfl ?_
  refine q_iinc (z := 1) (loc2 := [(6, 2, 0), (6, 1, 0), (0, 4, 0), (0, 4, 0), (0, 4, 0), (0, 1, 0), (0, 1, 0), (0, 4, 0)]) (p2 := 52) rfl rfl (by decide) rfl rfl ?_
  refine q_goto rfl ?_
  refine q_load (v := (0, 1, 0)) (p2 := 21) rfl rfl rfl rfl ?_
  refine q_load (v := (0, 4, 0)) (p2 := 22) rfl rfl rfl rfl ?_
  refine q_icmp_s (p2 := 23) rfl (by decide) (by omega) (by omega) rfl (fun hb => absurd hb (show ¬ (¬ (1 < 4)) by omega)) (fun _ => ?_)
  refine q_load (v := (0, 4, 0)) (p2 := 24) rfl rfl rfl rfl ?_
  refine q_load (v := (0, 4, 0)) (p2 := 25) rfl rfl rfl rfl ?_
  refine q_icmp_s (p2 := 26) rfl (by decide) (by omega) (by omega) rfl (fun _ => ?_) (fun hb => absurd (show ¬ (4 < 4) by omega) hb)
  refine q_load (v := (6, 2, 0)) (p2 := 54) rfl rfl rfl rfl ?_
  refine q_load (v := (0, 1, 0)) (p2 := 55) rfl rfl rfl rfl ?_
  refine q_if0_s (p2 := 56) rfl (by decide) (by omega) rfl (fun hb => absurd hb (show ¬ (1 = 0) by omega)) (fun _ => ?_)
  refine q_const (p2 := 57) rfl rfl ?_
  refine q_goto rfl ?_
  refine q_load (v := (0, 4, 0)) (p2 := 60) rfl rfl rfl rfl ?_
  refine q_const (p2 := 61) rfl rfl ?_
  refine q_callvE (xs := [(2, 0, 0), (0, 4, 0), (0, 0, 0), (6, 2, 0)]) (p2 := 62) rfl rfl rfl rfl (x_rcv_s 2 hs5_0.1) rfl (zc_t_add hs5_0 (by omega)) (Nat.le_refl _) (Nat.le_refl _) rfl (fun φ6 hR6 => ?_)
  obtain ⟨hs6_0, fr6⟩ := hR6
  refine q_load (v := (6, 2, 0)) (p2 := 63) rfl rfl rfl rfl ?_
  refine q_callvE (xs := [(6, 2, 0)]) (p2 := 64) rfl rfl rfl rfl (x_rcv_s 2 hs6_0.1) rfl (zc_t_rewind hs6_0 (by omega) ((x_s_ne (by decide)).trans (x_s_eq)) ((x_s_ne (by decide)).trans (x_s_eq)) ((x_s_ne (by decide)).trans (x_s_eq))) (Nat.le_refl _) (Nat.le_refl _) rfl (fun φ7 hR7 => ?_)
  obtain ⟨hs7_0, fr7⟩ := hR7
  exact q_ret rfl (⟨rfl, rfl, rfl, hs7_0, fun j hj0 hj1 hj2 hj3 => ((fr7 j (by omega)).trans ((fr6 j (by omega) (by omega) (by omega) (by omega)).trans ((fr5 j (by omega) (by omega) (by omega) (by omega)).trans ((fr3 j (by omega)).trans ((fr2 j (by omega)).trans (fr1 j (by omega)))))))⟩)
theorem zc_a_87_35 {d n sl : Nat} {φ : FH}    : x_f x_P (d + 1) 87 [(0, 35, 0)] φ n sl (x_r φ n sl (0, 0, 0)) := by
  refine x_f_of rfl ?_
  refine q_load (v := (0, 35, 0)) (p2 := 1) rfl rfl rfl rfl ?_
  refine q_const (p2 := 2) rfl rfl ?_
  refine q_icmp_s (p2 := 3) rfl (by decide) (by omega) (by omega) rfl (fun hb => absurd hb (show ¬ (35 = 32) by omega)) (fun _ => ?_)
  refine q_load (v := (0, 35, 0)) (p2 := 4) rfl rfl rfl rfl ?_
  refine q_const (p2 := 5) rfl rfl ?_
  refine q_icmp_s (p2 := 6) rfl (by decide) (by omega) (by omega) rfl (fun _ => ?_) (fun hb => absurd (show ¬ (35 = 10) by omega) hb)
  refine q_const (p2 := 9) rfl rfl ?_
  exact q_retv (v := (0, 0, 0)) rfl rfl (⟨rfl, rfl, rfl, rfl, rfl⟩)
theorem zc_t_load_hash {d n sl : Nat} {φ : FH} {tot : Nat} {at_ : Nat} {cur : Nat} {pl : Nat} {va : Nat} {fa : Nat} {fp : Nat} {sf : Nat} {sp : Nat} {no : Nat} {op : Nat} {K : Nat → Nat} {P : Nat → Nat} {V : Nat → Nat} {d1 : Nat} {tp : Nat → Nat} (hT : zq_T φ tot at_ cur pl va fa fp sf sp no op K P V) (hB : zq_tp φ tp) (hc0 : tp 0 = 35) (hc1 : tp 1 = d1) (hc2 : 48 ≤ d1 ∧ d1 ≤ 57) : x_f x_P (d + 4) 42 [(6, 2, 0), (6, 1, 0), (0, 2, 0), (11, 0, 0), (11, 0, 0), (11, 0, 0), (11, 0, 0), (11, 0, 0)] φ n sl (x_vR n sl (fun φ2 => zq_T φ2 3 0 82 0 0 0 fp 0 sp 0 0 (x_s (x_s (x_s K 0 82) 1 2) 2 0) (x_s (x_s (x_s P 0 0) 1 1) 2 2) (x_s (x_s (x_s V 0 0) 1 (0 + d1 - 48)) 2 0) ∧ ∀ j, j ≠ 2 → j ≠ 4 → j ≠ 5 → j ≠ 6 → φ2 j = φ j)) := by
  refine x_f_of rfl ?_
  refine q_load (v := (6, 2, 0)) (p2 := 1) rfl rfl rfl rfl ?_
  refine q_const (p2 := 2) rfl rfl ?_
  refine q_putfE (v := (0, 0, 0)) (p2 := 3) rfl hT.1 (by decide) rfl rfl (fun φ1 f1 hh1 hg1 ho1 fr1 => ?_)
  have hs1 := zq_T_put_2_4 hT hh1 hg1 ho1 fr1
  refine q_load (v := (6, 2, 0)) (p2 := 4) rfl rfl rfl rfl ?_
  refine q_const (p2 := 5) rfl rfl ?_
  refine q_putfE (v := (0, 0, 0)) (p2 := 6) rfl hs1.1 (by decide) rfl rfl (fun φ2 f2 hh2 hg2 ho2 fr2 => ?_)
  have hs2 := zq_T_put_2_9 hs1 hh2 hg2 ho2 fr2
  refine q_load (v := (6, 2, 0)) (p2 := 7) rfl rfl rfl rfl ?_
  refine q_const (p2 := 8) rfl rfl ?_
  refine q_putfE (v := (0, 0, 0)) (p2 := 9) rfl hs2.1 (by decide) rfl rfl (fun φ3 f3 hh3 hg3 ho3 fr3 => ?_)
  have hs3 := zq_T_put_2_11 hs2 hh3 hg3 ho3 fr3
  refine q_load (v := (0, 2, 0)) (p2 := 10) rfl rfl rfl rfl ?_
  refine q_load (v := (6, 1, 0)) (p2 := 11) rfl rfl rfl rfl ?_
  have hm4 := (zq_tp_at hB ((fr3 1 (by decide)).trans ((fr2 1 (by decide)).trans (fr1 1 (by decide)))))
  refine q_alen (p2 := 12) rfl hm4 rfl (by omega) rfl ?_
  refine q_min_b (p2 := 13) rfl rfl (by omega) (by omega) rfl ?_
  refine q_store (loc2 := [(6, 2, 0), (6, 1, 0), (0, 2, 0), (0, 2, 0), (11, 0, 0), (11, 0, 0), (11, 0, 0), (11, 0, 0)]) (p2 := 14) rfl rfl rfl rfl rfl ?_
  refine q_const (p2 := 15) rfl rfl ?_
  refine q_store (loc2 := [(6, 2, 0), (6, 1, 0), (0, 2, 0), (0, 2, 0), (0, 0, 0), (11, 0, 0), (11, 0, 0), (11, 0, 0)]) (p2 := 16) rfl rfl rfl rfl rfl ?_
  refine q_const (p2 := 17) rfl rfl ?_
  refine q_store (loc2 := [(6, 2, 0), (6, 1, 0), (0, 2, 0), (0, 2, 0), (0, 0, 0), (0, 1, 0), (11, 0, 0), (11, 0, 0)]) (p2 := 18) rfl rfl rfl rfl rfl ?_
  refine q_const (p2 := 19) rfl rfl ?_
  refine q_store (loc2 := [(6, 2, 0), (6, 1, 0), (0, 2, 0), (0, 2, 0), (0, 0, 0), (0, 1, 0), (0, 0, 0), (11, 0, 0)]) (p2 := 20) rfl rfl rfl rfl rfl ?_
  refine q_load (v := (0, 0, 0)) (p2 := 21) rfl rfl rfl rfl ?_
  refine q_load (v := (0, 2, 0)) (p2 := 22) rfl rfl rfl rfl ?_
  refine q_icmp_s (p2 := 23) rfl (by decide) (by omega) (by omega) rfl (fun hb => absurd hb (show ¬ (¬ (0 < 2)) by omega)) (fun _ => ?_)
  refine q_load (v := (0, 0, 0)) (p2 := 24) rfl rfl rfl rfl ?_
  refine q_load (v := (0, 2, 0)) (p2 := 25) rfl rfl rfl rfl ?_
  refine q_icmp_s (p2 := 26) rfl (by decide) (by omega) (by omega) rfl (fun hb => absurd hb (show ¬ (¬ (0 < 2)) by omega)) (fun _ => ?_)
  refine q_load (v := (0, 1, 0)) (p2 := 27) rfl rfl rfl rfl ?_
  refine q_if0_s (p2 := 28) rfl (by decide) (by omega) rfl (fun hb => absurd hb (show ¬ (1 = 0) by omega)) (fun _ => ?_)
  refine q_load (v := (6, 1, 0)) (p2 := 29) rfl rfl rfl rfl ?_
  refine q_load (v := (0, 0, 0)) (p2 := 30) rfl rfl rfl rfl ?_
  refine q_aldT (tag := 0) (v := 35) (p2 := 31) rfl hm4 (by omega) (by omega) hc0 rfl ?_
  refine q_callr (xs := [(0, 35, 0)]) (p2 := 32) rfl rfl rfl rfl (fun _ _ => rfl) rfl (zc_a_87_35 ) (Nat.le_refl _) (Nat.le_refl _) rfl ?_
  refine q_if0_s (p2 := 33) rfl (by decide) (by omega) rfl (fun _ => ?_) (fun hb => absurd (show 0 = 0 by omega) hb)
  refine q_load (v := (6, 2, 0)) (p2 := 36) rfl rfl rfl rfl ?_
  refine q_load (v := (6, 1, 0)) (p2 := 37) rfl rfl rfl rfl ?_
  refine q_load (v := (0, 2, 0)) (p2 := 38) rfl rfl rfl rfl ?_
  refine q_load (v := (0, 0, 0)) (p2 := 39) rfl rfl rfl rfl ?_
  refine q_callrE (xs := [(0, 0, 0), (0, 2, 0), (6, 1, 0), (6, 2, 0)]) (p2 := 40) rfl rfl rfl rfl (x_rcv_s 2 hs3.1) rfl (zc_sc_35b hs3 hm4 (by omega) hc0 (by omega) hc1) (Nat.le_refl _) (Nat.le_refl _) rfl (fun φ5 hR5 => ?_)
  obtain ⟨hs5_0, fr5⟩ := hR5
  refine q_store (loc2 := [(6, 2, 0), (6, 1, 0), (0, 2, 0), (0, 2, 0), (0, 0, 0), (0, 1, 0), (0, 0, 0), (0, 1, 0)]) (p2 := 41) rfl rfl rfl rfl rfl ?_
  refine q_load (v := (0, 1, 0)) (p2 := 42) rfl rfl rfl rfl ?_
  refine q_if0_s (p2 := 43) rfl (by decide) (by omega) rfl (fun hb => absurd hb (show ¬ (¬ (0 < 1)) by omega)) (fun _ => ?_)
  refine q_const (p2 := 44) rfl rfl ?_
  refine q_goto rfl ?_
  refine q_store (loc2 := [(6, 2, 0), (6, 1, 0), (0, 2, 0), (0, 2, 0), (0, 0, 0), (0, 1, 0), (0, 0, 0), (0, 1, 0)]) (p2 := 47) rfl rfl rfl rfl rfl ?_
  refine q_load (v := (0, 0, 0)) (p2 := 48) rfl rfl rfl rfl ?_
  refine q_load (v := (0, 1, 0)) (p2 := 49) rfl rfl rfl rfl ?_
  refine q_iop (w := 0 + 1) (z := 1) (p2 := 50) rfl (xo_add 0 1) (by decide) rfl ?_
  refine q_store (loc2 := [(6, 2, 0), (6, 1, 0), (0, 2, 0), (0, 2, 0), (0, 1, 0), (0, 1, 0), (0, 0, 0), (0, 1, 0)]) (p2 := 51) rfl rfl rfl rfl rfl ?_
  refine q_iinc (z := 1) (loc2 := [(6, 2, 0), (6, 1, 0), (0, 2, 0), (0, 2, 0), (0, 1, 0), (0, 1, 0), (0, 1, 0), (0, 1, 0)]) (p2 := 52) rfl rfl (by decide) rfl rfl ?_
  refine q_goto rfl ?_
  refine q_load (v := (0, 1, 0)) (p2 := 21) rfl rfl rfl rfl ?_
  refine q_load (v := (0, 2, 0)) (p2 := 22) rfl rfl rfl rfl ?_
  refine q_icmp_s (p2 := 23) rfl (by decide) (by omega) (by omega) rfl (fun hb => absurd hb (show ¬ (¬ (1 < 2)) by omega)) (fun _ => ?_)
  refine q_load (v := (0, 1, 0)) (p2 := 24) rfl rfl rfl rfl ?_
  refine q_load (v := (0, 2, 0)) (p2 := 25) rfl rfl rfl rfl ?_
  refine q_icmp_s (p2 := 26) rfl (by decide) (by omega) (by omega) rfl (fun hb => absurd hb (show ¬ (¬ (1 < 2)) by omega)) (fun _ => ?_)
  refine q_load (v := (0, 1, 0)) (p2 := 27) rfl rfl rfl rfl ?_
  refine q_if0_s (p2 := 28) rfl (by decide) (by omega) rfl (fun hb => absurd hb (show ¬ (1 = 0) by omega)) (fun _ => ?_)
  refine q_load (v := (6, 1, 0)) (p2 := 29) rfl rfl rfl rfl ?_
  refine q_load (v := (0, 1, 0)) (p2 := 30) rfl rfl rfl rfl ?_
  have hm6 := (zq_tp_at hm4 (fr5 1 (by decide) (by decide) (by decide) (by decide)))
  refine q_aldT (tag := 0) (v := d1) (p2 := 31) rfl hm6 (by omega) (by omega) hc1 rfl ?_
  refine q_callr (xs := [(0, d1, 0)]) (p2 := 32) rfl rfl rfl rfl (fun _ _ => rfl) rfl (zc_dg_isBlank (by omega)) (Nat.le_refl _) (Nat.le_refl _) rfl ?_
  refine q_if0_s (p2 := 33) rfl (by decide) (by omega) rfl (fun _ => ?_) (fun hb => absurd (show 0 = 0 by omega) hb)
  refine q_load (v := (6, 2, 0)) (p2 := 36) rfl rfl rfl rfl ?_
  refine q_load (v := (6, 1, 0)) (p2 := 37) rfl rfl rfl rfl ?_
  refine q_load (v := (0, 2, 0)) (p2 := 38) rfl rfl rfl rfl ?_
  refine q_load (v := (0, 1, 0)) (p2 := 39) rfl rfl rfl rfl ?_
  refine q_callrE (xs := [(0, 1, 0), (0, 2, 0), (6, 1, 0), (6, 2, 0)]) (p2 := 40) rfl rfl rfl rfl (x_rcv_s 2 hs5_0.1) rfl (zc_scn_1e hs5_0 hm6 hc1 (by omega) (by omega) (by omega)) (Nat.le_refl _) (Nat.le_refl _) rfl (fun φ7 hR7 => ?_)
  obtain ⟨hs7_0, fr7⟩ := hR7
  refine q_store (loc2 := [(6, 2, 0), (6, 1, 0), (0, 2, 0), (0, 2, 0), (0, 1, 0), (0, 1, 0), (0, 1, 0), (0, 1, 0)]) (p2 := 41) rfl rfl rfl rfl rfl ?_
  refine q_load (v := (0, 1, 0)) (p2 := 42) rfl rfl rfl rfl ?_
  refine q_if0_s (p2 := 43) rfl (by decide) (by omega) rfl (fun hb => absurd hb (show ¬ (¬ (0 < 1)) by omega)) (fun _ => ?_)
  refine q_const (p2 := 44) rfl rfl ?_
  refine q_goto rfl ?_
  refine q_store (loc2 := [(6, 2, 0), (6, 1, 0), (0, 2, 0), (0, 2, 0), (0, 1, 0), (0, 1, 0), (0, 1, 0), (0, 1, 0)]) (p2 := 47) rfl rfl rfl rfl rfl ?_
  refine q_load (v := (0, 1, 0)) (p2 := 48) rfl rfl rfl rfl ?_
  refine q_load (v := (0, 1, 0)) (p2 := 49) rfl rfl rfl rfl ?_
  refine q_iop (w := 1 + 1) (z := 2) (p2 := 50) rfl (xo_add 1 1) (by decide) rfl ?_
  refine q_store (loc2 := [(6, 2, 0), (6, 1, 0), (0, 2, 0), (0, 2, 0), (0, 2, 0), (0, 1, 0), (0, 1, 0), (0, 1, 0)]) (p2 := 51) rfl rfl rfl rfl rfl ?_
  refine q_iinc (z := 2) (loc2 := [(6, 2, 0), (6, 1, 0), (0, 2, 0), (0, 2, 0), (0, 2, 0), (0, 1, 0), (0, 2, 0), (0, 1, 0)]) (p2 := 52) rfl rfl (by decide) rfl rfl ?_
  refine q_goto rfl ?_
  refine q_load (v := (0, 2, 0)) (p2 := 21) rfl rfl rfl rfl ?_
  refine q_load (v := (0, 2, 0)) (p2 := 22) rfl rfl rfl rfl ?_
  refine q_icmp_s (p2 := 23) rfl (by decide) (by omega) (by omega) rfl (fun _ => ?_) (fun hb => absurd (show ¬ (2 < 2) by omega) hb)
  refine q_load (v := (6, 2, 0)) (p2 := 54) rfl rfl rfl rfl ?_
  refine q_load (v := (0, 1, 0)) (p2 := 55) rfl rfl rfl rfl ?_
  refine q_if0_s (p2 := 56) rfl (by decide) (by omega) rfl (fun hb => absurd hb (show ¬ (1 = 0) by omega)) (fun _ => ?_)
  refine q_const (p2 := 57) rfl rfl ?_
  refine q_goto rfl ?_
  refine q_load (v := (0, 2, 0)) (p2 := 60) rfl rfl rfl rfl ?_
  refine q_const (p2 := 61) rfl rfl ?_
  refine q_callvE (xs := [(2, 0, 0), (0, 2, 0), (0, 0, 0), (6, 2, 0)]) (p2 := 62) rfl rfl rfl rfl (x_rcv_s 2 hs7_0.1) rfl (zc_t_add hs7_0 (by omega)) (Nat.le_refl _) (Nat.le_refl _) rfl (fun φ8 hR8 => ?_)
  obtain ⟨hs8_0, fr8⟩ := hR8
  refine q_load (v := (6, 2, 0)) (p2 := 63) rfl rfl rfl rfl ?_
  refine q_callvE (xs := [(6, 2, 0)]) (p2 := 64) rfl rfl rfl rfl (x_rcv_s 2 hs8_0.1) rfl (zc_t_rewind hs8_0 (by omega) ((x_s_ne (by decide)).trans ((x_s_ne (by decide)).trans (x_s_eq))) ((x_s_ne (by decide)).trans ((x_s_ne (by decide)).trans (x_s_eq))) ((x_s_ne (by decide)).trans ((x_s_ne (by decide)).trans (x_s_eq)))) (Nat.le_refl _) (Nat.le_refl _) rfl (fun φ9 hR9 => ?_)
  obtain ⟨hs9_0, fr9⟩ := hR9
  exact q_ret rfl (⟨rfl, rfl, rfl, hs9_0, fun j hj0 hj1 hj2 hj3 => ((fr9 j (by omega)).trans ((fr8 j (by omega) (by omega) (by omega) (by omega)).trans ((fr7 j (by omega) (by omega) (by omega) (by omega)).trans ((fr5 j (by omega) (by omega) (by omega) (by omega)).trans ((fr3 j (by omega)).trans ((fr2 j (by omega)).trans (fr1 j (by omega))))))))⟩)
theorem zc_a_87_91 {d n sl : Nat} {φ : FH}    : x_f x_P (d + 1) 87 [(0, 91, 0)] φ n sl (x_r φ n sl (0, 0, 0)) := by
  refine x_f_of rfl ?_
  refine q_load (v := (0, 91, 0)) (p2 := 1) rfl rfl rfl rfl ?_
  refine q_const (p2 := 2) rfl rfl ?_
  refine q_icmp_s (p2 := 3) rfl (by decide) (by omega) (by omega) rfl (fun hb => absurd hb (show ¬ (91 = 32) by omega)) (fun _ => ?_)
  refine q_load (v := (0, 91, 0)) (p2 := 4) rfl rfl rfl rfl ?_
  refine q_const (p2 := 5) rfl rfl ?_
  refine q_icmp_s (p2 := 6) rfl (by decide) (by omega) (by omega) rfl (fun _ => ?_) (fun hb => absurd (show ¬ (91 = 10) by omega) hb)
  refine q_const (p2 := 9) rfl rfl ?_
  exact q_retv (v := (0, 0, 0)) rfl rfl (⟨rfl, rfl, rfl, rfl, rfl⟩)
theorem zc_a_87_44 {d n sl : Nat} {φ : FH}    : x_f x_P (d + 1) 87 [(0, 44, 0)] φ n sl (x_r φ n sl (0, 0, 0)) := by
  refine x_f_of rfl ?_
  refine q_load (v := (0, 44, 0)) (p2 := 1) rfl rfl rfl rfl ?_
  refine q_const (p2 := 2) rfl rfl ?_
  refine q_icmp_s (p2 := 3) rfl (by decide) (by omega) (by omega) rfl (fun hb => absurd hb (show ¬ (44 = 32) by omega)) (fun _ => ?_)
  refine q_load (v := (0, 44, 0)) (p2 := 4) rfl rfl rfl rfl ?_
  refine q_const (p2 := 5) rfl rfl ?_
  refine q_icmp_s (p2 := 6) rfl (by decide) (by omega) (by omega) rfl (fun _ => ?_) (fun hb => absurd (show ¬ (44 = 10) by omega) hb)
  refine q_const (p2 := 9) rfl rfl ?_
  exact q_retv (v := (0, 0, 0)) rfl rfl (⟨rfl, rfl, rfl, rfl, rfl⟩)
theorem zc_a_87_93 {d n sl : Nat} {φ : FH}    : x_f x_P (d + 1) 87 [(0, 93, 0)] φ n sl (x_r φ n sl (0, 0, 0)) := by
  refine x_f_of rfl ?_
  refine q_load (v := (0, 93, 0)) (p2 := 1) rfl rfl rfl rfl ?_
  refine q_const (p2 := 2) rfl rfl ?_
  refine q_icmp_s (p2 := 3) rfl (by decide) (by omega) (by omega) rfl (fun hb => absurd hb (show ¬ (93 = 32) by omega)) (fun _ => ?_)
  refine q_load (v := (0, 93, 0)) (p2 := 4) rfl rfl rfl rfl ?_
  refine q_const (p2 := 5) rfl rfl ?_
  refine q_icmp_s (p2 := 6) rfl (by decide) (by omega) (by omega) rfl (fun _ => ?_) (fun hb => absurd (show ¬ (93 = 10) by omega) hb)
  refine q_const (p2 := 9) rfl rfl ?_
  exact q_retv (v := (0, 0, 0)) rfl rfl (⟨rfl, rfl, rfl, rfl, rfl⟩)
theorem zc_t_load_list {d n sl : Nat} {φ : FH} {tot : Nat} {at_ : Nat} {cur : Nat} {pl : Nat} {va : Nat} {fa : Nat} {fp : Nat} {sf : Nat} {sp : Nat} {no : Nat} {op : Nat} {K : Nat → Nat} {P : Nat → Nat} {V : Nat → Nat} {d1 : Nat} {d2 : Nat} {tp : Nat → Nat} (hT : zq_T φ tot at_ cur pl va fa fp sf sp no op K P V) (hB : zq_tp φ tp) (hc0 : tp 0 = 91) (hc1 : tp 1 = 35) (hc2 : tp 2 = d1) (hc3 : tp 3 = 44) (hc4 : tp 4 = 35) (hc5 : tp 5 = d2) (hc6 : tp 6 = 93) (hc7 : 48 ≤ d1 ∧ d1 ≤ 57 ∧ 48 ≤ d2 ∧ d2 ≤ 57) : x_f x_P (d + 4) 42 [(6, 2, 0), (6, 1, 0), (0, 7, 0), (11, 0, 0), (11, 0, 0), (11, 0, 0), (11, 0, 0), (11, 0, 0)] φ n sl (x_vR n sl (fun φ2 => zq_T φ2 8 0 75 0 0 0 fp 0 sp 0 0 (x_s (x_s (x_s (x_s (x_s (x_s (x_s (x_s K 0 75) 1 82) 2 2) 3 77) 4 82) 5 2) 6 76) 7 0) (x_s (x_s (x_s (x_s (x_s (x_s (x_s (x_s P 0 0) 1 1) 2 2) 3 3) 4 4) 5 5) 6 6) 7 7) (x_s (x_s (x_s (x_s (x_s (x_s (x_s (x_s V 0 0) 1 0) 2 (0 + d1 - 48)) 3 0) 4 0) 5 (0 + d2 - 48)) 6 0) 7 0) ∧ ∀ j, j ≠ 2 → j ≠ 4 → j ≠ 5 → j ≠ 6 → φ2 j = φ j)) := by
  refine x_f_of rfl ?_
  refine q_load (v := (6, 2, 0)) (p2 := 1) rfl rfl rfl rfl ?_
  refine q_const (p2 := 2) rfl rfl ?_
  refine q_putfE (v := (0, 0, 0)) (p2 := 3) rfl hT.1 (by decide) rfl rfl (fun φ1 f1 hh1 hg1 ho1 fr1 => ?_)
  have hs1 := zq_T_put_2_4 hT hh1 hg1 ho1 fr1
  refine q_load (v := (6, 2, 0)) (p2 := 4) rfl rfl rfl rfl ?_
  refine q_const (p2 := 5) rfl rfl ?_
  refine q_putfE (v := (0, 0, 0)) (p2 := 6) rfl hs1.1 (by decide) rfl rfl (fun φ2 f2 hh2 hg2 ho2 fr2 => ?_)
  have hs2 := zq_T_put_2_9 hs1 hh2 hg2 ho2 fr2
  refine q_load (v := (6, 2, 0)) (p2 := 7) rfl rfl rfl rfl ?_
  refine q_const (p2 := 8) rfl rfl ?_
  refine q_putfE (v := (0, 0, 0)) (p2 := 9) rfl hs2.1 (by decide) rfl rfl (fun φ3 f3 hh3 hg3 ho3 fr3 => ?_)
  have hs3 := zq_T_put_2_11 hs2 hh3 hg3 ho3 fr3
  refine q_load (v := (0, 7, 0)) (p2 := 10) rfl rfl rfl rfl ?_
  refine q_load (v := (6, 1, 0)) (p2 := 11) rfl rfl rfl rfl ?_
  have hm4 := (zq_tp_at hB ((fr3 1 (by decide)).trans ((fr2 1 (by decide)).trans (fr1 1 (by decide)))))
  refine q_alen (p2 := 12) rfl hm4 rfl (by omega) rfl ?_
  refine q_min_b (p2 := 13) rfl rfl (by omega) (by omega) rfl ?_
  refine q_store (loc2 := [(6, 2, 0), (6, 1, 0), (0, 7, 0), (0, 7, 0), (11, 0, 0), (11, 0, 0), (11, 0, 0), (11, 0, 0)]) (p2 := 14) rfl rfl rfl rfl rfl ?_
  refine q_const (p2 := 15) rfl rfl ?_
  refine q_store (loc2 := [(6, 2, 0), (6, 1, 0), (0, 7, 0), (0, 7, 0), (0, 0, 0), (11, 0, 0), (11, 0, 0), (11, 0, 0)]) (p2 := 16) rfl rfl rfl rfl rfl ?_
  refine q_const (p2 := 17) rfl rfl ?_
  refine q_store (loc2 := [(6, 2, 0), (6, 1, 0), (0, 7, 0), (0, 7, 0), (0, 0, 0), (0, 1, 0), (11, 0, 0), (11, 0, 0)]) (p2 := 18) rfl rfl rfl rfl rfl ?_
  refine q_const (p2 := 19) rfl rfl ?_
  refine q_store (loc2 := [(6, 2, 0), (6, 1, 0), (0, 7, 0), (0, 7, 0), (0, 0, 0), (0, 1, 0), (0, 0, 0), (11, 0, 0)]) (p2 := 20) rfl rfl rfl rfl rfl ?_
  refine q_load (v := (0, 0, 0)) (p2 := 21) rfl rfl rfl rfl ?_
  refine q_load (v := (0, 7, 0)) (p2 := 22) rfl rfl rfl rfl ?_
  refine q_icmp_s (p2 := 23) rfl (by decide) (by omega) (by omega) rfl (fun hb => absurd hb (show ¬ (¬ (0 < 7)) by omega)) (fun _ => ?_)
  refine q_load (v := (0, 0, 0)) (p2 := 24) rfl rfl rfl rfl ?_
  refine q_load (v := (0, 7, 0)) (p2 := 25) rfl rfl rfl rfl ?_
  refine q_icmp_s (p2 := 26) rfl (by decide) (by omega) (by omega) rfl (fun hb => absurd hb (show ¬ (¬ (0 < 7)) by omega)) (fun _ => ?_)
  refine q_load (v := (0, 1, 0)) (p2 := 27) rfl rfl rfl rfl ?_
  refine q_if0_s (p2 := 28) rfl (by decide) (by omega) rfl (fun hb => absurd hb (show ¬ (1 = 0) by omega)) (fun _ => ?_)
  refine q_load (v := (6, 1, 0)) (p2 := 29) rfl rfl rfl rfl ?_
  refine q_load (v := (0, 0, 0)) (p2 := 30) rfl rfl rfl rfl ?_
  refine q_aldT (tag := 0) (v := 91) (p2 := 31) rfl hm4 (by omega) (by omega) hc0 rfl ?_
  refine q_callr (xs := [(0, 91, 0)]) (p2 := 32) rfl rfl rfl rfl (fun _ _ => rfl) rfl (zc_a_87_91 ) (Nat.le_refl _) (Nat.le_refl _) rfl ?_
  refine q_if0_s (p2 := 33) rfl (by decide) (by omega) rfl (fun _ => ?_) (fun hb => absurd (show 0 = 0 by omega) hb)
  refine q_load (v := (6, 2, 0)) (p2 := 36) rfl rfl rfl rfl ?_
  refine q_load (v := (6, 1, 0)) (p2 := 37) rfl rfl rfl rfl ?_
  refine q_load (v := (0, 7, 0)) (p2 := 38) rfl rfl rfl rfl ?_
  refine q_load (v := (0, 0, 0)) (p2 := 39) rfl rfl rfl rfl ?_
  refine q_callrE (xs := [(0, 0, 0), (0, 7, 0), (6, 1, 0), (6, 2, 0)]) (p2 := 40) rfl rfl rfl rfl (x_rcv_s 2 hs3.1) rfl (zc_sc_91a hs3 hm4 (by omega) hc0 (by omega) hc1 hc2) (Nat.le_refl _) (Nat.le_refl _) rfl (fun φ5 hR5 => ?_)
  obtain ⟨hs5_0, fr5⟩ := hR5
  refine q_store (loc2 := [(6, 2, 0), (6, 1, 0), (0, 7, 0), (0, 7, 0), (0, 0, 0), (0, 1, 0), (0, 0, 0), (0, 1, 0)]) (p2 := 41) rfl rfl rfl rfl rfl ?_
  refine q_load (v := (0, 1, 0)) (p2 := 42) rfl rfl rfl rfl ?_
  refine q_if0_s (p2 := 43) rfl (by decide) (by omega) rfl (fun hb => absurd hb (show ¬ (¬ (0 < 1)) by omega)) (fun _ => ?_)
  refine q_const (p2 := 44) rfl rfl ?_
  refine q_goto rfl ?_
  refine q_store (loc2 := [(6, 2, 0), (6, 1, 0), (0, 7, 0), (0, 7, 0), (0, 0, 0), (0, 1, 0), (0, 0, 0), (0, 1, 0)]) (p2 := 47) rfl rfl rfl rfl rfl ?_
  refine q_load (v := (0, 0, 0)) (p2 := 48) rfl rfl rfl rfl ?_
  refine q_load (v := (0, 1, 0)) (p2 := 49) rfl rfl rfl rfl ?_
  refine q_iop (w := 0 + 1) (z := 1) (p2 := 50) rfl (xo_add 0 1) (by decide) rfl ?_
  refine q_store (loc2 := [(6, 2, 0), (6, 1, 0), (0, 7, 0), (0, 7, 0), (0, 1, 0), (0, 1, 0), (0, 0, 0), (0, 1, 0)]) (p2 := 51) rfl rfl rfl rfl rfl ?_
  refine q_iinc (z := 1) (loc2 := [(6, 2, 0), (6, 1, 0), (0, 7, 0), (0, 7, 0), (0, 1, 0), (0, 1, 0), (0, 1, 0), (0, 1, 0)]) (p2 := 52) rfl rfl (by decide) rfl rfl ?_
  refine q_goto rfl ?_
  refine q_load (v := (0, 1, 0)) (p2 := 21) rfl rfl rfl rfl ?_
  refine q_load (v := (0, 7, 0)) (p2 := 22) rfl rfl rfl rfl ?_
  refine q_icmp_s (p2 := 23) rfl (by decide) (by omega) (by omega) rfl (fun hb => absurd hb (show ¬ (¬ (1 < 7)) by omega)) (fun _ => ?_)
  refine q_load (v := (0, 1, 0)) (p2 := 24) rfl rfl rfl rfl ?_
  refine q_load (v := (0, 7, 0)) (p2 := 25) rfl rfl rfl rfl ?_
  refine q_icmp_s (p2 := 26) rfl (by decide) (by omega) (by omega) rfl (fun hb => absurd hb (show ¬ (¬ (1 < 7)) by omega)) (fun _ => ?_)
  refine q_load (v := (0, 1, 0)) (p2 := 27) rfl rfl rfl rfl ?_
  refine q_if0_s (p2 := 28) rfl (by decide) (by omega) rfl (fun hb => absurd hb (show ¬ (1 = 0) by omega)) (fun _ => ?_)
  refine q_load (v := (6, 1, 0)) (p2 := 29) rfl rfl rfl rfl ?_
  refine q_load (v := (0, 1, 0)) (p2 := 30) rfl rfl rfl rfl ?_
  have hm6 := (zq_tp_at hm4 (fr5 1 (by decide) (by decide) (by decide) (by decide)))
  refine q_aldT (tag := 0) (v := 35) (p2 := 31) rfl hm6 (by omega) (by omega) hc1 rfl ?_
  refine q_callr (xs := [(0, 35, 0)]) (p2 := 32) rfl rfl rfl rfl (fun _ _ => rfl) rfl (zc_a_87_35 ) (Nat.le_refl _) (Nat.le_refl _) rfl ?_
  refine q_if0_s (p2 := 33) rfl (by decide) (by omega) rfl (fun _ => ?_) (fun hb => absurd (show 0 = 0 by omega) hb)
  refine q_load (v := (6, 2, 0)) (p2 := 36) rfl rfl rfl rfl ?_
  refine q_load (v := (6, 1, 0)) (p2 := 37) rfl rfl rfl rfl ?_
  refine q_load (v := (0, 7, 0)) (p2 := 38) rfl rfl rfl rfl ?_
  refine q_load (v := (0, 1, 0)) (p2 := 39) rfl rfl rfl rfl ?_
  refine q_callrE (xs := [(0, 1, 0), (0, 7, 0), (6, 1, 0), (6, 2, 0)]) (p2 := 40) rfl rfl rfl rfl (x_rcv_s 2 hs5_0.1) rfl (zc_sc_35a hs5_0 hm6 (by omega) hc1 (by omega) hc2 hc3) (Nat.le_refl _) (Nat.le_refl _) rfl (fun φ7 hR7 => ?_)
  obtain ⟨hs7_0, fr7⟩ := hR7
  refine q_store (loc2 := [(6, 2, 0), (6, 1, 0), (0, 7, 0), (0, 7, 0), (0, 1, 0), (0, 1, 0), (0, 1, 0), (0, 1, 0)]) (p2 := 41) rfl rfl rfl rfl rfl ?_
  refine q_load (v := (0, 1, 0)) (p2 := 42) rfl rfl rfl rfl ?_
  refine q_if0_s (p2 := 43) rfl (by decide) (by omega) rfl (fun hb => absurd hb (show ¬ (¬ (0 < 1)) by omega)) (fun _ => ?_)
  refine q_const (p2 := 44) rfl rfl ?_
  refine q_goto rfl ?_
  refine q_store (loc2 := [(6, 2, 0), (6, 1, 0), (0, 7, 0), (0, 7, 0), (0, 1, 0), (0, 1, 0), (0, 1, 0), (0, 1, 0)]) (p2 := 47) rfl rfl rfl rfl rfl ?_
  refine q_load (v := (0, 1, 0)) (p2 := 48) rfl rfl rfl rfl ?_
  refine q_load (v := (0, 1, 0)) (p2 := 49) rfl rfl rfl rfl ?_
  refine q_iop (w := 1 + 1) (z := 2) (p2 := 50) rfl (xo_add 1 1) (by decide) rfl ?_
  refine q_store (loc2 := [(6, 2, 0), (6, 1, 0), (0, 7, 0), (0, 7, 0), (0, 2, 0), (0, 1, 0), (0, 1, 0), (0, 1, 0)]) (p2 := 51) rfl rfl rfl rfl rfl ?_
  refine q_iinc (z := 2) (loc2 := [(6, 2, 0), (6, 1, 0), (0, 7, 0), (0, 7, 0), (0, 2, 0), (0, 1, 0), (0, 2, 0), (0, 1, 0)]) (p2 := 52) rfl rfl (by decide) rfl rfl ?_
  refine q_goto rfl ?_
  refine q_load (v := (0, 2, 0)) (p2 := 21) rfl rfl rfl rfl ?_
  refine q_load (v := (0, 7, 0)) (p2 := 22) rfl rfl rfl rfl ?_
  refine q_icmp_s (p2 := 23) rfl (by decide) (by omega) (by omega) rfl (fun hb => absurd hb (show ¬ (¬ (2 < 7)) by omega)) (fun _ => ?_)
  refine q_load (v := (0, 2, 0)) (p2 := 24) rfl rfl rfl rfl ?_
  refine q_load (v := (0, 7, 0)) (p2 := 25) rfl rfl rfl rfl ?_
  refine q_icmp_s (p2 := 26) rfl (by decide) (by omega) (by omega) rfl (fun hb => absurd hb (show ¬ (¬ (2 < 7)) by omega)) (fun _ => ?_)
  refine q_load (v := (0, 1, 0)) (p2 := 27) rfl rfl rfl rfl ?_
  refine q_if0_s (p2 := 28) rfl (by decide) (by omega) rfl (fun hb => absurd hb (show ¬ (1 = 0) by omega)) (fun _ => ?_)
  refine q_load (v := (6, 1, 0)) (p2 := 29) rfl rfl rfl rfl ?_
  refine q_load (v := (0, 2, 0)) (p2 := 30) rfl rfl rfl rfl ?_
  have hm8 := (zq_tp_at hm6 (fr7 1 (by decide) (by decide) (by decide) (by decide)))
  refine q_aldT (tag := 0) (v := d1) (p2 := 31) rfl hm8 (by omega) (by omega) hc2 rfl ?_
  refine q_callr (xs := [(0, d1, 0)]) (p2 := 32) rfl rfl rfl rfl (fun _ _ => rfl) rfl (zc_dg_isBlank (by omega)) (Nat.le_refl _) (Nat.le_refl _) rfl ?_
  refine q_if0_s (p2 := 33) rfl (by decide) (by omega) rfl (fun _ => ?_) (fun hb => absurd (show 0 = 0 by omega) hb)
  refine q_load (v := (6, 2, 0)) (p2 := 36) rfl rfl rfl rfl ?_
  refine q_load (v := (6, 1, 0)) (p2 := 37) rfl rfl rfl rfl ?_
  refine q_load (v := (0, 7, 0)) (p2 := 38) rfl rfl rfl rfl ?_
  refine q_load (v := (0, 2, 0)) (p2 := 39) rfl rfl rfl rfl ?_
  refine q_callrE (xs := [(0, 2, 0), (0, 7, 0), (6, 1, 0), (6, 2, 0)]) (p2 := 40) rfl rfl rfl rfl (x_rcv_s 2 hs7_0.1) rfl (zc_scn_1_44 hs7_0 hm8 hc3 hc2 (by omega) (by omega) (by omega)) (Nat.le_refl _) (Nat.le_refl _) rfl (fun φ9 hR9 => ?_)
  obtain ⟨hs9_0, fr9⟩ := hR9
  refine q_store (loc2 := [(6, 2, 0), (6, 1, 0), (0, 7, 0), (0, 7, 0), (0, 2, 0), (0, 1, 0), (0, 2, 0), (0, 1, 0)]) (p2 := 41) rfl rfl rfl rfl rfl ?_
  refine q_load (v := (0, 1, 0)) (p2 := 42) rfl rfl rfl rfl ?_
  refine q_if0_s (p2 := 43) rfl (by decide) (by omega) rfl (fun hb => absurd hb (show ¬ (¬ (0 < 1)) by omega)) (fun _ => ?_)
  refine q_const (p2 := 44) rfl rfl ?_
  refine q_goto rfl ?_
  refine q_store (loc2 := [(6, 2, 0), (6, 1, 0), (0, 7, 0), (0, 7, 0), (0, 2, 0), (0, 1, 0), (0, 2, 0), (0, 1, 0)]) (p2 := 47) rfl rfl rfl rfl rfl ?_
  refine q_load (v := (0, 2, 0)) (p2 := 48) rfl rfl rfl rfl ?_
  refine q_load (v := (0, 1, 0)) (p2 := 49) rfl rfl rfl rfl ?_
  refine q_iop (w := 2 + 1) (z := 3) (p2 := 50) rfl (xo_add 2 1) (by decide) rfl ?_
  refine q_store (loc2 := [(6, 2, 0), (6, 1, 0), (0, 7, 0), (0, 7, 0), (0, 3, 0), (0, 1, 0), (0, 2, 0), (0, 1, 0)]) (p2 := 51) rfl rfl rfl rfl rfl ?_
  refine q_iinc (z := 3) (loc2 := [(6, 2, 0), (6, 1, 0), (0, 7, 0), (0, 7, 0), (0, 3, 0), (0, 1, 0), (0, 3, 0), (0, 1, 0)]) (p2 := 52) rfl rfl (by decide) rfl rfl ?_
  refine q_goto rfl ?_
  refine q_load (v := (0, 3, 0)) (p2 := 21) rfl rfl rfl rfl ?_
  refine q_load (v := (0, 7, 0)) (p2 := 22) rfl rfl rfl rfl ?_
  refine q_icmp_s (p2 := 23) rfl (by decide) (by omega) (by omega) rfl (fun hb => absurd hb (show ¬ (¬ (3 < 7)) by omega)) (fun _ => ?_)
  refine q_load (v := (0, 3, 0)) (p2 := 24) rfl rfl rfl rfl ?_
  refine q_load (v := (0, 7, 0)) (p2 := 25) rfl rfl rfl rfl ?_
  refine q_icmp_s (p2 := 26) rfl (by decide) (by omega) (by omega) rfl (fun hb => absurd hb (show ¬ (¬ (3 < 7)) by omega)) (fun _ => ?_)
  refine q_load (v := (0, 1, 0)) (p2 := 27) rfl rfl rfl rfl ?_
  refine q_if0_s (p2 := 28) rfl (by decide) (by omega) rfl (fun hb => absurd hb (show ¬ (1 = 0) by omega)) (fun _ => ?_)
  refine q_load (v := (6, 1, 0)) (p2 := 29) rfl rfl rfl rfl ?_
  refine q_load (v := (0, 3, 0)) (p2 := 30) rfl rfl rfl rfl ?_
  have hm10 := (zq_tp_at hm8 (fr9 1 (by decide) (by decide) (by decide) (by decide)))
  refine q_aldT (tag := 0) (v := 44) (p2 := 31) rfl hm10 (by omega) (by omega) hc3 rfl ?_
  refine q_callr (xs := [(0, 44, 0)]) (p2 := 32) rfl rfl rfl rfl (fun _ _ => rfl) rfl (zc_a_87_44 ) (Nat.le_refl _) (Nat.le_refl _) rfl ?_
  refine q_if0_s (p2 := 33) rfl (by decide) (by omega) rfl (fun _ => ?_) (fun hb => absurd (show 0 = 0 by omega) hb)
  refine q_load (v := (6, 2, 0)) (p2 := 36) rfl rfl rfl rfl ?_
  refine q_load (v := (6, 1, 0)) (p2 := 37) rfl rfl rfl rfl ?_
  refine q_load (v := (0, 7, 0)) (p2 := 38) rfl rfl rfl rfl ?_
  refine q_load (v := (0, 3, 0)) (p2 := 39) rfl rfl rfl rfl ?_
  refine q_callrE (xs := [(0, 3, 0), (0, 7, 0), (6, 1, 0), (6, 2, 0)]) (p2 := 40) rfl rfl rfl rfl (x_rcv_s 2 hs9_0.1) rfl (zc_sc_44a hs9_0 hm10 (by omega) hc3 (by omega) hc4 hc5) (Nat.le_refl _) (Nat.le_refl _) rfl (fun φ11 hR11 => ?_)
  obtain ⟨hs11_0, fr11⟩ := hR11
  refine q_store (loc2 := [(6, 2, 0), (6, 1, 0), (0, 7, 0), (0, 7, 0), (0, 3, 0), (0, 1, 0), (0, 3, 0), (0, 1, 0)]) (p2 := 41) rfl rfl rfl rfl rfl ?_
  refine q_load (v := (0, 1, 0)) (p2 := 42) rfl rfl rfl rfl ?_
  refine q_if0_s (p2 := 43) rfl (by decide) (by omega) rfl (fun hb => absurd hb (show ¬ (¬ (0 < 1)) by omega)) (fun _ => ?_)
  refine q_const (p2 := 44) rfl rfl ?_
  refine q_goto rfl ?_
  refine q_store (loc2 := [(6, 2, 0), (6, 1, 0), (0, 7, 0), (0, 7, 0), (0, 3, 0), (0, 1, 0), (0, 3, 0), (0, 1, 0)]) (p2 := 47) rfl rfl rfl rfl rfl ?_
  refine q_load (v := (0, 3, 0)) (p2 := 48) rfl rfl rfl rfl ?_
  refine q_load (v := (0, 1, 0)) (p2 := 49) rfl rfl rfl rfl ?_
  refine q_iop (w := 3 + 1) (z := 4) (p2 := 50) rfl (xo_add 3 1) (by decide) rfl ?_
  refine q_store (loc2 := [(6, 2, 0), (6, 1, 0), (0, 7, 0), (0, 7, 0), (0, 4, 0), (0, 1, 0), (0, 3, 0), (0, 1, 0)]) (p2 := 51) rfl rfl rfl rfl rfl ?_
  refine q_iinc (z := 4) (loc2 := [(6, 2, 0), (6, 1, 0), (0, 7, 0), (0, 7, 0), (0, 4, 0), (0, 1, 0), (0, 4, 0), (0, 1, 0)]) (p2 := 52) rfl rfl (by decide) rfl rfl ?_
  refine q_goto rfl ?_
  refine q_load (v := (0, 4, 0)) (p2 := 21) rfl rfl rfl rfl ?_
  refine q_load (v := (0, 7, 0)) (p2 := 22) rfl rfl rfl rfl ?_
  refine q_icmp_s (p2 := 23) rfl (by decide) (by omega) (by omega) rfl (fun hb => absurd hb (show ¬ (¬ (4 < 7)) by omega)) (fun _ => ?_)
  refine q_load (v := (0, 4, 0)) (p2 := 24) rfl rfl rfl rfl ?_
  refine q_load (v := (0, 7, 0)) (p2 := 25) rfl rfl rfl rfl ?_
  refine q_icmp_s (p2 := 26) rfl (by decide) (by omega) (by omega) rfl (fun hb => absurd hb (show ¬ (¬ (4 < 7)) by omega)) (fun _ => ?_)
  refine q_load (v := (0, 1, 0)) (p2 := 27) rfl rfl rfl rfl ?_
  refine q_if0_s (p2 := 28) rfl (by decide) (by omega) rfl (fun hb => absurd hb (show ¬ (1 = 0) by omega)) (fun _ => ?_)
  refine q_load (v := (6, 1, 0)) (p2 := 29) rfl rfl rfl rfl ?_
  refine q_load (v := (0, 4, 0)) (p2 := 30) rfl rfl rfl rfl ?_
  have hm12 := (zq_tp_at hm10 (fr11 1 (by decide) (by decide) (by decide) (by decide)))
  refine q_aldT (tag := 0) (v := 35) (p2 := 31) rfl hm12 (by omega) (by omega) hc4 rfl ?_
  refine q_callr (xs := [(0, 35, 0)]) (p2 := 32) rfl rfl rfl rfl (fun _ _ => rfl) rfl (zc_a_87_35 ) (Nat.le_refl _) (Nat.le_refl _) rfl ?_
  refine q_if0_s (p2 := 33) rfl (by decide) (by omega) rfl (fun _ => ?_) (fun hb => absurd (show 0 = 0 by omega) hb)
  refine q_load (v := (6, 2, 0)) (p2 := 36) rfl rfl rfl rfl ?_
  refine q_load (v := (6, 1, 0)) (p2 := 37) rfl rfl rfl rfl ?_
  refine q_load (v := (0, 7, 0)) (p2 := 38) rfl rfl rfl rfl ?_
  refine q_load (v := (0, 4, 0)) (p2 := 39) rfl rfl rfl rfl ?_
  refine q_callrE (xs := [(0, 4, 0), (0, 7, 0), (6, 1, 0), (6, 2, 0)]) (p2 := 40) rfl rfl rfl rfl (x_rcv_s 2 hs11_0.1) rfl (zc_sc_35a hs11_0 hm12 (by omega) hc4 (by omega) hc5 hc6) (Nat.le_refl _) (Nat.le_refl _) rfl (fun φ13 hR13 => ?_)
  obtain ⟨hs13_0, fr13⟩ := hR13
  refine q_store (loc2 := [(6, 2, 0), (6, 1, 0), (0, 7, 0), (0, 7, 0), (0, 4, 0), (0, 1, 0), (0, 4, 0), (0, 1, 0)]) (p2 := 41) rfl rfl rfl rfl rfl ?_
  refine q_load (v := (0, 1, 0)) (p2 := 42) rfl rfl rfl rfl ?_
  refine q_if0_s (p2 := 43) rfl (by decide) (by omega) rfl (fun hb => absurd hb (show ¬ (¬ (0 < 1)) by omega)) (fun _ => ?_)
  refine q_const (p2 := 44) rfl rfl ?_
  refine q_goto rfl ?_
  refine q_store (loc2 := [(6, 2, 0), (6, 1, 0), (0, 7, 0), (0, 7, 0), (0, 4, 0), (0, 1, 0), (0, 4, 0), (0, 1, 0)]) (p2 := 47) rfl rfl rfl rfl rfl ?_
  refine q_load (v := (0, 4, 0)) (p2 := 48) rfl rfl rfl rfl ?_
  refine q_load (v := (0, 1, 0)) (p2 := 49) rfl rfl rfl rfl ?_
  refine q_iop (w := 4 + 1) (z := 5) (p2 := 50) rfl (xo_add 4 1) (by decide) rfl ?_
  refine q_store (loc2 := [(6, 2, 0), (6, 1, 0), (0, 7, 0), (0, 7, 0), (0, 5, 0), (0, 1, 0), (0, 4, 0), (0, 1, 0)]) (p2 := 51) rfl rfl rfl rfl rfl ?_
  refine q_iinc (z := 5) (loc2 := [(6, 2, 0), (6, 1, 0), (0, 7, 0), (0, 7, 0), (0, 5, 0), (0, 1, 0), (0, 5, 0), (0, 1, 0)]) (p2 := 52) rfl rfl (by decide) rfl rfl ?_
  refine q_goto rfl ?_
  refine q_load (v := (0, 5, 0)) (p2 := 21) rfl rfl rfl rfl ?_
  refine q_load (v := (0, 7, 0)) (p2 := 22) rfl rfl rfl rfl ?_
  refine q_icmp_s (p2 := 23) rfl (by decide) (by omega) (by omega) rfl (fun hb => absurd hb (show ¬ (¬ (5 < 7)) by omega)) (fun _ => ?_)
  refine q_load (v := (0, 5, 0)) (p2 := 24) rfl rfl rfl rfl ?_
  refine q_load (v := (0, 7, 0)) (p2 := 25) rfl rfl rfl rfl ?_
  refine q_icmp_s (p2 := 26) rfl (by decide) (by omega) (by omega) rfl (fun hb => absurd hb (show ¬ (¬ (5 < 7)) by omega)) (fun _ => ?_)
  refine q_load (v := (0, 1, 0)) (p2 := 27) rfl rfl rfl rfl ?_
  refine q_if0_s (p2 := 28) rfl (by decide) (by omega) rfl (fun hb => absurd hb (show ¬ (1 = 0) by omega)) (fun _ => ?_)
  refine q_load (v := (6, 1, 0)) (p2 := 29) rfl rfl rfl rfl ?_
  refine q_load (v := (0, 5, 0)) (p2 := 30) rfl rfl rfl rfl ?_
  have hm14 := (zq_tp_at hm12 (fr13 1 (by decide) (by decide) (by decide) (by decide)))
  refine q_aldT (tag := 0) (v := d2) (p2 := 31) rfl hm14 (by omega) (by omega) hc5 rfl ?_
  refine q_callr (xs := [(0, d2, 0)]) (p2 := 32) rfl rfl rfl rfl (fun _ _ => rfl) rfl (zc_dg_isBlank (by omega)) (Nat.le_refl _) (Nat.le_refl _) rfl ?_
  refine q_if0_s (p2 := 33) rfl (by decide) (by omega) rfl (fun _ => ?_) (fun hb => absurd (show 0 = 0 by omega) hb)
  refine q_load (v := (6, 2, 0)) (p2 := 36) rfl rfl rfl rfl ?_
  refine q_load (v := (6, 1, 0)) (p2 := 37) rfl rfl rfl rfl ?_
  refine q_load (v := (0, 7, 0)) (p2 := 38) rfl rfl rfl rfl ?_
  refine q_load (v := (0, 5, 0)) (p2 := 39) rfl rfl rfl rfl ?_
  refine q_callrE (xs := [(0, 5, 0), (0, 7, 0), (6, 1, 0), (6, 2, 0)]) (p2 := 40) rfl rfl rfl rfl (x_rcv_s 2 hs13_0.1) rfl (zc_scn_1_93 hs13_0 hm14 hc6 hc5 (by omega) (by omega) (by omega)) (Nat.le_refl _) (Nat.le_refl _) rfl (fun φ15 hR15 => ?_)
  obtain ⟨hs15_0, fr15⟩ := hR15
  refine q_store (loc2 := [(6, 2, 0), (6, 1, 0), (0, 7, 0), (0, 7, 0), (0, 5, 0), (0, 1, 0), (0, 5, 0), (0, 1, 0)]) (p2 := 41) rfl rfl rfl rfl rfl ?_
  refine q_load (v := (0, 1, 0)) (p2 := 42) rfl rfl rfl rfl ?_
  refine q_if0_s (p2 := 43) rfl (by decide) (by omega) rfl (fun hb => absurd hb (show ¬ (¬ (0 < 1)) by omega)) (fun _ => ?_)
  refine q_const (p2 := 44) rfl rfl ?_
  refine q_goto rfl ?_
  refine q_store (loc2 := [(6, 2, 0), (6, 1, 0), (0, 7, 0), (0, 7, 0), (0, 5, 0), (0, 1, 0), (0, 5, 0), (0, 1, 0)]) (p2 := 47) rfl rfl rfl rfl rfl ?_
  refine q_load (v := (0, 5, 0)) (p2 := 48) rfl rfl rfl rfl ?_
  refine q_load (v := (0, 1, 0)) (p2 := 49) rfl rfl rfl rfl ?_
  refine q_iop (w := 5 + 1) (z := 6) (p2 := 50) rfl (xo_add 5 1) (by decide) rfl ?_
  refine q_store (loc2 := [(6, 2, 0), (6, 1, 0), (0, 7, 0), (0, 7, 0), (0, 6, 0), (0, 1, 0), (0, 5, 0), (0, 1, 0)]) (p2 := 51) rfl rfl rfl rfl rfl ?_
  refine q_iinc (z := 6) (loc2 := [(6, 2, 0), (6, 1, 0), (0, 7, 0), (0, 7, 0), (0, 6, 0), (0, 1, 0), (0, 6, 0), (0, 1, 0)]) (p2 := 52) rfl rfl (by decide) rfl rfl ?_
  refine q_goto rfl ?_
  refine q_load (v := (0, 6, 0)) (p2 := 21) rfl rfl rfl rfl ?_
  refine q_load (v := (0, 7, 0)) (p2 := 22) rfl rfl rfl rfl ?_
  refine q_icmp_s (p2 := 23) rfl (by decide) (by omega) (by omega) rfl (fun hb => absurd hb (show ¬ (¬ (6 < 7)) by omega)) (fun _ => ?_)
  refine q_load (v := (0, 6, 0)) (p2 := 24) rfl rfl rfl rfl ?_
  refine q_load (v := (0, 7, 0)) (p2 := 25) rfl rfl rfl rfl ?_
  refine q_icmp_s (p2 := 26) rfl (by decide) (by omega) (by omega) rfl (fun hb => absurd hb (show ¬ (¬ (6 < 7)) by omega)) (fun _ => ?_)
  refine q_load (v := (0, 1, 0)) (p2 := 27) rfl rfl rfl rfl ?_
  refine q_if0_s (p2 := 28) rfl (by decide) (by omega) rfl (fun hb => absurd hb (show ¬ (1 = 0) by omega)) (fun _ => ?_)
  refine q_load (v := (6, 1, 0)) (p2 := 29) rfl rfl rfl rfl ?_
  refine q_load (v := (0, 6, 0)) (p2 := 30) rfl rfl rfl rfl ?_
  have hm16 := (zq_tp_at hm14 (fr15 1 (by decide) (by decide) (by decide) (by decide)))
  refine q_aldT (tag := 0) (v := 93) (p2 := 31) rfl hm16 (by omega) (by omega) hc6 rfl ?_
  refine q_callr (xs := [(0, 93, 0)]) (p2 := 32) rfl rfl rfl rfl (fun _ _ => rfl) rfl (zc_a_87_93 ) (Nat.le_refl _) (Nat.le_refl _) rfl ?_
  refine q_if0_s (p2 := 33) rfl (by decide) (by omega) rfl (fun _ => ?_) (fun hb => absurd (show 0 = 0 by omega) hb)
  refine q_load (v := (6, 2, 0)) (p2 := 36) rfl rfl rfl rfl ?_
  refine q_load (v := (6, 1, 0)) (p2 := 37) rfl rfl rfl rfl ?_
  refine q_load (v := (0, 7, 0)) (p2 := 38) rfl rfl rfl rfl ?_
  refine q_load (v := (0, 6, 0)) (p2 := 39) rfl rfl rfl rfl ?_
  refine q_callrE (xs := [(0, 6, 0), (0, 7, 0), (6, 1, 0), (6, 2, 0)]) (p2 := 40) rfl rfl rfl rfl (x_rcv_s 2 hs15_0.1) rfl (zc_sc_93c hs15_0 hm16 (by omega) hc6 (by omega)) (Nat.le_refl _) (Nat.le_refl _) rfl (fun φ17 hR17 => ?_)
  obtain ⟨hs17_0, fr17⟩ := hR17
  refine q_store (loc2 := [(6, 2, 0), (6, 1, 0), (0, 7, 0), (0, 7, 0), (0, 6, 0), (0, 1, 0), (0, 6, 0), (0, 1, 0)]) (p2 := 41) rfl rfl rfl rfl rfl ?_
  refine q_load (v := (0, 1, 0)) (p2 := 42) rfl rfl rfl rfl ?_
  refine q_if0_s (p2 := 43) rfl (by decide) (by omega) rfl (fun hb => absurd hb (show ¬ (¬ (0 < 1)) by omega)) (fun _ => ?_)
  refine q_const (p2 := 44) rfl rfl ?_
  refine q_goto rfl ?_
  refine q_store (loc2 := [(6, 2, 0), (6, 1, 0), (0, 7, 0), (0, 7, 0), (0, 6, 0), (0, 1, 0), (0, 6, 0), (0, 1, 0)]) (p2 := 47) rfl rfl rfl rfl rfl ?_
  refine q_load (v := (0, 6, 0)) (p2 := 48) rfl rfl rfl rfl ?_
  refine q_load (v := (0, 1, 0)) (p2 := 49) rfl rfl rfl rfl ?_
  refine q_iop (w := 6 + 1) (z := 7) (p2 := 50) rfl (xo_add 6 1) (by decide) rfl ?_
  refine q_store (loc2 := [(6, 2, 0), (6, 1, 0), (0, 7, 0), (0, 7, 0), (0, 7, 0), (0, 1, 0), (0, 6, 0), (0, 1, 0)]) (p2 := 51) rfl rfl rfl rfl rfl ?_
  refine q_iinc (z := 7) (loc2 := [(6, 2, 0), (6, 1, 0), (0, 7, 0), (0, 7, 0), (0, 7, 0), (0, 1, 0), (0, 7, 0), (0, 1, 0)]) (p2 := 52) rfl rfl (by decide) rfl rfl ?_
  refine q_goto rfl ?_
  refine q_load (v := (0, 7, 0)) (p2 := 21) rfl rfl rfl rfl ?_
  refine q_load (v := (0, 7, 0)) (p2 := 22) rfl rfl rfl rfl ?_
  refine q_icmp_s (p2 := 23) rfl (by decide) (by omega) (by omega) rfl (fun _ => ?_) (fun hb => absurd (show ¬ (7 < 7) by omega) hb)
  refine q_load (v := (6, 2, 0)) (p2 := 54) rfl rfl rfl rfl ?_
  refine q_load (v := (0, 1, 0)) (p2 := 55) rfl rfl rfl rfl ?_
  refine q_if0_s (p2 := 56) rfl (by decide) (by omega) rfl (fun hb => absurd hb (show ¬ (1 = 0) by omega)) (fun _ => ?_)
  refine q_const (p2 := 57) rfl rfl ?_
  refine q_goto rfl ?_
  refine q_load (v := (0, 7, 0)) (p2 := 60) rfl rfl rfl rfl ?_
  refine q_const (p2 := 61) rfl rfl ?_
  refine q_callvE (xs := [(2, 0, 0), (0, 7, 0), (0, 0, 0), (6, 2, 0)]) (p2 := 62) rfl rfl rfl rfl (x_rcv_s 2 hs17_0.1) rfl (zc_t_add hs17_0 (by omega)) (Nat.le_refl _) (Nat.le_refl _) rfl (fun φ18 hR18 => ?_)
  obtain ⟨hs18_0, fr18⟩ := hR18
  refine q_load (v := (6, 2, 0)) (p2 := 63) rfl rfl rfl rfl ?_
  refine q_callvE (xs := [(6, 2, 0)]) (p2 := 64) rfl rfl rfl rfl (x_rcv_s 2 hs18_0.1) rfl (zc_t_rewind hs18_0 (by omega) ((x_s_ne (by decide)).trans ((x_s_ne (by decide)).trans ((x_s_ne (by decide)).trans ((x_s_ne (by decide)).trans ((x_s_ne (by decide)).trans ((x_s_ne (by decide)).trans ((x_s_ne (by decide)).trans (x_s_eq)))))))) ((x_s_ne (by decide)).trans ((x_s_ne (by decide)).trans ((x_s_ne (by decide)).trans ((x_s_ne (by decide)).trans ((x_s_ne (by decide)).trans ((x_s_ne (by decide)).trans ((x_s_ne (by decide)).trans (x_s_eq)))))))) ((x_s_ne (by decide)).trans ((x_s_ne (by decide)).trans ((x_s_ne (by decide)).trans ((x_s_ne (by decide)).trans ((x_s_ne (by decide)).trans ((x_s_ne (by decide)).trans ((x_s_ne (by decide)).trans (x_s_eq))))))))) (Nat.le_refl _) (Nat.le_refl _) rfl (fun φ19 hR19 => ?_)
  obtain ⟨hs19_0, fr19⟩ := hR19
  exact q_ret rfl (⟨rfl, rfl, rfl, hs19_0, fun j hj0 hj1 hj2 hj3 => ((fr19 j (by omega)).trans ((fr18 j (by omega) (by omega) (by omega) (by omega)).trans ((fr17 j (by omega) (by omega) (by omega) (by omega)).trans ((fr15 j (by omega) (by omega) (by omega) (by omega)).trans ((fr13 j (by omega) (by omega) (by omega) (by omega)).trans ((fr11 j (by omega) (by omega) (by omega) (by omega)).trans ((fr9 j (by omega) (by omega) (by omega) (by omega)).trans ((fr7 j (by omega) (by omega) (by omega) (by omega)).trans ((fr5 j (by omega) (by omega) (by omega) (by omega)).trans ((fr3 j (by omega)).trans ((fr2 j (by omega)).trans (fr1 j (by omega)))))))))))))⟩)
theorem zc_a_87_102 {d n sl : Nat} {φ : FH}    : x_f x_P (d + 1) 87 [(0, 102, 0)] φ n sl (x_r φ n sl (0, 0, 0)) := by
  refine x_f_of rfl ?_
  refine q_load (v := (0, 102, 0)) (p2 := 1) rfl rfl rfl rfl ?_
  refine q_const (p2 := 2) rfl rfl ?_
  refine q_icmp_s (p2 := 3) rfl (by decide) (by omega) (by omega) rfl (fun hb => absurd hb (show ¬ (102 = 32) by omega)) (fun _ => ?_)
  refine q_load (v := (0, 102, 0)) (p2 := 4) rfl rfl rfl rfl ?_
  refine q_const (p2 := 5) rfl rfl ?_
  refine q_icmp_s (p2 := 6) rfl (by decide) (by omega) (by omega) rfl (fun _ => ?_) (fun hb => absurd (show ¬ (102 = 10) by omega) hb)
  refine q_const (p2 := 9) rfl rfl ?_
  exact q_retv (v := (0, 0, 0)) rfl rfl (⟨rfl, rfl, rfl, rfl, rfl⟩)
theorem zc_a_87_40 {d n sl : Nat} {φ : FH}    : x_f x_P (d + 1) 87 [(0, 40, 0)] φ n sl (x_r φ n sl (0, 0, 0)) := by
  refine x_f_of rfl ?_
  refine q_load (v := (0, 40, 0)) (p2 := 1) rfl rfl rfl rfl ?_
  refine q_const (p2 := 2) rfl rfl ?_
  refine q_icmp_s (p2 := 3) rfl (by decide) (by omega) (by omega) rfl (fun hb => absurd hb (show ¬ (40 = 32) by omega)) (fun _ => ?_)
  refine q_load (v := (0, 40, 0)) (p2 := 4) rfl rfl rfl rfl ?_
  refine q_const (p2 := 5) rfl rfl ?_
  refine q_icmp_s (p2 := 6) rfl (by decide) (by omega) (by omega) rfl (fun _ => ?_) (fun hb => absurd (show ¬ (40 = 10) by omega) hb)
  refine q_const (p2 := 9) rfl rfl ?_
  exact q_retv (v := (0, 0, 0)) rfl rfl (⟨rfl, rfl, rfl, rfl, rfl⟩)
theorem zc_a_87_41 {d n sl : Nat} {φ : FH}    : x_f x_P (d + 1) 87 [(0, 41, 0)] φ n sl (x_r φ n sl (0, 0, 0)) := by
  refine x_f_of rfl ?_
  refine q_load (v := (0, 41, 0)) (p2 := 1) rfl rfl rfl rfl ?_
  refine q_const (p2 := 2) rfl rfl ?_
  refine q_icmp_s (p2 := 3) rfl (by decide) (by omega) (by omega) rfl (fun hb => absurd hb (show ¬ (41 = 32) by omega)) (fun _ => ?_)
  refine q_load (v := (0, 41, 0)) (p2 := 4) rfl rfl rfl rfl ?_
  refine q_const (p2 := 5) rfl rfl ?_
  refine q_icmp_s (p2 := 6) rfl (by decide) (by omega) (by omega) rfl (fun _ => ?_) (fun hb => absurd (show ¬ (41 = 10) by omega) hb)
  refine q_const (p2 := 9) rfl rfl ?_
  exact q_retv (v := (0, 0, 0)) rfl rfl (⟨rfl, rfl, rfl, rfl, rfl⟩)
theorem zc_t_load_call {d n sl : Nat} {φ : FH} {tot : Nat} {at_ : Nat} {cur : Nat} {pl : Nat} {va : Nat} {fa : Nat} {fp : Nat} {sf : Nat} {sp : Nat} {no : Nat} {op : Nat} {K : Nat → Nat} {P : Nat → Nat} {V : Nat → Nat} {d1 : Nat} {tp : Nat → Nat} (hT : zq_T φ tot at_ cur pl va fa fp sf sp no op K P V) (hB : zq_tp φ tp) (hc0 : tp 0 = 102) (hc1 : tp 1 = 40) (hc2 : tp 2 = 35) (hc3 : tp 3 = d1) (hc4 : tp 4 = 41) (hc5 : 48 ≤ d1 ∧ d1 ≤ 57) : x_f x_P (d + 4) 42 [(6, 2, 0), (6, 1, 0), (0, 5, 0), (11, 0, 0), (11, 0, 0), (11, 0, 0), (11, 0, 0), (11, 0, 0)] φ n sl (x_vR n sl (fun φ2 => zq_T φ2 6 0 1 0 6 0 fp 0 sp 0 0 (x_s (x_s (x_s (x_s (x_s (x_s K 0 1) 1 73) 2 82) 3 2) 4 74) 5 0) (x_s (x_s (x_s (x_s (x_s (x_s P 0 0) 1 1) 2 2) 3 3) 4 4) 5 5) (x_s (x_s (x_s (x_s (x_s (x_s V 0 6) 1 0) 2 0) 3 (0 + d1 - 48)) 4 0) 5 0) ∧ ∀ j, j ≠ 2 → j ≠ 4 → j ≠ 5 → j ≠ 6 → φ2 j = φ j)) := by
  refine x_f_of rfl ?_
  refine q_load (v := (6, 2, 0)) (p2 := 1) rfl rfl rfl rfl ?_
  refine q_const (p2 := 2) rfl rfl ?_
  refine q_putfE (v := (0, 0, 0)) (p2 := 3) rfl hT.1 (by decide) rfl rfl (fun φ1 f1 hh1 hg1 ho1 fr1 => ?_)
  have hs1 := zq_T_put_2_4 hT hh1 hg1 ho1 fr1
  refine q_load (v := (6, 2, 0)) (p2 := 4) rfl rfl rfl rfl ?_
  refine q_const (p2 := 5) rfl rfl ?_
  refine q_putfE (v := (0, 0, 0)) (p2 := 6) rfl hs1.1 (by decide) rfl rfl (fun φ2 f2 hh2 hg2 ho2 fr2 => ?_)
  have hs2 := zq_T_put_2_9 hs1 hh2 hg2 ho2 fr2
  refine q_load (v := (6, 2, 0)) (p2 := 7) rfl rfl rfl rfl ?_
  refine q_const (p2 := 8) rfl rfl ?_
  refine q_putfE (v := (0, 0, 0)) (p2 := 9) rfl hs2.1 (by decide) rfl rfl (fun φ3 f3 hh3 hg3 ho3 fr3 => ?_)
  have hs3 := zq_T_put_2_11 hs2 hh3 hg3 ho3 fr3
  refine q_load (v := (0, 5, 0)) (p2 := 10) rfl rfl rfl rfl ?_
  refine q_load (v := (6, 1, 0)) (p2 := 11) rfl rfl rfl rfl ?_
  have hm4 := (zq_tp_at hB ((fr3 1 (by decide)).trans ((fr2 1 (by decide)).trans (fr1 1 (by decide)))))
  refine q_alen (p2 := 12) rfl hm4 rfl (by omega) rfl ?_
  refine q_min_b (p2 := 13) rfl rfl (by omega) (by omega) rfl ?_
  refine q_store (loc2 := [(6, 2, 0), (6, 1, 0), (0, 5, 0), (0, 5, 0), (11, 0, 0), (11, 0, 0), (11, 0, 0), (11, 0, 0)]) (p2 := 14) rfl rfl rfl rfl rfl ?_
  refine q_const (p2 := 15) rfl rfl ?_
  refine q_store (loc2 := [(6, 2, 0), (6, 1, 0), (0, 5, 0), (0, 5, 0), (0, 0, 0), (11, 0, 0), (11, 0, 0), (11, 0, 0)]) (p2 := 16) rfl rfl rfl rfl rfl ?_
  refine q_const (p2 := 17) rfl rfl ?_
  refine q_store (loc2 := [(6, 2, 0), (6, 1, 0), (0, 5, 0), (0, 5, 0), (0, 0, 0), (0, 1, 0), (11, 0, 0), (11, 0, 0)]) (p2 := 18) rfl rfl rfl rfl rfl ?_
  refine q_const (p2 := 19) rfl rfl ?_
  refine q_store (loc2 := [(6, 2, 0), (6, 1, 0), (0, 5, 0), (0, 5, 0), (0, 0, 0), (0, 1, 0), (0, 0, 0), (11, 0, 0)]) (p2 := 20) rfl rfl rfl rfl rfl ?_
  refine q_load (v := (0, 0, 0)) (p2 := 21) rfl rfl rfl rfl ?_
  refine q_load (v := (0, 5, 0)) (p2 := 22) rfl rfl rfl rfl ?_
  refine q_icmp_s (p2 := 23) rfl (by decide) (by omega) (by omega) rfl (fun hb => absurd hb (show ¬ (¬ (0 < 5)) by omega)) (fun _ => ?_)
  refine q_load (v := (0, 0, 0)) (p2 := 24) rfl rfl rfl rfl ?_
  refine q_load (v := (0, 5, 0)) (p2 := 25) rfl rfl rfl rfl ?_
  refine q_icmp_s (p2 := 26) rfl (by decide) (by omega) (by omega) rfl (fun hb => absurd hb (show ¬ (¬ (0 < 5)) by omega)) (fun _ => ?_)
  refine q_load (v := (0, 1, 0)) (p2 := 27) rfl rfl rfl rfl ?_
  refine q_if0_s (p2 := 28) rfl (by decide) (by omega) rfl (fun hb => absurd hb (show ¬ (1 = 0) by omega)) (fun _ => ?_)
  refine q_load (v := (6, 1, 0)) (p2 := 29) rfl rfl rfl rfl ?_
  refine q_load (v := (0, 0, 0)) (p2 := 30) rfl rfl rfl rfl ?_
  refine q_aldT (tag := 0) (v := 102) (p2 := 31) rfl hm4 (by omega) (by omega) hc0 rfl ?_
  refine q_callr (xs := [(0, 102, 0)]) (p2 := 32) rfl rfl rfl rfl (fun _ _ => rfl) rfl (zc_a_87_102 ) (Nat.le_refl _) (Nat.le_refl _) rfl ?_
  refine q_if0_s (p2 := 33) rfl (by decide) (by omega) rfl (fun _ => ?_) (fun hb => absurd (show 0 = 0 by omega) hb)
  refine q_load (v := (6, 2, 0)) (p2 := 36) rfl rfl rfl rfl ?_
  refine q_load (v := (6, 1, 0)) (p2 := 37) rfl rfl rfl rfl ?_
  refine q_load (v := (0, 5, 0)) (p2 := 38) rfl rfl rfl rfl ?_
  refine q_load (v := (0, 0, 0)) (p2 := 39) rfl rfl rfl rfl ?_
  refine q_callrE (xs := [(0, 0, 0), (0, 5, 0), (6, 1, 0), (6, 2, 0)]) (p2 := 40) rfl rfl rfl rfl (x_rcv_s 2 hs3.1) rfl (zc_swd_f hs3 hm4 (by omega) (by omega) hc0 hc1) (Nat.le_refl _) (Nat.le_refl _) rfl (fun φ5 hR5 => ?_)
  obtain ⟨hs5_0, fr5⟩ := hR5
  refine q_store (loc2 := [(6, 2, 0), (6, 1, 0), (0, 5, 0), (0, 5, 0), (0, 0, 0), (0, 1, 0), (0, 0, 0), (0, 1, 0)]) (p2 := 41) rfl rfl rfl rfl rfl ?_
  refine q_load (v := (0, 1, 0)) (p2 := 42) rfl rfl rfl rfl ?_
  refine q_if0_s (p2 := 43) rfl (by decide) (by omega) rfl (fun hb => absurd hb (show ¬ (¬ (0 < 1)) by omega)) (fun _ => ?_)
  refine q_const (p2 := 44) rfl rfl ?_
  refine q_goto rfl ?_
  refine q_store (loc2 := [(6, 2, 0), (6, 1, 0), (0, 5, 0), (0, 5, 0), (0, 0, 0), (0, 1, 0), (0, 0, 0), (0, 1, 0)]) (p2 := 47) rfl rfl rfl rfl rfl ?_
  refine q_load (v := (0, 0, 0)) (p2 := 48) rfl rfl rfl rfl ?_
  refine q_load (v := (0, 1, 0)) (p2 := 49) rfl rfl rfl rfl ?_
  refine q_iop (w := 0 + 1) (z := 1) (p2 := 50) rfl (xo_add 0 1) (by decide) rfl ?_
  refine q_store (loc2 := [(6, 2, 0), (6, 1, 0), (0, 5, 0), (0, 5, 0), (0, 1, 0), (0, 1, 0), (0, 0, 0), (0, 1, 0)]) (p2 := 51) rfl rfl rfl rfl rfl ?_
  refine q_iinc (z := 1) (loc2 := [(6, 2, 0), (6, 1, 0), (0, 5, 0), (0, 5, 0), (0, 1, 0), (0, 1, 0), (0, 1, 0), (0, 1, 0)]) (p2 := 52) rfl rfl (by decide) rfl rfl ?_
  refine q_goto rfl ?_
  refine q_load (v := (0, 1, 0)) (p2 := 21) rfl rfl rfl rfl ?_
  refine q_load (v := (0, 5, 0)) (p2 := 22) rfl rfl rfl rfl ?_
  refine q_icmp_s (p2 := 23) rfl (by decide) (by omega) (by omega) rfl (fun hb => absurd hb (show ¬ (¬ (1 < 5)) by omega)) (fun _ => ?_)
  refine q_load (v := (0, 1, 0)) (p2 := 24) rfl rfl rfl rfl ?_
  refine q_load (v := (0, 5, 0)) (p2 := 25) rfl rfl rfl rfl ?_
  refine q_icmp_s (p2 := 26) rfl (by decide) (by omega) (by omega) rfl (fun hb => absurd hb (show ¬ (¬ (1 < 5)) by omega)) (fun _ => ?_)
  refine q_load (v := (0, 1, 0)) (p2 := 27) rfl rfl rfl rfl ?_
  refine q_if0_s (p2 := 28) rfl (by decide) (by omega) rfl (fun hb => absurd hb (show ¬ (1 = 0) by omega)) (fun _ => ?_)
  refine q_load (v := (6, 1, 0)) (p2 := 29) rfl rfl rfl rfl ?_
  refine q_load (v := (0, 1, 0)) (p2 := 30) rfl rfl rfl rfl ?_
  have hm6 := (zq_tp_at hm4 (fr5 1 (by decide) (by decide) (by decide) (by decide)))
  refine q_aldT (tag := 0) (v := 40) (p2 := 31) rfl hm6 (by omega) (by omega) hc1 rfl ?_
  refine q_callr (xs := [(0, 40, 0)]) (p2 := 32) rfl rfl rfl rfl (fun _ _ => rfl) rfl (zc_a_87_40 ) (Nat.le_refl _) (Nat.le_refl _) rfl ?_
  refine q_if0_s (p2 := 33) rfl (by decide) (by omega) rfl (fun _ => ?_) (fun hb => absurd (show 0 = 0 by omega) hb)
  refine q_load (v := (6, 2, 0)) (p2 := 36) rfl rfl rfl rfl ?_
  refine q_load (v := (6, 1, 0)) (p2 := 37) rfl rfl rfl rfl ?_
  refine q_load (v := (0, 5, 0)) (p2 := 38) rfl rfl rfl rfl ?_
  refine q_load (v := (0, 1, 0)) (p2 := 39) rfl rfl rfl rfl ?_
  refine q_callrE (xs := [(0, 1, 0), (0, 5, 0), (6, 1, 0), (6, 2, 0)]) (p2 := 40) rfl rfl rfl rfl (x_rcv_s 2 hs5_0.1) rfl (zc_sc_40a hs5_0 hm6 (by omega) hc1 (by omega) hc2 hc3) (Nat.le_refl _) (Nat.le_refl _) rfl (fun φ7 hR7 => ?_)
  obtain ⟨hs7_0, fr7⟩ := hR7
  refine q_store (loc2 := [(6, 2, 0), (6, 1, 0), (0, 5, 0), (0, 5, 0), (0, 1, 0), (0, 1, 0), (0, 1, 0), (0, 1, 0)]) (p2 := 41) rfl rfl rfl rfl rfl ?_
  refine q_load (v := (0, 1, 0)) (p2 := 42) rfl rfl rfl rfl ?_
  refine q_if0_s (p2 := 43) rfl (by decide) (by omega) rfl (fun hb => absurd hb (show ¬ (¬ (0 < 1)) by omega)) (fun _ => ?_)
  refine q_const (p2 := 44) rfl rfl ?_
  refine q_goto rfl ?_
  refine q_store (loc2 := [(6, 2, 0), (6, 1, 0), (0, 5, 0), (0, 5, 0), (0, 1, 0), (0, 1, 0), (0, 1, 0), (0, 1, 0)]) (p2 := 47) rfl rfl rfl rfl rfl ?_
  refine q_load (v := (0, 1, 0)) (p2 := 48) rfl rfl rfl rfl ?_
  refine q_load (v := (0, 1, 0)) (p2 := 49) rfl rfl rfl rfl ?_
  refine q_iop (w := 1 + 1) (z := 2) (p2 := 50) rfl (xo_add 1 1) (by decide) rfl ?_
  refine q_store (loc2 := [(6, 2, 0), (6, 1, 0), (0, 5, 0), (0, 5, 0), (0, 2, 0), (0, 1, 0), (0, 1, 0), (0, 1, 0)]) (p2 := 51) rfl rfl rfl rfl rfl ?_
  refine q_iinc (z := 2) (loc2 := [(6, 2, 0), (6, 1, 0), (0, 5, 0), (0, 5, 0), (0, 2, 0), (0, 1, 0), (0, 2, 0), (0, 1, 0)]) (p2 := 52) rfl rfl (by decide) rfl rfl ?_
  refine q_goto rfl ?_
  refine q_load (v := (0, 2, 0)) (p2 := 21) rfl rfl rfl rfl ?_
  refine q_load (v := (0, 5, 0)) (p2 := 22) rfl rfl rfl rfl ?_
  refine q_icmp_s (p2 := 23) rfl (by decide) (by omega) (by omega) rfl (fun hb => absurd hb (show ¬ (¬ (2 < 5)) by omega)) (fun _ => ?_)
  refine q_load (v := (0, 2, 0)) (p2 := 24) rfl rfl rfl rfl ?_
  refine q_load (v := (0, 5, 0)) (p2 := 25) rfl rfl rfl rfl ?_
  refine q_icmp_s (p2 := 26) rfl (by decide) (by omega) (by omega) rfl (fun hb => absurd hb (show ¬ (¬ (2 < 5)) by omega)) (fun _ => ?_)
  refine q_load (v := (0, 1, 0)) (p2 := 27) rfl rfl rfl rfl ?_
  refine q_if0_s (p2 := 28) rfl (by decide) (by omega) rfl (fun hb => absurd hb (show ¬ (1 = 0) by omega)) (fun _ => ?_)
  refine q_load (v := (6, 1, 0)) (p2 := 29) rfl rfl rfl rfl ?_
  refine q_load (v := (0, 2, 0)) (p2 := 30) rfl rfl rfl rfl ?_
  have hm8 := (zq_tp_at hm6 (fr7 1 (by decide) (by decide) (by decide) (by decide)))
  refine q_aldT (tag := 0) (v := 35) (p2 := 31) rfl hm8 (by omega) (by omega) hc2 rfl ?_
  refine q_callr (xs := [(0, 35, 0)]) (p2 := 32) rfl rfl rfl rfl (fun _ _ => rfl) rfl (zc_a_87_35 ) (Nat.le_refl _) (Nat.le_refl _) rfl ?_
  refine q_if0_s (p2 := 33) rfl (by decide) (by omega) rfl (fun _ => ?_) (fun hb => absurd (show 0 = 0 by omega) hb)
  refine q_load (v := (6, 2, 0)) (p2 := 36) rfl rfl rfl rfl ?_
  refine q_load (v := (6, 1, 0)) (p2 := 37) rfl rfl rfl rfl ?_
  refine q_load (v := (0, 5, 0)) (p2 := 38) rfl rfl rfl rfl ?_
  refine q_load (v := (0, 2, 0)) (p2 := 39) rfl rfl rfl rfl ?_
  refine q_callrE (xs := [(0, 2, 0), (0, 5, 0), (6, 1, 0), (6, 2, 0)]) (p2 := 40) rfl rfl rfl rfl (x_rcv_s 2 hs7_0.1) rfl (zc_sc_35a hs7_0 hm8 (by omega) hc2 (by omega) hc3 hc4) (Nat.le_refl _) (Nat.le_refl _) rfl (fun φ9 hR9 => ?_)
  obtain ⟨hs9_0, fr9⟩ := hR9
  refine q_store (loc2 := [(6, 2, 0), (6, 1, 0), (0, 5, 0), (0, 5, 0), (0, 2, 0), (0, 1, 0), (0, 2, 0), (0, 1, 0)]) (p2 := 41) rfl rfl rfl rfl rfl ?_
  refine q_load (v := (0, 1, 0)) (p2 := 42) rfl rfl rfl rfl ?_
  refine q_if0_s (p2 := 43) rfl (by decide) (by omega) rfl (fun hb => absurd hb (show ¬ (¬ (0 < 1)) by omega)) (fun _ => ?_)
  refine q_const (p2 := 44) rfl rfl ?_
  refine q_goto rfl ?_
  refine q_store (loc2 := [(6, 2, 0), (6, 1, 0), (0, 5, 0), (0, 5, 0), (0, 2, 0), (0, 1, 0), (0, 2, 0), (0, 1, 0)]) (p2 := 47) rfl rfl rfl rfl rfl ?_
  refine q_load (v := (0, 2, 0)) (p2 := 48) rfl rfl rfl rfl ?_
  refine q_load (v := (0, 1, 0)) (p2 := 49) rfl rfl rfl rfl ?_
  refine q_iop (w := 2 + 1) (z := 3) (p2 := 50) rfl (xo_add 2 1) (by decide) rfl ?_
  refine q_store (loc2 := [(6, 2, 0), (6, 1, 0), (0, 5, 0), (0, 5, 0), (0, 3, 0), (0, 1, 0), (0, 2, 0), (0, 1, 0)]) (p2 := 51) rfl rfl rfl rfl rfl ?_
  refine q_iinc (z := 3) (loc2 := [(6, 2, 0), (6, 1, 0), (0, 5, 0), (0, 5, 0), (0, 3, 0), (0, 1, 0), (0, 3, 0), (0, 1, 0)]) (p2 := 52) rfl rfl (by decide) rfl rfl ?_
  refine q_goto rfl ?_
  refine q_load (v := (0, 3, 0)) (p2 := 21) rfl rfl rfl rfl ?_
  refine q_load (v := (0, 5, 0)) (p2 := 22) rfl rfl rfl rfl ?_
  refine q_icmp_s (p2 := 23) rfl (by decide) (by omega) (by omega) rfl (fun hb => absurd hb (show ¬ (¬ (3 < 5)) by omega)) (fun _ => ?_)
  refine q_load (v := (0, 3, 0)) (p2 := 24) rfl rfl rfl rfl ?_
  refine q_load (v := (0, 5, 0)) (p2 := 25) rfl rfl rfl rfl ?_
  refine q_icmp_s (p2 := 26) rfl (by decide) (by omega) (by omega) rfl (fun hb => absurd hb (show ¬ (¬ (3 < 5)) by omega)) (fun _ => ?_)
  refine q_load (v := (0, 1, 0)) (p2 := 27) rfl rfl rfl rfl ?_
  refine q_if0_s (p2 := 28) rfl (by decide) (by omega) rfl (fun hb => absurd hb (show ¬ (1 = 0) by omega)) (fun _ => ?_)
  refine q_load (v := (6, 1, 0)) (p2 := 29) rfl rfl rfl rfl ?_
  refine q_load (v := (0, 3, 0)) (p2 := 30) rfl rfl rfl rfl ?_
  have hm10 := (zq_tp_at hm8 (fr9 1 (by decide) (by decide) (by decide) (by decide)))
  refine q_aldT (tag := 0) (v := d1) (p2 := 31) rfl hm10 (by omega) (by omega) hc3 rfl ?_
  refine q_callr (xs := [(0, d1, 0)]) (p2 := 32) rfl rfl rfl rfl (fun _ _ => rfl) rfl (zc_dg_isBlank (by omega)) (Nat.le_refl _) (Nat.le_refl _) rfl ?_
  refine q_if0_s (p2 := 33) rfl (by decide) (by omega) rfl (fun _ => ?_) (fun hb => absurd (show 0 = 0 by omega) hb)
  refine q_load (v := (6, 2, 0)) (p2 := 36) rfl rfl rfl rfl ?_
  refine q_load (v := (6, 1, 0)) (p2 := 37) rfl rfl rfl rfl ?_
  refine q_load (v := (0, 5, 0)) (p2 := 38) rfl rfl rfl rfl ?_
  refine q_load (v := (0, 3, 0)) (p2 := 39) rfl rfl rfl rfl ?_
  refine q_callrE (xs := [(0, 3, 0), (0, 5, 0), (6, 1, 0), (6, 2, 0)]) (p2 := 40) rfl rfl rfl rfl (x_rcv_s 2 hs9_0.1) rfl (zc_scn_1_41 hs9_0 hm10 hc4 hc3 (by omega) (by omega) (by omega)) (Nat.le_refl _) (Nat.le_refl _) rfl (fun φ11 hR11 => ?_)
  obtain ⟨hs11_0, fr11⟩ := hR11
  refine q_store (loc2 := [(6, 2, 0), (6, 1, 0), (0, 5, 0), (0, 5, 0), (0, 3, 0), (0, 1, 0), (0, 3, 0), (0, 1, 0)]) (p2 := 41) rfl rfl rfl rfl rfl ?_
  refine q_load (v := (0, 1, 0)) (p2 := 42) rfl rfl rfl rfl ?_
  refine q_if0_s (p2 := 43) rfl (by decide) (by omega) rfl (fun hb => absurd hb (show ¬ (¬ (0 < 1)) by omega)) (fun _ => ?_)
  refine q_const (p2 := 44) rfl rfl ?_
  refine q_goto rfl ?_
  refine q_store (loc2 := [(6, 2, 0), (6, 1, 0), (0, 5, 0), (0, 5, 0), (0, 3, 0), (0, 1, 0), (0, 3, 0), (0, 1, 0)]) (p2 := 47) rfl rfl rfl rfl rfl ?_
  refine q_load (v := (0, 3, 0)) (p2 := 48) rfl rfl rfl rfl ?_
  refine q_load (v := (0, 1, 0)) (p2 := 49) rfl rfl rfl rfl ?_
  refine q_iop (w := 3 + 1) (z := 4) (p2 := 50) rfl (xo_add 3 1) (by decide) rfl ?_
  refine q_store (loc2 := [(6, 2, 0), (6, 1, 0), (0, 5, 0), (0, 5, 0), (0, 4, 0), (0, 1, 0), (0, 3, 0), (0, 1, 0)]) (p2 := 51) rfl rfl rfl rfl rfl ?_
  refine q_iinc (z := 4) (loc2 := [(6, 2, 0), (6, 1, 0), (0, 5, 0), (0, 5, 0), (0, 4, 0), (0, 1, 0), (0, 4, 0), (0, 1, 0)]) (p2 := 52) rfl rfl (by decide) rfl rfl ?_
  refine q_goto rfl ?_
  refine q_load (v := (0, 4, 0)) (p2 := 21) rfl rfl rfl rfl ?_
  refine q_load (v := (0, 5, 0)) (p2 := 22) rfl rfl rfl rfl ?_
  refine q_icmp_s (p2 := 23) rfl (by decide) (by omega) (by omega) rfl (fun hb => absurd hb (show ¬ (¬ (4 < 5)) by omega)) (fun _ => ?_)
  refine q_load (v := (0, 4, 0)) (p2 := 24) rfl rfl rfl rfl ?_
  refine q_load (v := (0, 5, 0)) (p2 := 25) rfl rfl rfl rfl ?_
  refine q_icmp_s (p2 := 26) rfl (by decide) (by omega) (by omega) rfl (fun hb => absurd hb (show ¬ (¬ (4 < 5)) by omega)) (fun _ => ?_)
  refine q_load (v := (0, 1, 0)) (p2 := 27) rfl rfl rfl rfl ?_
  refine q_if0_s (p2 := 28) rfl (by decide) (by omega) rfl (fun hb => absurd hb (show ¬ (1 = 0) by omega)) (fun _ => ?_)
  refine q_load (v := (6, 1, 0)) (p2 := 29) rfl rfl rfl rfl ?_
  refine q_load (v := (0, 4, 0)) (p2 := 30) rfl rfl rfl rfl ?_
  have hm12 := (zq_tp_at hm10 (fr11 1 (by decide) (by decide) (by decide) (by decide)))
  refine q_aldT (tag := 0) (v := 41) (p2 := 31) rfl hm12 (by omega) (by omega) hc4 rfl ?_
  refine q_callr (xs := [(0, 41, 0)]) (p2 := 32) rfl rfl rfl rfl (fun _ _ => rfl) rfl (zc_a_87_41 ) (Nat.le_refl _) (Nat.le_refl _) rfl ?_
  refine q_if0_s (p2 := 33) rfl (by decide) (by omega) rfl (fun _ => ?_) (fun hb => absurd (show 0 = 0 by omega) hb)
  refine q_load (v := (6, 2, 0)) (p2 := 36) rfl rfl rfl rfl ?_
  refine q_load (v := (6, 1, 0)) (p2 := 37) rfl rfl rfl rfl ?_
  refine q_load (v := (0, 5, 0)) (p2 := 38) rfl rfl rfl rfl ?_
  refine q_load (v := (0, 4, 0)) (p2 := 39) rfl rfl rfl rfl ?_
  refine q_callrE (xs := [(0, 4, 0), (0, 5, 0), (6, 1, 0), (6, 2, 0)]) (p2 := 40) rfl rfl rfl rfl (x_rcv_s 2 hs11_0.1) rfl (zc_sc_41c hs11_0 hm12 (by omega) hc4 (by omega)) (Nat.le_refl _) (Nat.le_refl _) rfl (fun φ13 hR13 => ?_)
  obtain ⟨hs13_0, fr13⟩ := hR13
  refine q_store (loc2 := [(6, 2, 0), (6, 1, 0), (0, 5, 0), (0, 5, 0), (0, 4, 0), (0, 1, 0), (0, 4, 0), (0, 1, 0)]) (p2 := 41) rfl rfl rfl rfl rfl ?_
  refine q_load (v := (0, 1, 0)) (p2 := 42) rfl rfl rfl rfl ?_
  refine q_if0_s (p2 := 43) rfl (by decide) (by omega) rfl (fun hb => absurd hb (show ¬ (¬ (0 < 1)) by omega)) (fun _ => ?_)
  refine q_const (p2 := 44) rfl rfl ?_
  refine q_goto rfl ?_
  refine q_store (loc2 := [(6, 2, 0), (6, 1, 0), (0, 5, 0), (0, 5, 0), (0, 4, 0), (0, 1, 0), (0, 4, 0), (0, 1, 0)]) (p2 := 47) rfl rfl rfl rfl rfl ?_
  refine q_load (v := (0, 4, 0)) (p2 := 48) rfl rfl rfl rfl ?_
  refine q_load (v := (0, 1, 0)) (p2 := 49) rfl rfl rfl rfl ?_
  refine q_iop (w := 4 + 1) (z := 5) (p2 := 50) rfl (xo_add 4 1) (by decide) rfl ?_
  refine q_store (loc2 := [(6, 2, 0), (6, 1, 0), (0, 5, 0), (0, 5, 0), (0, 5, 0), (0, 1, 0), (0, 4, 0), (0, 1, 0)]) (p2 := 51) rfl rfl rfl rfl rfl ?_
  refine q_iinc (z := 5) (loc2 := [(6, 2, 0), (6, 1, 0), (0, 5, 0), (0, 5, 0), (0, 5, 0), (0, 1, 0), (0, 5, 0), (0, 1, 0)]) (p2 := 52) rfl rfl (by decide) rfl rfl ?_
  refine q_goto rfl ?_
  refine q_load (v := (0, 5, 0)) (p2 := 21) rfl rfl rfl rfl ?_
  refine q_load (v := (0, 5, 0)) (p2 := 22) rfl rfl rfl rfl ?_
  refine q_icmp_s (p2 := 23) rfl (by decide) (by omega) (by omega) rfl (fun _ => ?_) (fun hb => absurd (show ¬ (5 < 5) by omega) hb)
  refine q_load (v := (6, 2, 0)) (p2 := 54) rfl rfl rfl rfl ?_
  refine q_load (v := (0, 1, 0)) (p2 := 55) rfl rfl rfl rfl ?_
  refine q_if0_s (p2 := 56) rfl (by decide) (by omega) rfl (fun hb => absurd hb (show ¬ (1 = 0) by omega)) (fun _ => ?_)
  refine q_const (p2 := 57) rfl rfl ?_
  refine q_goto rfl ?_
  refine q_load (v := (0, 5, 0)) (p2 := 60) rfl rfl rfl rfl ?_
  refine q_const (p2 := 61) rfl rfl ?_
  refine q_callvE (xs := [(2, 0, 0), (0, 5, 0), (0, 0, 0), (6, 2, 0)]) (p2 := 62) rfl rfl rfl rfl (x_rcv_s 2 hs13_0.1) rfl (zc_t_add hs13_0 (by omega)) (Nat.le_refl _) (Nat.le_refl _) rfl (fun φ14 hR14 => ?_)
  obtain ⟨hs14_0, fr14⟩ := hR14
  refine q_load (v := (6, 2, 0)) (p2 := 63) rfl rfl rfl rfl ?_
  refine q_callvE (xs := [(6, 2, 0)]) (p2 := 64) rfl rfl rfl rfl (x_rcv_s 2 hs14_0.1) rfl (zc_t_rewind hs14_0 (by omega) ((x_s_ne (by decide)).trans ((x_s_ne (by decide)).trans ((x_s_ne (by decide)).trans ((x_s_ne (by decide)).trans ((x_s_ne (by decide)).trans (x_s_eq)))))) ((x_s_ne (by decide)).trans ((x_s_ne (by decide)).trans ((x_s_ne (by decide)).trans ((x_s_ne (by decide)).trans ((x_s_ne (by decide)).trans (x_s_eq)))))) ((x_s_ne (by decide)).trans ((x_s_ne (by decide)).trans ((x_s_ne (by decide)).trans ((x_s_ne (by decide)).trans ((x_s_ne (by decide)).trans (x_s_eq))))))) (Nat.le_refl _) (Nat.le_refl _) rfl (fun φ15 hR15 => ?_)
  obtain ⟨hs15_0, fr15⟩ := hR15
  exact q_ret rfl (⟨rfl, rfl, rfl, hs15_0, fun j hj0 hj1 hj2 hj3 => ((fr15 j (by omega)).trans ((fr14 j (by omega) (by omega) (by omega) (by omega)).trans ((fr13 j (by omega) (by omega) (by omega) (by omega)).trans ((fr11 j (by omega) (by omega) (by omega) (by omega)).trans ((fr9 j (by omega) (by omega) (by omega) (by omega)).trans ((fr7 j (by omega) (by omega) (by omega) (by omega)).trans ((fr5 j (by omega) (by omega) (by omega) (by omega)).trans ((fr3 j (by omega)).trans ((fr2 j (by omega)).trans (fr1 j (by omega)))))))))))⟩)
theorem zc_a_87_117 {d n sl : Nat} {φ : FH}    : x_f x_P (d + 1) 87 [(0, 117, 0)] φ n sl (x_r φ n sl (0, 0, 0)) := by
  refine x_f_of rfl ?_
  refine q_load (v := (0, 117, 0)) (p2 := 1) rfl rfl rfl rfl ?_
  refine q_const (p2 := 2) rfl rfl ?_
  refine q_icmp_s (p2 := 3) rfl (by decide) (by omega) (by omega) rfl (fun hb => absurd hb (show ¬ (117 = 32) by omega)) (fun _ => ?_)
  refine q_load (v := (0, 117, 0)) (p2 := 4) rfl rfl rfl rfl ?_
  refine q_const (p2 := 5) rfl rfl ?_
  refine q_icmp_s (p2 := 6) rfl (by decide) (by omega) (by omega) rfl (fun _ => ?_) (fun hb => absurd (show ¬ (117 = 10) by omega) hb)
  refine q_const (p2 := 9) rfl rfl ?_
  exact q_retv (v := (0, 0, 0)) rfl rfl (⟨rfl, rfl, rfl, rfl, rfl⟩)
theorem zc_t_load_used {d n sl : Nat} {φ : FH} {tot : Nat} {at_ : Nat} {cur : Nat} {pl : Nat} {va : Nat} {fa : Nat} {fp : Nat} {sf : Nat} {sp : Nat} {no : Nat} {op : Nat} {K : Nat → Nat} {P : Nat → Nat} {V : Nat → Nat} {d1 : Nat} {tp : Nat → Nat} (hT : zq_T φ tot at_ cur pl va fa fp sf sp no op K P V) (hB : zq_tp φ tp) (hc0 : tp 0 = 117) (hc1 : tp 1 = 115) (hc2 : tp 2 = 101) (hc3 : tp 3 = 100) (hc4 : tp 4 = 105) (hc5 : tp 5 = 110) (hc6 : tp 6 = 40) (hc7 : tp 7 = 35) (hc8 : tp 8 = d1) (hc9 : tp 9 = 41) (hc10 : 48 ≤ d1 ∧ d1 ≤ 57) : x_f x_P (d + 4) 42 [(6, 2, 0), (6, 1, 0), (0, 10, 0), (11, 0, 0), (11, 0, 0), (11, 0, 0), (11, 0, 0), (11, 0, 0)] φ n sl (x_vR n sl (fun φ2 => zq_T φ2 6 0 1 0 1703836604 0 fp 0 sp 0 0 (x_s (x_s (x_s (x_s (x_s (x_s K 0 1) 1 73) 2 82) 3 2) 4 74) 5 0) (x_s (x_s (x_s (x_s (x_s (x_s P 0 0) 1 6) 2 7) 3 8) 4 9) 5 10) (x_s (x_s (x_s (x_s (x_s (x_s V 0 1703836604) 1 0) 2 0) 3 (0 + d1 - 48)) 4 0) 5 0) ∧ ∀ j, j ≠ 2 → j ≠ 4 → j ≠ 5 → j ≠ 6 → φ2 j = φ j)) := by
  refine x_f_of rfl ?_
  refine q_load (v := (6, 2, 0)) (p2 := 1) rfl rfl rfl rfl ?_
  refine q_const (p2 := 2) rfl rfl ?_
  refine q_putfE (v := (0, 0, 0)) (p2 := 3) rfl hT.1 (by decide) rfl rfl (fun φ1 f1 hh1 hg1 ho1 fr1 => ?_)
  have hs1 := zq_T_put_2_4 hT hh1 hg1 ho1 fr1
  refine q_load (v := (6, 2, 0)) (p2 := 4) rfl rfl rfl rfl ?_
  refine q_const (p2 := 5) rfl rfl ?_
  refine q_putfE (v := (0, 0, 0)) (p2 := 6) rfl hs1.1 (by decide) rfl rfl (fun φ2 f2 hh2 hg2 ho2 fr2 => ?_)
  have hs2 := zq_T_put_2_9 hs1 hh2 hg2 ho2 fr2
  refine q_load (v := (6, 2, 0)) (p2 := 7) rfl rfl rfl rfl ?_
  refine q_const (p2 := 8) rfl rfl ?_
  refine q_putfE (v := (0, 0, 0)) (p2 := 9) rfl hs2.1 (by decide) rfl rfl (fun φ3 f3 hh3 hg3 ho3 fr3 => ?_)
  have hs3 := zq_T_put_2_11 hs2 hh3 hg3 ho3 fr3
  refine q_load (v := (0, 10, 0)) (p2 := 10) rfl rfl rfl rfl ?_
  refine q_load (v := (6, 1, 0)) (p2 := 11) rfl rfl rfl rfl ?_
  have hm4 := (zq_tp_at hB ((fr3 1 (by decide)).trans ((fr2 1 (by decide)).trans (fr1 1 (by decide)))))
  refine q_alen (p2 := 12) rfl hm4 rfl (by omega) rfl ?_
  refine q_min_b (p2 := 13) rfl rfl (by omega) (by omega) rfl ?_
  refine q_store (loc2 := [(6, 2, 0), (6, 1, 0), (0, 10, 0), (0, 10, 0), (11, 0, 0), (11, 0, 0), (11, 0, 0), (11, 0, 0)]) (p2 := 14) rfl rfl rfl rfl rfl ?_
  refine q_const (p2 := 15) rfl rfl ?_
  refine q_store (loc2 := [(6, 2, 0), (6, 1, 0), (0, 10, 0), (0, 10, 0), (0, 0, 0), (11, 0, 0), (11, 0, 0), (11, 0, 0)]) (p2 := 16) rfl rfl rfl rfl rfl ?_
  refine q_const (p2 := 17) rfl rfl ?_
  refine q_store (loc2 := [(6, 2, 0), (6, 1, 0), (0, 10, 0), (0, 10, 0), (0, 0, 0), (0, 1, 0), (11, 0, 0), (11, 0, 0)]) (p2 := 18) rfl rfl rfl rfl rfl ?_
  refine q_const (p2 := 19) rfl rfl ?_
  refine q_store (loc2 := [(6, 2, 0), (6, 1, 0), (0, 10, 0), (0, 10, 0), (0, 0, 0), (0, 1, 0), (0, 0, 0), (11, 0, 0)]) (p2 := 20) rfl rfl rfl rfl rfl ?_
  refine q_load (v := (0, 0, 0)) (p2 := 21) rfl rfl rfl rfl ?_
  refine q_load (v := (0, 10, 0)) (p2 := 22) rfl rfl rfl rfl ?_
  refine q_icmp_s (p2 := 23) rfl (by decide) (by omega) (by omega) rfl (fun hb => absurd hb (show ¬ (¬ (0 < 10)) by omega)) (fun _ => ?_)
  refine q_load (v := (0, 0, 0)) (p2 := 24) rfl rfl rfl rfl ?_
  refine q_load (v := (0, 10, 0)) (p2 := 25) rfl rfl rfl rfl ?_
  refine q_icmp_s (p2 := 26) rfl (by decide) (by omega) (by omega) rfl (fun hb => absurd hb (show ¬ (¬ (0 < 10)) by omega)) (fun _ => ?_)
  refine q_load (v := (0, 1, 0)) (p2 := 27) rfl rfl rfl rfl ?_
  refine q_if0_s (p2 := 28) rfl (by decide) (by omega) rfl (fun hb => absurd hb (show ¬ (1 = 0) by omega)) (fun _ => ?_)
  refine q_load (v := (6, 1, 0)) (p2 := 29) rfl rfl rfl rfl ?_
  refine q_load (v := (0, 0, 0)) (p2 := 30) rfl rfl rfl rfl ?_
  refine q_aldT (tag := 0) (v := 117) (p2 := 31) rfl hm4 (by omega) (by omega) hc0 rfl ?_
  refine q_callr (xs := [(0, 117, 0)]) (p2 := 32) rfl rfl rfl rfl (fun _ _ => rfl) rfl (zc_a_87_117 ) (Nat.le_refl _) (Nat.le_refl _) rfl ?_
  refine q_if0_s (p2 := 33) rfl (by decide) (by omega) rfl (fun _ => ?_) (fun hb => absurd (show 0 = 0 by omega) hb)
  refine q_load (v := (6, 2, 0)) (p2 := 36) rfl rfl rfl rfl ?_
  refine q_load (v := (6, 1, 0)) (p2 := 37) rfl rfl rfl rfl ?_
  refine q_load (v := (0, 10, 0)) (p2 := 38) rfl rfl rfl rfl ?_
  refine q_load (v := (0, 0, 0)) (p2 := 39) rfl rfl rfl rfl ?_
  refine q_callrE (xs := [(0, 0, 0), (0, 10, 0), (6, 1, 0), (6, 2, 0)]) (p2 := 40) rfl rfl rfl rfl (x_rcv_s 2 hs3.1) rfl (zc_swd_usedin hs3 hm4 (by omega) (by omega) hc0 hc1 hc2 hc3 hc4 hc5 hc6) (Nat.le_refl _) (Nat.le_refl _) rfl (fun φ5 hR5 => ?_)
  obtain ⟨hs5_0, fr5⟩ := hR5
  refine q_store (loc2 := [(6, 2, 0), (6, 1, 0), (0, 10, 0), (0, 10, 0), (0, 0, 0), (0, 1, 0), (0, 0, 0), (0, 6, 0)]) (p2 := 41) rfl rfl rfl rfl rfl ?_
  refine q_load (v := (0, 6, 0)) (p2 := 42) rfl rfl rfl rfl ?_
  refine q_if0_s (p2 := 43) rfl (by decide) (by omega) rfl (fun hb => absurd hb (show ¬ (¬ (0 < 6)) by omega)) (fun _ => ?_)
  refine q_const (p2 := 44) rfl rfl ?_
  refine q_goto rfl ?_
  refine q_store (loc2 := [(6, 2, 0), (6, 1, 0), (0, 10, 0), (0, 10, 0), (0, 0, 0), (0, 1, 0), (0, 0, 0), (0, 6, 0)]) (p2 := 47) rfl rfl rfl rfl rfl ?_
  refine q_load (v := (0, 0, 0)) (p2 := 48) rfl rfl rfl rfl ?_
  refine q_load (v := (0, 6, 0)) (p2 := 49) rfl rfl rfl rfl ?_
  refine q_iop (w := 0 + 6) (z := 6) (p2 := 50) rfl (xo_add 0 6) (by decide) rfl ?_
  refine q_store (loc2 := [(6, 2, 0), (6, 1, 0), (0, 10, 0), (0, 10, 0), (0, 6, 0), (0, 1, 0), (0, 0, 0), (0, 6, 0)]) (p2 := 51) rfl rfl rfl rfl rfl ?_
  refine q_iinc (z := 1) (loc2 := [(6, 2, 0), (6, 1, 0), (0, 10, 0), (0, 10, 0), (0, 6, 0), (0, 1, 0), (0, 1, 0), (0, 6, 0)]) (p2 := 52) rfl rfl (by decide) rfl rfl ?_
  refine q_goto rfl ?_
  refine q_load (v := (0, 1, 0)) (p2 := 21) rfl rfl rfl rfl ?_
  refine q_load (v := (0, 10, 0)) (p2 := 22) rfl rfl rfl rfl ?_
  refine q_icmp_s (p2 := 23) rfl (by decide) (by omega) (by omega) rfl (fun hb => absurd hb (show ¬ (¬ (1 < 10)) by omega)) (fun _ => ?_)
  refine q_load (v := (0, 6, 0)) (p2 := 24) rfl rfl rfl rfl ?_
  refine q_load (v := (0, 10, 0)) (p2 := 25) rfl rfl rfl rfl ?_
  refine q_icmp_s (p2 := 26) rfl (by decide) (by omega) (by omega) rfl (fun hb => absurd hb (show ¬ (¬ (6 < 10)) by omega)) (fun _ => ?_)
  refine q_load (v := (0, 1, 0)) (p2 := 27) rfl rfl rfl rfl ?_
  refine q_if0_s (p2 := 28) rfl (by decide) (by omega) rfl (fun hb => absurd hb (show ¬ (1 = 0) by omega)) (fun _ => ?_)
  refine q_load (v := (6, 1, 0)) (p2 := 29) rfl rfl rfl rfl ?_
  refine q_load (v := (0, 6, 0)) (p2 := 30) rfl rfl rfl rfl ?_
  have hm6 := (zq_tp_at hm4 (fr5 1 (by decide) (by decide) (by decide) (by decide)))
  refine q_aldT (tag := 0) (v := 40) (p2 := 31) rfl hm6 (by omega) (by omega) hc6 rfl ?_
  refine q_callr (xs := [(0, 40, 0)]) (p2 := 32) rfl rfl rfl rfl (fun _ _ => rfl) rfl (zc_a_87_40 ) (Nat.le_refl _) (Nat.le_refl _) rfl ?_
  refine q_if0_s (p2 := 33) rfl (by decide) (by omega) rfl (fun _ => ?_) (fun hb => absurd (show 0 = 0 by omega) hb)
  refine q_load (v := (6, 2, 0)) (p2 := 36) rfl rfl rfl rfl ?_
  refine q_load (v := (6, 1, 0)) (p2 := 37) rfl rfl rfl rfl ?_
  refine q_load (v := (0, 10, 0)) (p2 := 38) rfl rfl rfl rfl ?_
  refine q_load (v := (0, 6, 0)) (p2 := 39) rfl rfl rfl rfl ?_
  refine q_callrE (xs := [(0, 6, 0), (0, 10, 0), (6, 1, 0), (6, 2, 0)]) (p2 := 40) rfl rfl rfl rfl (x_rcv_s 2 hs5_0.1) rfl (zc_sc_40a hs5_0 hm6 (by omega) hc6 (by omega) hc7 hc8) (Nat.le_refl _) (Nat.le_refl _) rfl (fun φ7 hR7 => ?_)
  obtain ⟨hs7_0, fr7⟩ := hR7
  refine q_store (loc2 := [(6, 2, 0), (6, 1, 0), (0, 10, 0), (0, 10, 0), (0, 6, 0), (0, 1, 0), (0, 1, 0), (0, 1, 0)]) (p2 := 41) rfl rfl rfl rfl rfl ?_
  refine q_load (v := (0, 1, 0)) (p2 := 42) rfl rfl rfl rfl ?_
  refine q_if0_s (p2 := 43) rfl (by decide) (by omega) rfl (fun hb => absurd hb (show ¬ (¬ (0 < 1)) by omega)) (fun _ => ?_)
  refine q_const (p2 := 44) rfl rfl ?_
  refine q_goto rfl ?_
  refine q_store (loc2 := [(6, 2, 0), (6, 1, 0), (0, 10, 0), (0, 10, 0), (0, 6, 0), (0, 1, 0), (0, 1, 0), (0, 1, 0)]) (p2 := 47) rfl rfl rfl rfl rfl ?_
  refine q_load (v := (0, 6, 0)) (p2 := 48) rfl rfl rfl rfl ?_
  refine q_load (v := (0, 1, 0)) (p2 := 49) rfl rfl rfl rfl ?_
  refine q_iop (w := 6 + 1) (z := 7) (p2 := 50) rfl (xo_add 6 1) (by decide) rfl ?_
  refine q_store (loc2 := [(6, 2, 0), (6, 1, 0), (0, 10, 0), (0, 10, 0), (0, 7, 0), (0, 1, 0), (0, 1, 0), (0, 1, 0)]) (p2 := 51) rfl rfl rfl rfl rfl ?_
  refine q_iinc (z := 2) (loc2 := [(6, 2, 0), (6, 1, 0), (0, 10, 0), (0, 10, 0), (0, 7, 0), (0, 1, 0), (0, 2, 0), (0, 1, 0)]) (p2 := 52) rfl rfl (by decide) rfl rfl ?_
  refine q_goto rfl ?_
  refine q_load (v := (0, 2, 0)) (p2 := 21) rfl rfl rfl rfl ?_
  refine q_load (v := (0, 10, 0)) (p2 := 22) rfl rfl rfl rfl ?_
  refine q_icmp_s (p2 := 23) rfl (by decide) (by omega) (by omega) rfl (fun hb => absurd hb (show ¬ (¬ (2 < 10)) by omega)) (fun _ => ?_)
  refine q_load (v := (0, 7, 0)) (p2 := 24) rfl rfl rfl rfl ?_
  refine q_load (v := (0, 10, 0)) (p2 := 25) rfl rfl rfl rfl ?_
  refine q_icmp_s (p2 := 26) rfl (by decide) (by omega) (by omega) rfl (fun hb => absurd hb (show ¬ (¬ (7 < 10)) by omega)) (fun _ => ?_)
  refine q_load (v := (0, 1, 0)) (p2 := 27) rfl rfl rfl rfl ?_
  refine q_if0_s (p2 := 28) rfl (by decide) (by omega) rfl (fun hb => absurd hb (show ¬ (1 = 0) by omega)) (fun _ => ?_)
  refine q_load (v := (6, 1, 0)) (p2 := 29) rfl rfl rfl rfl ?_
  refine q_load (v := (0, 7, 0)) (p2 := 30) rfl rfl rfl rfl ?_
  have hm8 := (zq_tp_at hm6 (fr7 1 (by decide) (by decide) (by decide) (by decide)))
  refine q_aldT (tag := 0) (v := 35) (p2 := 31) rfl hm8 (by omega) (by omega) hc7 rfl ?_
  refine q_callr (xs := [(0, 35, 0)]) (p2 := 32) rfl rfl rfl rfl (fun _ _ => rfl) rfl (zc_a_87_35 ) (Nat.le_refl _) (Nat.le_refl _) rfl ?_
  refine q_if0_s (p2 := 33) rfl (by decide) (by omega) rfl (fun _ => ?_) (fun hb => absurd (show 0 = 0 by omega) hb)
  refine q_load (v := (6, 2, 0)) (p2 := 36) rfl rfl rfl rfl ?_
  refine q_load (v := (6, 1, 0)) (p2 := 37) rfl rfl rfl rfl ?_
  refine q_load (v := (0, 10, 0)) (p2 := 38) rfl rfl rfl rfl ?_
  refine q_load (v := (0, 7, 0)) (p2 := 39) rfl rfl rfl rfl ?_
  refine q_callrE (xs := [(0, 7, 0), (0, 10, 0), (6, 1, 0), (6, 2, 0)]) (p2 := 40) rfl rfl rfl rfl (x_rcv_s 2 hs7_0.1) rfl (zc_sc_35a hs7_0 hm8 (by omega) hc7 (by omega) hc8 hc9) (Nat.le_refl _) (Nat.le_refl _) rfl (fun φ9 hR9 => ?_)
  obtain ⟨hs9_0, fr9⟩ := hR9
  refine q_store (loc2 := [(6, 2, 0), (6, 1, 0), (0, 10, 0), (0, 10, 0), (0, 7, 0), (0, 1, 0), (0, 2, 0), (0, 1, 0)]) (p2 := 41) rfl rfl rfl rfl rfl ?_
  refine q_load (v := (0, 1, 0)) (p2 := 42) rfl rfl rfl rfl ?_
  refine q_if0_s (p2 := 43) rfl (by decide) (by omega) rfl (fun hb => absurd hb (show ¬ (¬ (0 < 1)) by omega)) (fun _ => ?_)
  refine q_const (p2 := 44) rfl rfl ?_
  refine q_goto rfl ?_
  refine q_store (loc2 := [(6, 2, 0), (6, 1, 0), (0, 10, 0), (0, 10, 0), (0, 7, 0), (0, 1, 0), (0, 2, 0), (0, 1, 0)]) (p2 := 47) rfl rfl rfl rfl rfl ?_
  refine q_load (v := (0, 7, 0)) (p2 := 48) rfl rfl rfl rfl ?_
  refine q_load (v := (0, 1, 0)) (p2 := 49) rfl rfl rfl rfl ?_
  refine q_iop (w := 7 + 1) (z := 8) (p2 := 50) rfl (xo_add 7 1) (by decide) rfl ?_
  refine q_store (loc2 := [(6, 2, 0), (6, 1, 0), (0, 10, 0), (0, 10, 0), (0, 8, 0), (0, 1, 0), (0, 2, 0), (0, 1, 0)]) (p2 := 51) rfl rfl rfl rfl rfl ?_
  refine q_iinc (z := 3) (loc2 := [(6, 2, 0), (6, 1, 0), (0, 10, 0), (0, 10, 0), (0, 8, 0), (0, 1, 0), (0, 3, 0), (0, 1, 0)]) (p2 := 52) rfl rfl (by decide) rfl rfl ?_
  refine q_goto rfl ?_
  refine q_load (v := (0, 3, 0)) (p2 := 21) rfl rfl rfl rfl ?_
  refine q_load (v := (0, 10, 0)) (p2 := 22) rfl rfl rfl rfl ?_
  refine q_icmp_s (p2 := 23) rfl (by decide) (by omega) (by omega) rfl (fun hb => absurd hb (show ¬ (¬ (3 < 10)) by omega)) (fun _ => ?_)
  refine q_load (v := (0, 8, 0)) (p2 := 24) rfl rfl rfl rfl ?_
  refine q_load (v := (0, 10, 0)) (p2 := 25) rfl rfl rfl rfl ?_
  refine q_icmp_s (p2 := 26) rfl (by decide) (by omega) (by omega) rfl (fun hb => absurd hb (show ¬ (¬ (8 < 10)) by omega)) (fun _ => ?_)
  refine q_load (v := (0, 1, 0)) (p2 := 27) rfl rfl rfl rfl ?_
  refine q_if0_s (p2 := 28) rfl (by decide) (by omega) rfl (fun hb => absurd hb (show ¬ (1 = 0) by omega)) (fun _ => ?_)
  refine q_load (v := (6, 1, 0)) (p2 := 29) rfl rfl rfl rfl ?_
  refine q_load (v := (0, 8, 0)) (p2 := 30) rfl rfl rfl rfl ?_
  have hm10 := (zq_tp_at hm8 (fr9 1 (by decide) (by decide) (by decide) (by decide)))
  refine q_aldT (tag := 0) (v := d1) (p2 := 31) rfl hm10 (by omega) (by omega) hc8 rfl ?_
  refine q_callr (xs := [(0, d1, 0)]) (p2 := 32) rfl rfl rfl rfl (fun _ _ => rfl) rfl (zc_dg_isBlank (by omega)) (Nat.le_refl _) (Nat.le_refl _) rfl ?_
  refine q_if0_s (p2 := 33) rfl (by decide) (by omega) rfl (fun _ => ?_) (fun hb => absurd (show 0 = 0 by omega) hb)
  refine q_load (v := (6, 2, 0)) (p2 := 36) rfl rfl rfl rfl ?_
  refine q_load (v := (6, 1, 0)) (p2 := 37) rfl rfl rfl rfl ?_
  refine q_load (v := (0, 10, 0)) (p2 := 38) rfl rfl rfl rfl ?_
  refine q_load (v := (0, 8, 0)) (p2 := 39) rfl rfl rfl rfl ?_
  refine q_callrE (xs := [(0, 8, 0), (0, 10, 0), (6, 1, 0), (6, 2, 0)]) (p2 := 40) rfl rfl rfl rfl (x_rcv_s 2 hs9_0.1) rfl (zc_scn_1_41 hs9_0 hm10 hc9 hc8 (by omega) (by omega) (by omega)) (Nat.le_refl _) (Nat.le_refl _) rfl (fun φ11 hR11 => ?_)
  obtain ⟨hs11_0, fr11⟩ := hR11
  refine q_store (loc2 := [(6, 2, 0), (6, 1, 0), (0, 10, 0), (0, 10, 0), (0, 8, 0), (0, 1, 0), (0, 3, 0), (0, 1, 0)]) (p2 := 41) rfl rfl rfl rfl rfl ?_
  refine q_load (v := (0, 1, 0)) (p2 := 42) rfl rfl rfl rfl ?_
  refine q_if0_s (p2 := 43) rfl (by decide) (by omega) rfl (fun hb => absurd hb (show ¬ (¬ (0 < 1)) by omega)) (fun _ => ?_)
  refine q_const (p2 := 44) rfl rfl ?_
  refine q_goto rfl ?_
  refine q_store (loc2 := [(6, 2, 0), (6, 1, 0), (0, 10, 0), (0, 10, 0), (0, 8, 0), (0, 1, 0), (0, 3, 0), (0, 1, 0)]) (p2 := 47) rfl rfl rfl rfl rfl ?_
  refine q_load (v := (0, 8, 0)) (p2 := 48) rfl rfl rfl rfl ?_
  refine q_load (v := (0, 1, 0)) (p2 := 49) rfl rfl rfl rfl ?_
  refine q_iop (w := 8 + 1) (z := 9) (p2 := 50) rfl (xo_add 8 1) (by decide) rfl ?_
  refine q_store (loc2 := [(6, 2, 0), (6, 1, 0), (0, 10, 0), (0, 10, 0), (0, 9, 0), (0, 1, 0), (0, 3, 0), (0, 1, 0)]) (p2 := 51) rfl rfl rfl rfl rfl ?_
  refine q_iinc (z := 4) (loc2 := [(6, 2, 0), (6, 1, 0), (0, 10, 0), (0, 10, 0), (0, 9, 0), (0, 1, 0), (0, 4, 0), (0, 1, 0)]) (p2 := 52) rfl rfl (by decide) rfl rfl ?_
  refine q_goto rfl ?_
  refine q_load (v := (0, 4, 0)) (p2 := 21) rfl rfl rfl rfl ?_
  refine q_load (v := (0, 10, 0)) (p2 := 22) rfl rfl rfl rfl ?_
  refine q_icmp_s (p2 := 23) rfl (by decide) (by omega) (by omega) rfl (fun hb => absurd hb (show ¬ (¬ (4 < 10)) by omega)) (fun _ => ?_)
  refine q_load (v := (0, 9, 0)) (p2 := 24) rfl rfl rfl rfl ?_
  refine q_load (v := (0, 10, 0)) (p2 := 25) rfl rfl rfl rfl ?_
  refine q_icmp_s (p2 := 26) rfl (by decide) (by omega) (by omega) rfl (fun hb => absurd hb (show ¬ (¬ (9 < 10)) by omega)) (fun _ => ?_)
  refine q_load (v := (0, 1, 0)) (p2 := 27) rfl rfl rfl rfl ?_
  refine q_if0_s (p2 := 28) rfl (by decide) (by omega) rfl (fun hb => absurd hb (show ¬ (1 = 0) by omega)) (fun _ => ?_)
  refine q_load (v := (6, 1, 0)) (p2 := 29) rfl rfl rfl rfl ?_
  refine q_load (v := (0, 9, 0)) (p2 := 30) rfl rfl rfl rfl ?_
  have hm12 := (zq_tp_at hm10 (fr11 1 (by decide) (by decide) (by decide) (by decide)))
  refine q_aldT (tag := 0) (v := 41) (p2 := 31) rfl hm12 (by omega) (by omega) hc9 rfl ?_
  refine q_callr (xs := [(0, 41, 0)]) (p2 := 32) rfl rfl rfl rfl (fun _ _ => rfl) rfl (zc_a_87_41 ) (Nat.le_refl _) (Nat.le_refl _) rfl ?_
  refine q_if0_s (p2 := 33) rfl (by decide) (by omega) rfl (fun _ => ?_) (fun hb => absurd (show 0 = 0 by omega) hb)
  refine q_load (v := (6, 2, 0)) (p2 := 36) rfl rfl rfl rfl ?_
  refine q_load (v := (6, 1, 0)) (p2 := 37) rfl rfl rfl rfl ?_
  refine q_load (v := (0, 10, 0)) (p2 := 38) rfl rfl rfl rfl ?_
  refine q_load (v := (0, 9, 0)) (p2 := 39) rfl rfl rfl rfl ?_
  refine q_callrE (xs := [(0, 9, 0), (0, 10, 0), (6, 1, 0), (6, 2, 0)]) (p2 := 40) rfl rfl rfl rfl (x_rcv_s 2 hs11_0.1) rfl (zc_sc_41c hs11_0 hm12 (by omega) hc9 (by omega)) (Nat.le_refl _) (Nat.le_refl _) rfl (fun φ13 hR13 => ?_)
  obtain ⟨hs13_0, fr13⟩ := hR13
  refine q_store (loc2 := [(6, 2, 0), (6, 1, 0), (0, 10, 0), (0, 10, 0), (0, 9, 0), (0, 1, 0), (0, 4, 0), (0, 1, 0)]) (p2 := 41) rfl rfl rfl rfl rfl ?_
  refine q_load (v := (0, 1, 0)) (p2 := 42) rfl rfl rfl rfl ?_
  refine q_if0_s (p2 := 43) rfl (by decide) (by omega) rfl (fun hb => absurd hb (show ¬ (¬ (0 < 1)) by omega)) (fun _ => ?_)
  refine q_const (p2 := 44) rfl rfl ?_
  refine q_goto rfl ?_
  refine q_store (loc2 := [(6, 2, 0), (6, 1, 0), (0, 10, 0), (0, 10, 0), (0, 9, 0), (0, 1, 0), (0, 4, 0), (0, 1, 0)]) (p2 := 47) rfl rfl rfl rfl rfl ?_
  refine q_load (v := (0, 9, 0)) (p2 := 48) rfl rfl rfl rfl ?_
  refine q_load (v := (0, 1, 0)) (p2 := 49) rfl rfl rfl rfl ?_
  refine q_iop (w := 9 + 1) (z := 10) (p2 := 50) rfl (xo_add 9 1) (by decide) rfl ?_
  refine q_store (loc2 := [(6, 2, 0), (6, 1, 0), (0, 10, 0), (0, 10, 0), (0, 10, 0), (0, 1, 0), (0, 4, 0), (0, 1, 0)]) (p2 := 51) rfl rfl rfl rfl rfl ?_
  refine q_iinc (z := 5) (loc2 := [(6, 2, 0), (6, 1, 0), (0, 10, 0), (0, 10, 0), (0, 10, 0), (0, 1, 0), (0, 5, 0), (0, 1, 0)]) (p2 := 52) rfl rfl (by decide) rfl rfl ?_
  refine q_goto rfl ?_
  refine q_load (v := (0, 5, 0)) (p2 := 21) rfl rfl rfl rfl ?_
  refine q_load (v := (0, 10, 0)) (p2 := 22) rfl rfl rfl rfl ?_
  refine q_icmp_s (p2 := 23) rfl (by decide) (by omega) (by omega) rfl (fun hb => absurd hb (show ¬ (¬ (5 < 10)) by omega)) (fun _ => ?_)
  refine q_load (v := (0, 10, 0)) (p2 := 24) rfl rfl rfl rfl ?_
  refine q_load (v := (0, 10, 0)) (p2 := 25) rfl rfl rfl rfl ?_
  refine q_icmp_s (p2 := 26) rfl (by decide) (by omega) (by omega) rfl (fun _ => ?_) (fun hb => absurd (show ¬ (10 < 10) by omega) hb)
  refine q_load (v := (6, 2, 0)) (p2 := 54) rfl rfl rfl rfl ?_
  refine q_load (v := (0, 1, 0)) (p2 := 55) rfl rfl rfl rfl ?_
  refine q_if0_s (p2 := 56) rfl (by decide) (by omega) rfl (fun hb => absurd hb (show ¬ (1 = 0) by omega)) (fun _ => ?_)
  refine q_const (p2 := 57) rfl rfl ?_
  refine q_goto rfl ?_
  refine q_load (v := (0, 10, 0)) (p2 := 60) rfl rfl rfl rfl ?_
  refine q_const (p2 := 61) rfl rfl ?_
  refine q_callvE (xs := [(2, 0, 0), (0, 10, 0), (0, 0, 0), (6, 2, 0)]) (p2 := 62) rfl rfl rfl rfl (x_rcv_s 2 hs13_0.1) rfl (zc_t_add hs13_0 (by omega)) (Nat.le_refl _) (Nat.le_refl _) rfl (fun φ14 hR14 => ?_)
  obtain ⟨hs14_0, fr14⟩ := hR14
  refine q_load (v := (6, 2, 0)) (p2 := 63) rfl rfl rfl rfl ?_
  refine q_callvE (xs := [(6, 2, 0)]) (p2 := 64) rfl rfl rfl rfl (x_rcv_s 2 hs14_0.1) rfl (zc_t_rewind hs14_0 (by omega) ((x_s_ne (by decide)).trans ((x_s_ne (by decide)).trans ((x_s_ne (by decide)).trans ((x_s_ne (by decide)).trans ((x_s_ne (by decide)).trans (x_s_eq)))))) ((x_s_ne (by decide)).trans ((x_s_ne (by decide)).trans ((x_s_ne (by decide)).trans ((x_s_ne (by decide)).trans ((x_s_ne (by decide)).trans (x_s_eq)))))) ((x_s_ne (by decide)).trans ((x_s_ne (by decide)).trans ((x_s_ne (by decide)).trans ((x_s_ne (by decide)).trans ((x_s_ne (by decide)).trans (x_s_eq))))))) (Nat.le_refl _) (Nat.le_refl _) rfl (fun φ15 hR15 => ?_)
  obtain ⟨hs15_0, fr15⟩ := hR15
  exact q_ret rfl (⟨rfl, rfl, rfl, hs15_0, fun j hj0 hj1 hj2 hj3 => ((fr15 j (by omega)).trans ((fr14 j (by omega) (by omega) (by omega) (by omega)).trans ((fr13 j (by omega) (by omega) (by omega) (by omega)).trans ((fr11 j (by omega) (by omega) (by omega) (by omega)).trans ((fr9 j (by omega) (by omega) (by omega) (by omega)).trans ((fr7 j (by omega) (by omega) (by omega) (by omega)).trans ((fr5 j (by omega) (by omega) (by omega) (by omega)).trans ((fr3 j (by omega)).trans ((fr2 j (by omega)).trans (fr1 j (by omega)))))))))))⟩)
theorem zc_a_87_61 {d n sl : Nat} {φ : FH}    : x_f x_P (d + 1) 87 [(0, 61, 0)] φ n sl (x_r φ n sl (0, 0, 0)) := by
  refine x_f_of rfl ?_
  refine q_load (v := (0, 61, 0)) (p2 := 1) rfl rfl rfl rfl ?_
  refine q_const (p2 := 2) rfl rfl ?_
  refine q_icmp_s (p2 := 3) rfl (by decide) (by omega) (by omega) rfl (fun hb => absurd hb (show ¬ (61 = 32) by omega)) (fun _ => ?_)
  refine q_load (v := (0, 61, 0)) (p2 := 4) rfl rfl rfl rfl ?_
  refine q_const (p2 := 5) rfl rfl ?_
  refine q_icmp_s (p2 := 6) rfl (by decide) (by omega) (by omega) rfl (fun _ => ?_) (fun hb => absurd (show ¬ (61 = 10) by omega) hb)
  refine q_const (p2 := 9) rfl rfl ?_
  exact q_retv (v := (0, 0, 0)) rfl rfl (⟨rfl, rfl, rfl, rfl, rfl⟩)
theorem zc_t_load_eq {d n sl : Nat} {φ : FH} {tot : Nat} {at_ : Nat} {cur : Nat} {pl : Nat} {va : Nat} {fa : Nat} {fp : Nat} {sf : Nat} {sp : Nat} {no : Nat} {op : Nat} {K : Nat → Nat} {P : Nat → Nat} {V : Nat → Nat} {d1 : Nat} {d2 : Nat} {tp : Nat → Nat} (hT : zq_T φ tot at_ cur pl va fa fp sf sp no op K P V) (hB : zq_tp φ tp) (hc0 : tp 0 = 35) (hc1 : tp 1 = d1) (hc2 : tp 2 = 61) (hc3 : tp 3 = 35) (hc4 : tp 4 = d2) (hc5 : 48 ≤ d1 ∧ d1 ≤ 57 ∧ 48 ≤ d2 ∧ d2 ≤ 57) : x_f x_P (d + 4) 42 [(6, 2, 0), (6, 1, 0), (0, 5, 0), (11, 0, 0), (11, 0, 0), (11, 0, 0), (11, 0, 0), (11, 0, 0)] φ n sl (x_vR n sl (fun φ2 => zq_T φ2 6 0 82 0 0 0 fp 0 sp 0 0 (x_s (x_s (x_s (x_s (x_s (x_s K 0 82) 1 2) 2 64) 3 82) 4 2) 5 0) (x_s (x_s (x_s (x_s (x_s (x_s P 0 0) 1 1) 2 2) 3 3) 4 4) 5 5) (x_s (x_s (x_s (x_s (x_s (x_s V 0 0) 1 (0 + d1 - 48)) 2 0) 3 0) 4 (0 + d2 - 48)) 5 0) ∧ ∀ j, j ≠ 2 → j ≠ 4 → j ≠ 5 → j ≠ 6 → φ2 j = φ j)) := by
  refine x_f_of rfl ?_
  refine q_load (v := (6, 2, 0)) (p2 := 1) rfl rfl rfl rfl ?_
  refine q_const (p2 := 2) rfl rfl ?_
  refine q_putfE (v := (0, 0, 0)) (p2 := 3) rfl hT.1 (by decide) rfl rfl (fun φ1 f1 hh1 hg1 ho1 fr1 => ?_)
  have hs1 := zq_T_put_2_4 hT hh1 hg1 ho1 fr1
  refine q_load (v := (6, 2, 0)) (p2 := 4) rfl rfl rfl rfl ?_
  refine q_const (p2 := 5) rfl rfl ?_
  refine q_putfE (v := (0, 0, 0)) (p2 := 6) rfl hs1.1 (by decide) rfl rfl (fun φ2 f2 hh2 hg2 ho2 fr2 => ?_)
  have hs2 := zq_T_put_2_9 hs1 hh2 hg2 ho2 fr2
  refine q_load (v := (6, 2, 0)) (p2 := 7) rfl rfl rfl rfl ?_
  refine q_const (p2 := 8) rfl rfl ?_
  refine q_putfE (v := (0, 0, 0)) (p2 := 9) rfl hs2.1 (by decide) rfl rfl (fun φ3 f3 hh3 hg3 ho3 fr3 => ?_)
  have hs3 := zq_T_put_2_11 hs2 hh3 hg3 ho3 fr3
  refine q_load (v := (0, 5, 0)) (p2 := 10) rfl rfl rfl rfl ?_
  refine q_load (v := (6, 1, 0)) (p2 := 11) rfl rfl rfl rfl ?_
  have hm4 := (zq_tp_at hB ((fr3 1 (by decide)).trans ((fr2 1 (by decide)).trans (fr1 1 (by decide)))))
  refine q_alen (p2 := 12) rfl hm4 rfl (by omega) rfl ?_
  refine q_min_b (p2 := 13) rfl rfl (by omega) (by omega) rfl ?_
  refine q_store (loc2 := [(6, 2, 0), (6, 1, 0), (0, 5, 0), (0, 5, 0), (11, 0, 0), (11, 0, 0), (11, 0, 0), (11, 0, 0)]) (p2 := 14) rfl rfl rfl rfl rfl ?_
  refine q_const (p2 := 15) rfl rfl ?_
  refine q_store (loc2 := [(6, 2, 0), (6, 1, 0), (0, 5, 0), (0, 5, 0), (0, 0, 0), (11, 0, 0), (11, 0, 0), (11, 0, 0)]) (p2 := 16) rfl rfl rfl rfl rfl ?_
  refine q_const (p2 := 17) rfl rfl ?_
  refine q_store (loc2 := [(6, 2, 0), (6, 1, 0), (0, 5, 0), (0, 5, 0), (0, 0, 0), (0, 1, 0), (11, 0, 0), (11, 0, 0)]) (p2 := 18) rfl rfl rfl rfl rfl ?_
  refine q_const (p2 := 19) rfl rfl ?_
  refine q_store (loc2 := [(6, 2, 0), (6, 1, 0), (0, 5, 0), (0, 5, 0), (0, 0, 0), (0, 1, 0), (0, 0, 0), (11, 0, 0)]) (p2 := 20) rfl rfl rfl rfl rfl ?_
  refine q_load (v := (0, 0, 0)) (p2 := 21) rfl rfl rfl rfl ?_
  refine q_load (v := (0, 5, 0)) (p2 := 22) rfl rfl rfl rfl ?_
  refine q_icmp_s (p2 := 23) rfl (by decide) (by omega) (by omega) rfl (fun hb => absurd hb (show ¬ (¬ (0 < 5)) by omega)) (fun _ => ?_)
  refine q_load (v := (0, 0, 0)) (p2 := 24) rfl rfl rfl rfl ?_
  refine q_load (v := (0, 5, 0)) (p2 := 25) rfl rfl rfl rfl ?_
  refine q_icmp_s (p2 := 26) rfl (by decide) (by omega) (by omega) rfl (fun hb => absurd hb (show ¬ (¬ (0 < 5)) by omega)) (fun _ => ?_)
  refine q_load (v := (0, 1, 0)) (p2 := 27) rfl rfl rfl rfl ?_
  refine q_if0_s (p2 := 28) rfl (by decide) (by omega) rfl (fun hb => absurd hb (show ¬ (1 = 0) by omega)) (fun _ => ?_)
  refine q_load (v := (6, 1, 0)) (p2 := 29) rfl rfl rfl rfl ?_
  refine q_load (v := (0, 0, 0)) (p2 := 30) rfl rfl rfl rfl ?_
  refine q_aldT (tag := 0) (v := 35) (p2 := 31) rfl hm4 (by omega) (by omega) hc0 rfl ?_
  refine q_callr (xs := [(0, 35, 0)]) (p2 := 32) rfl rfl rfl rfl (fun _ _ => rfl) rfl (zc_a_87_35 ) (Nat.le_refl _) (Nat.le_refl _) rfl ?_
  refine q_if0_s (p2 := 33) rfl (by decide) (by omega) rfl (fun _ => ?_) (fun hb => absurd (show 0 = 0 by omega) hb)
  refine q_load (v := (6, 2, 0)) (p2 := 36) rfl rfl rfl rfl ?_
  refine q_load (v := (6, 1, 0)) (p2 := 37) rfl rfl rfl rfl ?_
  refine q_load (v := (0, 5, 0)) (p2 := 38) rfl rfl rfl rfl ?_
  refine q_load (v := (0, 0, 0)) (p2 := 39) rfl rfl rfl rfl ?_
  refine q_callrE (xs := [(0, 0, 0), (0, 5, 0), (6, 1, 0), (6, 2, 0)]) (p2 := 40) rfl rfl rfl rfl (x_rcv_s 2 hs3.1) rfl (zc_sc_35a hs3 hm4 (by omega) hc0 (by omega) hc1 hc2) (Nat.le_refl _) (Nat.le_refl _) rfl (fun φ5 hR5 => ?_)
  obtain ⟨hs5_0, fr5⟩ := hR5
  refine q_store (loc2 := [(6, 2, 0), (6, 1, 0), (0, 5, 0), (0, 5, 0), (0, 0, 0), (0, 1, 0), (0, 0, 0), (0, 1, 0)]) (p2 := 41) rfl rfl rfl rfl rfl ?_
  refine q_load (v := (0, 1, 0)) (p2 := 42) rfl rfl rfl rfl ?_
  refine q_if0_s (p2 := 43) rfl (by decide) (by omega) rfl (fun hb => absurd hb (show ¬ (¬ (0 < 1)) by omega)) (fun _ => ?_)
  refine q_const (p2 := 44) rfl rfl ?_
  refine q_goto rfl ?_
  refine q_store (loc2 := [(6, 2, 0), (6, 1, 0), (0, 5, 0), (0, 5, 0), (0, 0, 0), (0, 1, 0), (0, 0, 0), (0, 1, 0)]) (p2 := 47) rfl rfl rfl rfl rfl ?_
  refine q_load (v := (0, 0, 0)) (p2 := 48) rfl rfl rfl rfl ?_
  refine q_load (v := (0, 1, 0)) (p2 := 49) rfl rfl rfl rfl ?_
  refine q_iop (w := 0 + 1) (z := 1) (p2 := 50) rfl (xo_add 0 1) (by decide) rfl ?_
  refine q_store (loc2 := [(6, 2, 0), (6, 1, 0), (0, 5, 0), (0, 5, 0), (0, 1, 0), (0, 1, 0), (0, 0, 0), (0, 1, 0)]) (p2 := 51) rfl rfl rfl rfl rfl ?_
  refine q_iinc (z := 1) (loc2 := [(6, 2, 0), (6, 1, 0), (0, 5, 0), (0, 5, 0), (0, 1, 0), (0, 1, 0), (0, 1, 0), (0, 1, 0)]) (p2 := 52) rfl rfl (by decide) rfl rfl ?_
  refine q_goto rfl ?_
  refine q_load (v := (0, 1, 0)) (p2 := 21) rfl rfl rfl rfl ?_
  refine q_load (v := (0, 5, 0)) (p2 := 22) rfl rfl rfl rfl ?_
  refine q_icmp_s (p2 := 23) rfl (by decide) (by omega) (by omega) rfl (fun hb => absurd hb (show ¬ (¬ (1 < 5)) by omega)) (fun _ => ?_)
  refine q_load (v := (0, 1, 0)) (p2 := 24) rfl rfl rfl rfl ?_
  refine q_load (v := (0, 5, 0)) (p2 := 25) rfl rfl rfl rfl ?_
  refine q_icmp_s (p2 := 26) rfl (by decide) (by omega) (by omega) rfl (fun hb => absurd hb (show ¬ (¬ (1 < 5)) by omega)) (fun _ => ?_)
  refine q_load (v := (0, 1, 0)) (p2 := 27) rfl rfl rfl rfl ?_
  refine q_if0_s (p2 := 28) rfl (by decide) (by omega) rfl (fun hb => absurd hb (show ¬ (1 = 0) by omega)) (fun _ => ?_)
  refine q_load (v := (6, 1, 0)) (p2 := 29) rfl rfl rfl rfl ?_
  refine q_load (v := (0, 1, 0)) (p2 := 30) rfl rfl rfl rfl ?_
  have hm6 := (zq_tp_at hm4 (fr5 1 (by decide) (by decide) (by decide) (by decide)))
  refine q_aldT (tag := 0) (v := d1) (p2 := 31) rfl hm6 (by omega) (by omega) hc1 rfl ?_
  refine q_callr (xs := [(0, d1, 0)]) (p2 := 32) rfl rfl rfl rfl (fun _ _ => rfl) rfl (zc_dg_isBlank (by omega)) (Nat.le_refl _) (Nat.le_refl _) rfl ?_
  refine q_if0_s (p2 := 33) rfl (by decide) (by omega) rfl (fun _ => ?_) (fun hb => absurd (show 0 = 0 by omega) hb)
  refine q_load (v := (6, 2, 0)) (p2 := 36) rfl rfl rfl rfl ?_
  refine q_load (v := (6, 1, 0)) (p2 := 37) rfl rfl rfl rfl ?_
  refine q_load (v := (0, 5, 0)) (p2 := 38) rfl rfl rfl rfl ?_
  refine q_load (v := (0, 1, 0)) (p2 := 39) rfl rfl rfl rfl ?_
  refine q_callrE (xs := [(0, 1, 0), (0, 5, 0), (6, 1, 0), (6, 2, 0)]) (p2 := 40) rfl rfl rfl rfl (x_rcv_s 2 hs5_0.1) rfl (zc_scn_1_61 hs5_0 hm6 hc2 hc1 (by omega) (by omega) (by omega)) (Nat.le_refl _) (Nat.le_refl _) rfl (fun φ7 hR7 => ?_)
  obtain ⟨hs7_0, fr7⟩ := hR7
  refine q_store (loc2 := [(6, 2, 0), (6, 1, 0), (0, 5, 0), (0, 5, 0), (0, 1, 0), (0, 1, 0), (0, 1, 0), (0, 1, 0)]) (p2 := 41) rfl rfl rfl rfl rfl ?_
  refine q_load (v := (0, 1, 0)) (p2 := 42) rfl rfl rfl rfl ?_
  refine q_if0_s (p2 := 43) rfl (by decide) (by omega) rfl (fun hb => absurd hb (show ¬ (¬ (0 < 1)) by omega)) (fun _ => ?_)
  refine q_const (p2 := 44) rfl rfl ?_
  refine q_goto rfl ?_
  refine q_store (loc2 := [(6, 2, 0), (6, 1, 0), (0, 5, 0), (0, 5, 0), (0, 1, 0), (0, 1, 0), (0, 1, 0), (0, 1, 0)]) (p2 := 47) rfl rfl rfl rfl rfl ?_
  refine q_load (v := (0, 1, 0)) (p2 := 48) rfl rfl rfl rfl ?_
  refine q_load (v := (0, 1, 0)) (p2 := 49) rfl rfl rfl rfl ?_
  refine q_iop (w := 1 + 1) (z := 2) (p2 := 50) rfl (xo_add 1 1) (by decide) rfl ?_
  refine q_store (loc2 := [(6, 2, 0), (6, 1, 0), (0, 5, 0), (0, 5, 0), (0, 2, 0), (0, 1, 0), (0, 1, 0), (0, 1, 0)]) (p2 := 51) rfl rfl rfl rfl rfl ?_
  refine q_iinc (z := 2) (loc2 := [(6, 2, 0), (6, 1, 0), (0, 5, 0), (0, 5, 0), (0, 2, 0), (0, 1, 0), (0, 2, 0), (0, 1, 0)]) (p2 := 52) rfl rfl (by decide) rfl rfl ?_
  refine q_goto rfl ?_
  refine q_load (v := (0, 2, 0)) (p2 := 21) rfl rfl rfl rfl ?_
  refine q_load (v := (0, 5, 0)) (p2 := 22) rfl rfl rfl rfl ?_
  refine q_icmp_s (p2 := 23) rfl (by decide) (by omega) (by omega) rfl (fun hb => absurd hb (show ¬ (¬ (2 < 5)) by omega)) (fun _ => ?_)
  refine q_load (v := (0, 2, 0)) (p2 := 24) rfl rfl rfl rfl ?_
  refine q_load (v := (0, 5, 0)) (p2 := 25) rfl rfl rfl rfl ?_
  refine q_icmp_s (p2 := 26) rfl (by decide) (by omega) (by omega) rfl (fun hb => absurd hb (show ¬ (¬ (2 < 5)) by omega)) (fun _ => ?_)
  refine q_load (v := (0, 1, 0)) (p2 := 27) rfl rfl rfl rfl ?_
  refine q_if0_s (p2 := 28) rfl (by decide) (by omega) rfl (fun hb => absurd hb (show ¬ (1 = 0) by omega)) (fun _ => ?_)
  refine q_load (v := (6, 1, 0)) (p2 := 29) rfl rfl rfl rfl ?_
  refine q_load (v := (0, 2, 0)) (p2 := 30) rfl rfl rfl rfl ?_
  have hm8 := (zq_tp_at hm6 (fr7 1 (by decide) (by decide) (by decide) (by decide)))
  refine q_aldT (tag := 0) (v := 61) (p2 := 31) rfl hm8 (by omega) (by omega) hc2 rfl ?_
  refine q_callr (xs := [(0, 61, 0)]) (p2 := 32) rfl rfl rfl rfl (fun _ _ => rfl) rfl (zc_a_87_61 ) (Nat.le_refl _) (Nat.le_refl _) rfl ?_
  refine q_if0_s (p2 := 33) rfl (by decide) (by omega) rfl (fun _ => ?_) (fun hb => absurd (show 0 = 0 by omega) hb)
  refine q_load (v := (6, 2, 0)) (p2 := 36) rfl rfl rfl rfl ?_
  refine q_load (v := (6, 1, 0)) (p2 := 37) rfl rfl rfl rfl ?_
  refine q_load (v := (0, 5, 0)) (p2 := 38) rfl rfl rfl rfl ?_
  refine q_load (v := (0, 2, 0)) (p2 := 39) rfl rfl rfl rfl ?_
  refine q_callrE (xs := [(0, 2, 0), (0, 5, 0), (6, 1, 0), (6, 2, 0)]) (p2 := 40) rfl rfl rfl rfl (x_rcv_s 2 hs7_0.1) rfl (zc_sc_61a hs7_0 hm8 (by omega) hc2 (by omega) hc3 hc4) (Nat.le_refl _) (Nat.le_refl _) rfl (fun φ9 hR9 => ?_)
  obtain ⟨hs9_0, fr9⟩ := hR9
  refine q_store (loc2 := [(6, 2, 0), (6, 1, 0), (0, 5, 0), (0, 5, 0), (0, 2, 0), (0, 1, 0), (0, 2, 0), (0, 1, 0)]) (p2 := 41) rfl rfl rfl rfl rfl ?_
  refine q_load (v := (0, 1, 0)) (p2 := 42) rfl rfl rfl rfl ?_
  refine q_if0_s (p2 := 43) rfl (by decide) (by omega) rfl (fun hb => absurd hb (show ¬ (¬ (0 < 1)) by omega)) (fun _ => ?_)
  refine q_const (p2 := 44) rfl rfl ?_
  refine q_goto rfl ?_
  refine q_store (loc2 := [(6, 2, 0), (6, 1, 0), (0, 5, 0), (0, 5, 0), (0, 2, 0), (0, 1, 0), (0, 2, 0), (0, 1, 0)]) (p2 := 47) rfl rfl rfl rfl rfl ?_
  refine q_load (v := (0, 2, 0)) (p2 := 48) rfl rfl rfl rfl ?_
  refine q_load (v := (0, 1, 0)) (p2 := 49) rfl rfl rfl rfl ?_
  refine q_iop (w := 2 + 1) (z := 3) (p2 := 50) rfl (xo_add 2 1) (by decide) rfl ?_
  refine q_store (loc2 := [(6, 2, 0), (6, 1, 0), (0, 5, 0), (0, 5, 0), (0, 3, 0), (0, 1, 0), (0, 2, 0), (0, 1, 0)]) (p2 := 51) rfl rfl rfl rfl rfl ?_
  refine q_iinc (z := 3) (loc2 := [(6, 2, 0), (6, 1, 0), (0, 5, 0), (0, 5, 0), (0, 3, 0), (0, 1, 0), (0, 3, 0), (0, 1, 0)]) (p2 := 52) rfl rfl (by decide) rfl rfl ?_
  refine q_goto rfl ?_
  refine q_load (v := (0, 3, 0)) (p2 := 21) rfl rfl rfl rfl ?_
  refine q_load (v := (0, 5, 0)) (p2 := 22) rfl rfl rfl rfl ?_
  refine q_icmp_s (p2 := 23) rfl (by decide) (by omega) (by omega) rfl (fun hb => absurd hb (show ¬ (¬ (3 < 5)) by omega)) (fun _ => ?_)
  refine q_load (v := (0, 3, 0)) (p2 := 24) rfl rfl rfl rfl ?_
  refine q_load (v := (0, 5, 0)) (p2 := 25) rfl rfl rfl rfl ?_
  refine q_icmp_s (p2 := 26) rfl (by decide) (by omega) (by omega) rfl (fun hb => absurd hb (show ¬ (¬ (3 < 5)) by omega)) (fun _ => ?_)
  refine q_load (v := (0, 1, 0)) (p2 := 27) rfl rfl rfl rfl ?_
  refine q_if0_s (p2 := 28) rfl (by decide) (by omega) rfl (fun hb => absurd hb (show ¬ (1 = 0) by omega)) (fun _ => ?_)
  refine q_load (v := (6, 1, 0)) (p2 := 29) rfl rfl rfl rfl ?_
  refine q_load (v := (0, 3, 0)) (p2 := 30) rfl rfl rfl rfl ?_
  have hm10 := (zq_tp_at hm8 (fr9 1 (by decide) (by decide) (by decide) (by decide)))
  refine q_aldT (tag := 0) (v := 35) (p2 := 31) rfl hm10 (by omega) (by omega) hc3 rfl ?_
  refine q_callr (xs := [(0, 35, 0)]) (p2 := 32) rfl rfl rfl rfl (fun _ _ => rfl) rfl (zc_a_87_35 ) (Nat.le_refl _) (Nat.le_refl _) rfl ?_
  refine q_if0_s (p2 := 33) rfl (by decide) (by omega) rfl (fun _ => ?_) (fun hb => absurd (show 0 = 0 by omega) hb)
  refine q_load (v := (6, 2, 0)) (p2 := 36) rfl rfl rfl rfl ?_
  refine q_load (v := (6, 1, 0)) (p2 := 37) rfl rfl rfl rfl ?_
  refine q_load (v := (0, 5, 0)) (p2 := 38) rfl rfl rfl rfl ?_
  refine q_load (v := (0, 3, 0)) (p2 := 39) rfl rfl rfl rfl ?_
  refine q_callrE (xs := [(0, 3, 0), (0, 5, 0), (6, 1, 0), (6, 2, 0)]) (p2 := 40) rfl rfl rfl rfl (x_rcv_s 2 hs9_0.1) rfl (zc_sc_35b hs9_0 hm10 (by omega) hc3 (by omega) hc4) (Nat.le_refl _) (Nat.le_refl _) rfl (fun φ11 hR11 => ?_)
  obtain ⟨hs11_0, fr11⟩ := hR11
  refine q_store (loc2 := [(6, 2, 0), (6, 1, 0), (0, 5, 0), (0, 5, 0), (0, 3, 0), (0, 1, 0), (0, 3, 0), (0, 1, 0)]) (p2 := 41) rfl rfl rfl rfl rfl ?_
  refine q_load (v := (0, 1, 0)) (p2 := 42) rfl rfl rfl rfl ?_
  refine q_if0_s (p2 := 43) rfl (by decide) (by omega) rfl (fun hb => absurd hb (show ¬ (¬ (0 < 1)) by omega)) (fun _ => ?_)
  refine q_const (p2 := 44) rfl rfl ?_
  refine q_goto rfl ?_
  refine q_store (loc2 := [(6, 2, 0), (6, 1, 0), (0, 5, 0), (0, 5, 0), (0, 3, 0), (0, 1, 0), (0, 3, 0), (0, 1, 0)]) (p2 := 47) rfl rfl rfl rfl rfl ?_
  refine q_load (v := (0, 3, 0)) (p2 := 48) rfl rfl rfl rfl ?_
  refine q_load (v := (0, 1, 0)) (p2 := 49) rfl rfl rfl rfl ?_
  refine q_iop (w := 3 + 1) (z := 4) (p2 := 50) rfl (xo_add 3 1) (by decide) rfl ?_
  refine q_store (loc2 := [(6, 2, 0), (6, 1, 0), (0, 5, 0), (0, 5, 0), (0, 4, 0), (0, 1, 0), (0, 3, 0), (0, 1, 0)]) (p2 := 51) rfl rfl rfl rfl rfl ?_
  refine q_iinc (z := 4) (loc2 := [(6, 2, 0), (6, 1, 0), (0, 5, 0), (0, 5, 0), (0, 4, 0), (0, 1, 0), (0, 4, 0), (0, 1, 0)]) (p2 := 52) rfl rfl (by decide) rfl rfl ?_
  refine q_goto rfl ?_
  refine q_load (v := (0, 4, 0)) (p2 := 21) rfl rfl rfl rfl ?_
  refine q_load (v := (0, 5, 0)) (p2 := 22) rfl rfl rfl rfl ?_
  refine q_icmp_s (p2 := 23) rfl (by decide) (by omega) (by omega) rfl (fun hb => absurd hb (show ¬ (¬ (4 < 5)) by omega)) (fun _ => ?_)
  refine q_load (v := (0, 4, 0)) (p2 := 24) rfl rfl rfl rfl ?_
  refine q_load (v := (0, 5, 0)) (p2 := 25) rfl rfl rfl rfl ?_
  refine q_icmp_s (p2 := 26) rfl (by decide) (by omega) (by omega) rfl (fun hb => absurd hb (show ¬ (¬ (4 < 5)) by omega)) (fun _ => ?_)
  refine q_load (v := (0, 1, 0)) (p2 := 27) rfl rfl rfl rfl ?_
  refine q_if0_s (p2 := 28) rfl (by decide) (by omega) rfl (fun hb => absurd hb (show ¬ (1 = 0) by omega)) (fun _ => ?_)
  refine q_load (v := (6, 1, 0)) (p2 := 29) rfl rfl rfl rfl ?_
  refine q_load (v := (0, 4, 0)) (p2 := 30) rfl rfl rfl rfl ?_
  have hm12 := (zq_tp_at hm10 (fr11 1 (by decide) (by decide) (by decide) (by decide)))
  refine q_aldT (tag := 0) (v := d2) (p2 := 31) rfl hm12 (by omega) (by omega) hc4 rfl ?_
  refine q_callr (xs := [(0, d2, 0)]) (p2 := 32) rfl rfl rfl rfl (fun _ _ => rfl) rfl (zc_dg_isBlank (by omega)) (Nat.le_refl _) (Nat.le_refl _) rfl ?_
  refine q_if0_s (p2 := 33) rfl (by decide) (by omega) rfl (fun _ => ?_) (fun hb => absurd (show 0 = 0 by omega) hb)
  refine q_load (v := (6, 2, 0)) (p2 := 36) rfl rfl rfl rfl ?_
  refine q_load (v := (6, 1, 0)) (p2 := 37) rfl rfl rfl rfl ?_
  refine q_load (v := (0, 5, 0)) (p2 := 38) rfl rfl rfl rfl ?_
  refine q_load (v := (0, 4, 0)) (p2 := 39) rfl rfl rfl rfl ?_
  refine q_callrE (xs := [(0, 4, 0), (0, 5, 0), (6, 1, 0), (6, 2, 0)]) (p2 := 40) rfl rfl rfl rfl (x_rcv_s 2 hs11_0.1) rfl (zc_scn_1e hs11_0 hm12 hc4 (by omega) (by omega) (by omega)) (Nat.le_refl _) (Nat.le_refl _) rfl (fun φ13 hR13 => ?_)
  obtain ⟨hs13_0, fr13⟩ := hR13
  refine q_store (loc2 := [(6, 2, 0), (6, 1, 0), (0, 5, 0), (0, 5, 0), (0, 4, 0), (0, 1, 0), (0, 4, 0), (0, 1, 0)]) (p2 := 41) rfl rfl rfl rfl rfl ?_
  refine q_load (v := (0, 1, 0)) (p2 := 42) rfl rfl rfl rfl ?_
  refine q_if0_s (p2 := 43) rfl (by decide) (by omega) rfl (fun hb => absurd hb (show ¬ (¬ (0 < 1)) by omega)) (fun _ => ?_)
  refine q_const (p2 := 44) rfl rfl ?_
  refine q_goto rfl ?_
  refine q_store (loc2 := [(6, 2, 0), (6, 1, 0), (0, 5, 0), (0, 5, 0), (0, 4, 0), (0, 1, 0), (0, 4, 0), (0, 1, 0)]) (p2 := 47) rfl rfl rfl rfl rfl ?_
  refine q_load (v := (0, 4, 0)) (p2 := 48) rfl rfl rfl rfl ?_
  refine q_load (v := (0, 1, 0)) (p2 := 49) rfl rfl rfl rfl ?_
  refine q_iop (w := 4 + 1) (z := 5) (p2 := 50) rfl (xo_add 4 1) (by decide) rfl ?_
  refine q_store (loc2 := [(6, 2, 0), (6, 1, 0), (0, 5, 0), (0, 5, 0), (0, 5, 0), (0, 1, 0), (0, 4, 0), (0, 1, 0)]) (p2 := 51) rfl rfl rfl rfl rfl ?_
  refine q_iinc (z := 5) (loc2 := [(6, 2, 0), (6, 1, 0), (0, 5, 0), (0, 5, 0), (0, 5, 0), (0, 1, 0), (0, 5, 0), (0, 1, 0)]) (p2 := 52) rfl rfl (by decide) rfl rfl ?_
  refine q_goto rfl ?_
  refine q_load (v := (0, 5, 0)) (p2 := 21) rfl rfl rfl rfl ?_
  refine q_load (v := (0, 5, 0)) (p2 := 22) rfl rfl rfl rfl ?_
  refine q_icmp_s (p2 := 23) rfl (by decide) (by omega) (by omega) rfl (fun _ => ?_) (fun hb => absurd (show ¬ (5 < 5) by omega) hb)
  refine q_load (v := (6, 2, 0)) (p2 := 54) rfl rfl rfl rfl ?_
  refine q_load (v := (0, 1, 0)) (p2 := 55) rfl rfl rfl rfl ?_
  refine q_if0_s (p2 := 56) rfl (by decide) (by omega) rfl (fun hb => absurd hb (show ¬ (1 = 0) by omega)) (fun _ => ?_)
  refine q_const (p2 := 57) rfl rfl ?_
  refine q_goto rfl ?_
  refine q_load (v := (0, 5, 0)) (p2 := 60) rfl rfl rfl rfl ?_
  refine q_const (p2 := 61) rfl rfl ?_
  refine q_callvE (xs := [(2, 0, 0), (0, 5, 0), (0, 0, 0), (6, 2, 0)]) (p2 := 62) rfl rfl rfl rfl (x_rcv_s 2 hs13_0.1) rfl (zc_t_add hs13_0 (by omega)) (Nat.le_refl _) (Nat.le_refl _) rfl (fun φ14 hR14 => ?_)
  obtain ⟨hs14_0, fr14⟩ := hR14
  refine q_load (v := (6, 2, 0)) (p2 := 63) rfl rfl rfl rfl ?_
  refine q_callvE (xs := [(6, 2, 0)]) (p2 := 64) rfl rfl rfl rfl (x_rcv_s 2 hs14_0.1) rfl (zc_t_rewind hs14_0 (by omega) ((x_s_ne (by decide)).trans ((x_s_ne (by decide)).trans ((x_s_ne (by decide)).trans ((x_s_ne (by decide)).trans ((x_s_ne (by decide)).trans (x_s_eq)))))) ((x_s_ne (by decide)).trans ((x_s_ne (by decide)).trans ((x_s_ne (by decide)).trans ((x_s_ne (by decide)).trans ((x_s_ne (by decide)).trans (x_s_eq)))))) ((x_s_ne (by decide)).trans ((x_s_ne (by decide)).trans ((x_s_ne (by decide)).trans ((x_s_ne (by decide)).trans ((x_s_ne (by decide)).trans (x_s_eq))))))) (Nat.le_refl _) (Nat.le_refl _) rfl (fun φ15 hR15 => ?_)
  obtain ⟨hs15_0, fr15⟩ := hR15
  exact q_ret rfl (⟨rfl, rfl, rfl, hs15_0, fun j hj0 hj1 hj2 hj3 => ((fr15 j (by omega)).trans ((fr14 j (by omega) (by omega) (by omega) (by omega)).trans ((fr13 j (by omega) (by omega) (by omega) (by omega)).trans ((fr11 j (by omega) (by omega) (by omega) (by omega)).trans ((fr9 j (by omega) (by omega) (by omega) (by omega)).trans ((fr7 j (by omega) (by omega) (by omega) (by omega)).trans ((fr5 j (by omega) (by omega) (by omega) (by omega)).trans ((fr3 j (by omega)).trans ((fr2 j (by omega)).trans (fr1 j (by omega)))))))))))⟩)
theorem zc_a_87_43 {d n sl : Nat} {φ : FH}    : x_f x_P (d + 1) 87 [(0, 43, 0)] φ n sl (x_r φ n sl (0, 0, 0)) := by
  refine x_f_of rfl ?_
  refine q_load (v := (0, 43, 0)) (p2 := 1) rfl rfl rfl rfl ?_
  refine q_const (p2 := 2) rfl rfl ?_
  refine q_icmp_s (p2 := 3) rfl (by decide) (by omega) (by omega) rfl (fun hb => absurd hb (show ¬ (43 = 32) by omega)) (fun _ => ?_)
  refine q_load (v := (0, 43, 0)) (p2 := 4) rfl rfl rfl rfl ?_
  refine q_const (p2 := 5) rfl rfl ?_
  refine q_icmp_s (p2 := 6) rfl (by decide) (by omega) (by omega) rfl (fun _ => ?_) (fun hb => absurd (show ¬ (43 = 10) by omega) hb)
  refine q_const (p2 := 9) rfl rfl ?_
  exact q_retv (v := (0, 0, 0)) rfl rfl (⟨rfl, rfl, rfl, rfl, rfl⟩)
theorem zc_t_load_err {d n sl : Nat} {φ : FH} {tot : Nat} {at_ : Nat} {cur : Nat} {pl : Nat} {va : Nat} {fa : Nat} {fp : Nat} {sf : Nat} {sp : Nat} {no : Nat} {op : Nat} {K : Nat → Nat} {P : Nat → Nat} {V : Nat → Nat} {d1 : Nat} {tp : Nat → Nat} (hT : zq_T φ tot at_ cur pl va fa fp sf sp no op K P V) (hB : zq_tp φ tp) (hc0 : tp 0 = 35) (hc1 : tp 1 = d1) (hc2 : tp 2 = 43) (hc3 : 48 ≤ d1 ∧ d1 ≤ 57) : x_f x_P (d + 4) 42 [(6, 2, 0), (6, 1, 0), (0, 3, 0), (11, 0, 0), (11, 0, 0), (11, 0, 0), (11, 0, 0), (11, 0, 0)] φ n sl (x_vR n sl (fun φ2 => zq_T φ2 4 0 82 0 0 0 fp 0 sp 0 0 (x_s (x_s (x_s (x_s K 0 82) 1 2) 2 69) 3 0) (x_s (x_s (x_s (x_s P 0 0) 1 1) 2 2) 3 3) (x_s (x_s (x_s (x_s V 0 0) 1 (0 + d1 - 48)) 2 0) 3 0) ∧ ∀ j, j ≠ 2 → j ≠ 4 → j ≠ 5 → j ≠ 6 → φ2 j = φ j)) := by
  refine x_f_of rfl ?_
  refine q_load (v := (6, 2, 0)) (p2 := 1) rfl rfl rfl rfl ?_
  refine q_const (p2 := 2) rfl rfl ?_
  refine q_putfE (v := (0, 0, 0)) (p2 := 3) rfl hT.1 (by decide) rfl rfl (fun φ1 f1 hh1 hg1 ho1 fr1 => ?_)
  have hs1 := zq_T_put_2_4 hT hh1 hg1 ho1 fr1
  refine q_load (v := (6, 2, 0)) (p2 := 4) rfl rfl rfl rfl ?_
  refine q_const (p2 := 5) rfl rfl ?_
  refine q_putfE (v := (0, 0, 0)) (p2 := 6) rfl hs1.1 (by decide) rfl rfl (fun φ2 f2 hh2 hg2 ho2 fr2 => ?_)
  have hs2 := zq_T_put_2_9 hs1 hh2 hg2 ho2 fr2
  refine q_load (v := (6, 2, 0)) (p2 := 7) rfl rfl rfl rfl ?_
  refine q_const (p2 := 8) rfl rfl ?_
  refine q_putfE (v := (0, 0, 0)) (p2 := 9) rfl hs2.1 (by decide) rfl rfl (fun φ3 f3 hh3 hg3 ho3 fr3 => ?_)
  have hs3 := zq_T_put_2_11 hs2 hh3 hg3 ho3 fr3
  refine q_load (v := (0, 3, 0)) (p2 := 10) rfl rfl rfl rfl ?_
  refine q_load (v := (6, 1, 0)) (p2 := 11) rfl rfl rfl rfl ?_
  have hm4 := (zq_tp_at hB ((fr3 1 (by decide)).trans ((fr2 1 (by decide)).trans (fr1 1 (by decide)))))
  refine q_alen (p2 := 12) rfl hm4 rfl (by omega) rfl ?_
  refine q_min_b (p2 := 13) rfl rfl (by omega) (by omega) rfl ?_
  refine q_store (loc2 := [(6, 2, 0), (6, 1, 0), (0, 3, 0), (0, 3, 0), (11, 0, 0), (11, 0, 0), (11, 0, 0), (11, 0, 0)]) (p2 := 14) rfl rfl rfl rfl rfl ?_
  refine q_const (p2 := 15) rfl rfl ?_
  refine q_store (loc2 := [(6, 2, 0), (6, 1, 0), (0, 3, 0), (0, 3, 0), (0, 0, 0), (11, 0, 0), (11, 0, 0), (11, 0, 0)]) (p2 := 16) rfl rfl rfl rfl rfl ?_
  refine q_const (p2 := 17) rfl rfl ?_
  refine q_store (loc2 := [(6, 2, 0), (6, 1, 0), (0, 3, 0), (0, 3, 0), (0, 0, 0), (0, 1, 0), (11, 0, 0), (11, 0, 0)]) (p2 := 18) rfl rfl rfl rfl rfl ?_
  refine q_const (p2 := 19) rfl rfl ?_
  refine q_store (loc2 := [(6, 2, 0), (6, 1, 0), (0, 3, 0), (0, 3, 0), (0, 0, 0), (0, 1, 0), (0, 0, 0), (11, 0, 0)]) (p2 := 20) rfl rfl rfl rfl rfl ?_
  refine q_load (v := (0, 0, 0)) (p2 := 21) rfl rfl rfl rfl ?_
  refine q_load (v := (0, 3, 0)) (p2 := 22) rfl rfl rfl rfl ?_
  refine q_icmp_s (p2 := 23) rfl (by decide) (by omega) (by omega) rfl (fun hb => absurd hb (show ¬ (¬ (0 < 3)) by omega)) (fun _ => ?_)
  refine q_load (v := (0, 0, 0)) (p2 := 24) rfl rfl rfl rfl ?_
  refine q_load (v := (0, 3, 0)) (p2 := 25) rfl rfl rfl rfl ?_
  refine q_icmp_s (p2 := 26) rfl (by decide) (by omega) (by omega) rfl (fun hb => absurd hb (show ¬ (¬ (0 < 3)) by omega)) (fun _ => ?_)
  refine q_load (v := (0, 1, 0)) (p2 := 27) rfl rfl rfl rfl ?_
  refine q_if0_s (p2 := 28) rfl (by decide) (by omega) rfl (fun hb => absurd hb (show ¬ (1 = 0) by omega)) (fun _ => ?_)
  refine q_load (v := (6, 1, 0)) (p2 := 29) rfl rfl rfl rfl ?_
  refine q_load (v := (0, 0, 0)) (p2 := 30) rfl rfl rfl rfl ?_
  refine q_aldT (tag := 0) (v := 35) (p2 := 31) rfl hm4 (by omega) (by omega) hc0 rfl ?_
  refine q_callr (xs := [(0, 35, 0)]) (p2 := 32) rfl rfl rfl rfl (fun _ _ => rfl) rfl (zc_a_87_35 ) (Nat.le_refl _) (Nat.le_refl _) rfl ?_
  refine q_if0_s (p2 := 33) rfl (by decide) (by omega) rfl (fun _ => ?_) (fun hb => absurd (show 0 = 0 by omega) hb)
  refine q_load (v := (6, 2, 0)) (p2 := 36) rfl rfl rfl rfl ?_
  refine q_load (v := (6, 1, 0)) (p2 := 37) rfl rfl rfl rfl ?_
  refine q_load (v := (0, 3, 0)) (p2 := 38) rfl rfl rfl rfl ?_
  refine q_load (v := (0, 0, 0)) (p2 := 39) rfl rfl rfl rfl ?_
  refine q_callrE (xs := [(0, 0, 0), (0, 3, 0), (6, 1, 0), (6, 2, 0)]) (p2 := 40) rfl rfl rfl rfl (x_rcv_s 2 hs3.1) rfl (zc_sc_35a hs3 hm4 (by omega) hc0 (by omega) hc1 hc2) (Nat.le_refl _) (Nat.le_refl _) rfl (fun φ5 hR5 => ?_)
  obtain ⟨hs5_0, fr5⟩ := hR5
  refine q_store (loc2 := [(6, 2, 0), (6, 1, 0), (0, 3, 0), (0, 3, 0), (0, 0, 0), (0, 1, 0), (0, 0, 0), (0, 1, 0)]) (p2 := 41) rfl rfl rfl rfl rfl ?_
  refine q_load (v := (0, 1, 0)) (p2 := 42) rfl rfl rfl rfl ?_
  refine q_if0_s (p2 := 43) rfl (by decide) (by omega) rfl (fun hb => absurd hb (show ¬ (¬ (0 < 1)) by omega)) (fun _ => ?_)
  refine q_const (p2 := 44) rfl rfl ?_
  refine q_goto rfl ?_
  refine q_store (loc2 := [(6, 2, 0), (6, 1, 0), (0, 3, 0), (0, 3, 0), (0, 0, 0), (0, 1, 0), (0, 0, 0), (0, 1, 0)]) (p2 := 47) rfl rfl rfl rfl rfl ?_
  refine q_load (v := (0, 0, 0)) (p2 := 48) rfl rfl rfl rfl ?_
  refine q_load (v := (0, 1, 0)) (p2 := 49) rfl rfl rfl rfl ?_
  refine q_iop (w := 0 + 1) (z := 1) (p2 := 50) rfl (xo_add 0 1) (by decide) rfl ?_
  refine q_store (loc2 := [(6, 2, 0), (6, 1, 0), (0, 3, 0), (0, 3, 0), (0, 1, 0), (0, 1, 0), (0, 0, 0), (0, 1, 0)]) (p2 := 51) rfl rfl rfl rfl rfl ?_
  refine q_iinc (z := 1) (loc2 := [(6, 2, 0), (6, 1, 0), (0, 3, 0), (0, 3, 0), (0, 1, 0), (0, 1, 0), (0, 1, 0), (0, 1, 0)]) (p2 := 52) rfl rfl (by decide) rfl rfl ?_
  refine q_goto rfl ?_
  refine q_load (v := (0, 1, 0)) (p2 := 21) rfl rfl rfl rfl ?_
  refine q_load (v := (0, 3, 0)) (p2 := 22) rfl rfl rfl rfl ?_
  refine q_icmp_s (p2 := 23) rfl (by decide) (by omega) (by omega) rfl (fun hb => absurd hb (show ¬ (¬ (1 < 3)) by omega)) (fun _ => ?_)
  refine q_load (v := (0, 1, 0)) (p2 := 24) rfl rfl rfl rfl ?_
  refine q_load (v := (0, 3, 0)) (p2 := 25) rfl rfl rfl rfl ?_
  refine q_icmp_s (p2 := 26) rfl (by decide) (by omega) (by omega) rfl (fun hb => absurd hb (show ¬ (¬ (1 < 3)) by omega)) (fun _ => ?_)
  refine q_load (v := (0, 1, 0)) (p2 := 27) rfl rfl rfl rfl ?_
  refine q_if0_s (p2 := 28) rfl (by decide) (by omega) rfl (fun hb => absurd hb (show ¬ (1 = 0) by omega)) (fun _ => ?_)
  refine q_load (v := (6, 1, 0)) (p2 := 29) rfl rfl rfl rfl ?_
  refine q_load (v := (0, 1, 0)) (p2 := 30) rfl rfl rfl rfl ?_
  have hm6 := (zq_tp_at hm4 (fr5 1 (by decide) (by decide) (by decide) (by decide)))
  refine q_aldT (tag := 0) (v := d1) (p2 := 31) rfl hm6 (by omega) (by omega) hc1 rfl ?_
  refine q_callr (xs := [(0, d1, 0)]) (p2 := 32) rfl rfl rfl rfl (fun _ _ => rfl) rfl (zc_dg_isBlank (by omega)) (Nat.le_refl _) (Nat.le_refl _) rfl ?_
  refine q_if0_s (p2 := 33) rfl (by decide) (by omega) rfl (fun _ => ?_) (fun hb => absurd (show 0 = 0 by omega) hb)
  refine q_load (v := (6, 2, 0)) (p2 := 36) rfl rfl rfl rfl ?_
  refine q_load (v := (6, 1, 0)) (p2 := 37) rfl rfl rfl rfl ?_
  refine q_load (v := (0, 3, 0)) (p2 := 38) rfl rfl rfl rfl ?_
  refine q_load (v := (0, 1, 0)) (p2 := 39) rfl rfl rfl rfl ?_
  refine q_callrE (xs := [(0, 1, 0), (0, 3, 0), (6, 1, 0), (6, 2, 0)]) (p2 := 40) rfl rfl rfl rfl (x_rcv_s 2 hs5_0.1) rfl (zc_scn_1_43 hs5_0 hm6 hc2 hc1 (by omega) (by omega) (by omega)) (Nat.le_refl _) (Nat.le_refl _) rfl (fun φ7 hR7 => ?_)
  obtain ⟨hs7_0, fr7⟩ := hR7
  refine q_store (loc2 := [(6, 2, 0), (6, 1, 0), (0, 3, 0), (0, 3, 0), (0, 1, 0), (0, 1, 0), (0, 1, 0), (0, 1, 0)]) (p2 := 41) rfl rfl rfl rfl rfl ?_
  refine q_load (v := (0, 1, 0)) (p2 := 42) rfl rfl rfl rfl ?_
  refine q_if0_s (p2 := 43) rfl (by decide) (by omega) rfl (fun hb => absurd hb (show ¬ (¬ (0 < 1)) by omega)) (fun _ => ?_)
  refine q_const (p2 := 44) rfl rfl ?_
  refine q_goto rfl ?_
  refine q_store (loc2 := [(6, 2, 0), (6, 1, 0), (0, 3, 0), (0, 3, 0), (0, 1, 0), (0, 1, 0), (0, 1, 0), (0, 1, 0)]) (p2 := 47) rfl rfl rfl rfl rfl ?_
  refine q_load (v := (0, 1, 0)) (p2 := 48) rfl rfl rfl rfl ?_
  refine q_load (v := (0, 1, 0)) (p2 := 49) rfl rfl rfl rfl ?_
  refine q_iop (w := 1 + 1) (z := 2) (p2 := 50) rfl (xo_add 1 1) (by decide) rfl ?_
  refine q_store (loc2 := [(6, 2, 0), (6, 1, 0), (0, 3, 0), (0, 3, 0), (0, 2, 0), (0, 1, 0), (0, 1, 0), (0, 1, 0)]) (p2 := 51) rfl rfl rfl rfl rfl ?_
  refine q_iinc (z := 2) (loc2 := [(6, 2, 0), (6, 1, 0), (0, 3, 0), (0, 3, 0), (0, 2, 0), (0, 1, 0), (0, 2, 0), (0, 1, 0)]) (p2 := 52) rfl rfl (by decide) rfl rfl ?_
  refine q_goto rfl ?_
  refine q_load (v := (0, 2, 0)) (p2 := 21) rfl rfl rfl rfl ?_
  refine q_load (v := (0, 3, 0)) (p2 := 22) rfl rfl rfl rfl ?_
  refine q_icmp_s (p2 := 23) rfl (by decide) (by omega) (by omega) rfl (fun hb => absurd hb (show ¬ (¬ (2 < 3)) by omega)) (fun _ => ?_)
  refine q_load (v := (0, 2, 0)) (p2 := 24) rfl rfl rfl rfl ?_
  refine q_load (v := (0, 3, 0)) (p2 := 25) rfl rfl rfl rfl ?_
  refine q_icmp_s (p2 := 26) rfl (by decide) (by omega) (by omega) rfl (fun hb => absurd hb (show ¬ (¬ (2 < 3)) by omega)) (fun _ => ?_)
  refine q_load (v := (0, 1, 0)) (p2 := 27) rfl rfl rfl rfl ?_
  refine q_if0_s (p2 := 28) rfl (by decide) (by omega) rfl (fun hb => absurd hb (show ¬ (1 = 0) by omega)) (fun _ => ?_)
  refine q_load (v := (6, 1, 0)) (p2 := 29) rfl rfl rfl rfl ?_
  refine q_load (v := (0, 2, 0)) (p2 := 30) rfl rfl rfl rfl ?_
  have hm8 := (zq_tp_at hm6 (fr7 1 (by decide) (by decide) (by decide) (by decide)))
  refine q_aldT (tag := 0) (v := 43) (p2 := 31) rfl hm8 (by omega) (by omega) hc2 rfl ?_
  refine q_callr (xs := [(0, 43, 0)]) (p2 := 32) rfl rfl rfl rfl (fun _ _ => rfl) rfl (zc_a_87_43 ) (Nat.le_refl _) (Nat.le_refl _) rfl ?_
  refine q_if0_s (p2 := 33) rfl (by decide) (by omega) rfl (fun _ => ?_) (fun hb => absurd (show 0 = 0 by omega) hb)
  refine q_load (v := (6, 2, 0)) (p2 := 36) rfl rfl rfl rfl ?_
  refine q_load (v := (6, 1, 0)) (p2 := 37) rfl rfl rfl rfl ?_
  refine q_load (v := (0, 3, 0)) (p2 := 38) rfl rfl rfl rfl ?_
  refine q_load (v := (0, 2, 0)) (p2 := 39) rfl rfl rfl rfl ?_
  refine q_callrE (xs := [(0, 2, 0), (0, 3, 0), (6, 1, 0), (6, 2, 0)]) (p2 := 40) rfl rfl rfl rfl (x_rcv_s 2 hs7_0.1) rfl (zc_sc_43c hs7_0 hm8 (by omega) hc2 (by omega)) (Nat.le_refl _) (Nat.le_refl _) rfl (fun φ9 hR9 => ?_)
  obtain ⟨hs9_0, fr9⟩ := hR9
  refine q_store (loc2 := [(6, 2, 0), (6, 1, 0), (0, 3, 0), (0, 3, 0), (0, 2, 0), (0, 1, 0), (0, 2, 0), (0, 1, 0)]) (p2 := 41) rfl rfl rfl rfl rfl ?_
  refine q_load (v := (0, 1, 0)) (p2 := 42) rfl rfl rfl rfl ?_
  refine q_if0_s (p2 := 43) rfl (by decide) (by omega) rfl (fun hb => absurd hb (show ¬ (¬ (0 < 1)) by omega)) (fun _ => ?_)
  refine q_const (p2 := 44) rfl rfl ?_
  refine q_goto rfl ?_
  refine q_store (loc2 := [(6, 2, 0), (6, 1, 0), (0, 3, 0), (0, 3, 0), (0, 2, 0), (0, 1, 0), (0, 2, 0), (0, 1, 0)]) (p2 := 47) rfl rfl rfl rfl rfl ?_
  refine q_load (v := (0, 2, 0)) (p2 := 48) rfl rfl rfl rfl ?_
  refine q_load (v := (0, 1, 0)) (p2 := 49) rfl rfl rfl rfl ?_
  refine q_iop (w := 2 + 1) (z := 3) (p2 := 50) rfl (xo_add 2 1) (by decide) rfl ?_
  refine q_store (loc2 := [(6, 2, 0), (6, 1, 0), (0, 3, 0), (0, 3, 0), (0, 3, 0), (0, 1, 0), (0, 2, 0), (0, 1, 0)]) (p2 := 51) rfl rfl rfl rfl rfl ?_
  refine q_iinc (z := 3) (loc2 := [(6, 2, 0), (6, 1, 0), (0, 3, 0), (0, 3, 0), (0, 3, 0), (0, 1, 0), (0, 3, 0), (0, 1, 0)]) (p2 := 52) rfl rfl (by decide) rfl rfl ?_
  refine q_goto rfl ?_
  refine q_load (v := (0, 3, 0)) (p2 := 21) rfl rfl rfl rfl ?_
  refine q_load (v := (0, 3, 0)) (p2 := 22) rfl rfl rfl rfl ?_
  refine q_icmp_s (p2 := 23) rfl (by decide) (by omega) (by omega) rfl (fun _ => ?_) (fun hb => absurd (show ¬ (3 < 3) by omega) hb)
  refine q_load (v := (6, 2, 0)) (p2 := 54) rfl rfl rfl rfl ?_
  refine q_load (v := (0, 1, 0)) (p2 := 55) rfl rfl rfl rfl ?_
  refine q_if0_s (p2 := 56) rfl (by decide) (by omega) rfl (fun hb => absurd hb (show ¬ (1 = 0) by omega)) (fun _ => ?_)
  refine q_const (p2 := 57) rfl rfl ?_
  refine q_goto rfl ?_
  refine q_load (v := (0, 3, 0)) (p2 := 60) rfl rfl rfl rfl ?_
  refine q_const (p2 := 61) rfl rfl ?_
  refine q_callvE (xs := [(2, 0, 0), (0, 3, 0), (0, 0, 0), (6, 2, 0)]) (p2 := 62) rfl rfl rfl rfl (x_rcv_s 2 hs9_0.1) rfl (zc_t_add hs9_0 (by omega)) (Nat.le_refl _) (Nat.le_refl _) rfl (fun φ10 hR10 => ?_)
  obtain ⟨hs10_0, fr10⟩ := hR10
  refine q_load (v := (6, 2, 0)) (p2 := 63) rfl rfl rfl rfl ?_
  refine q_callvE (xs := [(6, 2, 0)]) (p2 := 64) rfl rfl rfl rfl (x_rcv_s 2 hs10_0.1) rfl (zc_t_rewind hs10_0 (by omega) ((x_s_ne (by decide)).trans ((x_s_ne (by decide)).trans ((x_s_ne (by decide)).trans (x_s_eq)))) ((x_s_ne (by decide)).trans ((x_s_ne (by decide)).trans ((x_s_ne (by decide)).trans (x_s_eq)))) ((x_s_ne (by decide)).trans ((x_s_ne (by decide)).trans ((x_s_ne (by decide)).trans (x_s_eq))))) (Nat.le_refl _) (Nat.le_refl _) rfl (fun φ11 hR11 => ?_)
  obtain ⟨hs11_0, fr11⟩ := hR11
  exact q_ret rfl (⟨rfl, rfl, rfl, hs11_0, fun j hj0 hj1 hj2 hj3 => ((fr11 j (by omega)).trans ((fr10 j (by omega) (by omega) (by omega) (by omega)).trans ((fr9 j (by omega) (by omega) (by omega) (by omega)).trans ((fr7 j (by omega) (by omega) (by omega) (by omega)).trans ((fr5 j (by omega) (by omega) (by omega) (by omega)).trans ((fr3 j (by omega)).trans ((fr2 j (by omega)).trans (fr1 j (by omega)))))))))⟩)
end FPOP43
