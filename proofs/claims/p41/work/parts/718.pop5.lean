section FPOP5
theorem e_copyOf {d n sl : Nat} {φ : FH} {c len m : Nat} {g : Nat → XV} (hc : φ c = some (6, 0, len, g)) (hm : m ≤ len) (hl : len ≤ 67108864) (hcn : c < n) : x_f x_P (d + 1) 115 [(6, c, 0), (0, m, 0), (11, 0, 0)] φ n sl (x_rR (6, n, 0) (n + 1) (sl + m) (fun φ2 => ∃ g2, φ2 n = some (6, 0, m, g2) ∧ (∀ i, i < m → g2 i = g i) ∧ ∀ j, j < n → φ2 j = φ j)) := by
  refine x_f_of rfl ?_
  refine q_load (p2 := 1) rfl rfl rfl rfl ?_
  refine q_load (p2 := 2) rfl rfl rfl rfl ?_
  refine q_alen (p2 := 3) rfl hc rfl (by omega) rfl ?_
  refine q_icmp_s (p2 := 4) rfl (by decide) (by omega) (by omega) rfl (fun hb1 => ?_) (fun hb1 => ?_)
  · have hb1 : ¬ (m = len) := hb1
    refine q_load (p2 := 9) rfl rfl rfl rfl ?_
    refine q_newaE (p2 := 10) rfl (by omega) rfl (fun φ2 hh2 fr2 => ?_)
    refine q_store (p2 := 11) rfl rfl rfl rfl rfl ?_
    refine q_load (p2 := 12) rfl rfl rfl rfl ?_
    refine q_const (p2 := 13) rfl rfl ?_
    refine q_load (p2 := 14) rfl rfl rfl rfl ?_
    refine q_const (p2 := 15) rfl rfl ?_
    refine q_load (p2 := 16) rfl rfl rfl rfl ?_
    refine q_alen (p2 := 17) rfl ((fr2 c (by omega)).trans hc) rfl (by omega) rfl ?_
    refine q_load (p2 := 18) rfl rfl rfl rfl ?_
    refine q_min_t (p2 := 19) rfl rfl (by omega) (by omega) rfl ?_
    refine q_copy0E (p2 := 20) rfl rfl ((fr2 c (by omega)).trans hc) hh2 (by decide) (by omega) (by omega) (by omega) (by omega) rfl (fun φ3 f3 hh3 hg3 ho3 fr3 => ?_)
    refine q_load (p2 := 21) rfl rfl rfl rfl ?_
    exact q_retv rfl rfl (⟨rfl, rfl, rfl, rfl, _, hh3, hg3, fun j hj => ((fr3 j (by omega)).trans ((fr2 j (by omega)).trans rfl))⟩)
  · have hb1 : ¬ (¬ (m = len)) := hb1
    refine q_load (p2 := 5) rfl rfl rfl rfl ?_
    refine q_cloneE (p2 := 6) rfl rfl hc rfl (fun φ4 hh4 fr4 => ?_)
    refine q_castv (p2 := 7) rfl hh4 rfl ?_
    exact q_retv rfl rfl (⟨rfl, rfl, rfl, by rw [show m = len by omega], _, by rw [show m = len by omega]; exact hh4, (fun i _ => rfl), fun j hj => ((fr4 j (by omega)).trans rfl)⟩)
end FPOP5
