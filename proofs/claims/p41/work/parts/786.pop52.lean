section FPOP52
set_option maxHeartbeats 1000000 in
theorem zc_kop18_55 {d n sl : Nat} {φ : FH} {A : Nat} {B : Nat} {made : Nat} {sv : Nat} {svm : Nat} {s9 : Nat} {comb : Nat → Nat} {hm : Nat → MV} {fr : Nat} {pc_ : Nat} {mm : Nat} {mi : Nat} {st : Nat → Nat} {lo : Nat → Nat} {re : Nat → Nat} {rs : Nat → Nat} {fl : Nat → Nat} {se : Nat → Nat} {co : Nat → Nat} {vA vB vC vD a b : Nat} (hPS : x_PS φ A B made sv svm s9 comb hm) (hKS : x_KS φ 4 fr pc_ mm mi st lo re rs fl se co) (hc0 : co pc_ = 2) (hpc : pc_ < 1000) (hsA : st 0 = vA) (hsB : st 1 = vB) (hsC : st 2 = vC) (hsD : st 3 = vD) (hvA : x_mv φ vA (5, a, 0, 0, [])) (hvB : x_mv φ vB (1, 1, 0, 0, [])) (hvC : x_mv φ vC (5, b, 0, 0, [])) (hvD : x_mv φ vD (1, 1, 0, 0, [])) (ha : a < 2147483648) (hb : b < 2147483648) (hn0 : 486 ≤ n) : x_f x_P (d + 3) 110 [(6, 455, 0), (0, 18, 0), (11, 0, 0), (11, 0, 0), (11, 0, 0), (11, 0, 0), (11, 0, 0), (11, 0, 0), (11, 0, 0)] φ n sl (x_bV n sl 3 33 (fun φ2 => ∃ v, x_KS φ2 1 fr (pc_ + 1) mm mi (x_s st 0 v) lo re rs fl se co ∧ x_mv φ2 v (6, 0, 1, 5, [a, b]) ∧ ∀ j, j < n → (j < 455 ∨ 466 ≤ j) → φ2 j = φ j)) := by
  refine x_f_of rfl ?_
  refine x_n_lt (fun hlt0 => ?_)
  have hz1 := x_mv_lt hvA hlt0
  have hy1 := hvA.1
  have hz2 := x_mv_lt hvB hlt0
  have hy2 := hvB.1
  have hz3 := x_mv_lt hvC hlt0
  have hy3 := hvC.1
  have hz4 := x_mv_lt hvD hlt0
  have hy4 := hvD.1
  refine q_load (v := (0, 18, 0)) (p2 := 1) rfl rfl rfl rfl ?_
  refine q_switch (tgt := 7) rfl (by decide) rfl ?_
  refine q_load (v := (6, 455, 0)) (p2 := 8) rfl rfl rfl rfl ?_
  refine q_load (v := (6, 455, 0)) (p2 := 9) rfl rfl rfl rfl ?_
  refine q_callrE (xs := [(6, 455, 0)]) (p2 := 10) rfl rfl rfl rfl (x_rcv_s 455 (x_KS_455 hKS)) rfl (k_fetchw hc0 hPS.1.choose_spec hKS (by omega)) (Nat.le_refl _) (Nat.le_refl _) rfl (fun φ5 hR5 => ?_)
  obtain ⟨hK5, frn5⟩ := hR5
  refine x_n_lt (fun hlt7 => ?_)
  have hv6 := x_mv_at hvA (fun j hj hne => by have hj2 := x_some_lt hlt0 hne; exact (frn5 j (by omega)))
  have hv8 := x_mv_at hvB (fun j hj hne => by have hj2 := x_some_lt hlt0 hne; exact (frn5 j (by omega)))
  have hv9 := x_mv_at hvC (fun j hj hne => by have hj2 := x_some_lt hlt0 hne; exact (frn5 j (by omega)))
  have hv10 := x_mv_at hvD (fun j hj hne => by have hj2 := x_some_lt hlt0 hne; exact (frn5 j (by omega)))
  have hm11 := (x_PS_at hPS (fun j hj hne => by have hj2 := x_some_lt hlt0 hne; exact (frn5 j (by omega))))
  refine q_callvB (xs := [(0, 2, 0), (6, 455, 0)]) (p2 := 11) rfl rfl rfl rfl (x_rcv_s 455 (x_KS_455 hK5)) rfl (zc_klist_55 (a := a) (b := b) hK5 (x_PS_N hm11) hsA hsB hsC hsD hv6 hv8 hv9 hv10 (by omega) (by omega) (by omega)) rfl (fun φ12 n12 sl12 hn12 hN12 hs12 hT12 hR12 => ?_)
  obtain ⟨v12, hK12, hV12, frn12⟩ := hR12
  refine x_n_lt (fun hlt13 => ?_)
  have hz14 := x_mv_lt hV12 hlt13
  have hy14 := hV12.1
  refine q_goto rfl ?_
  exact q_ret rfl (⟨rfl, ⟨by omega, by omega⟩, ⟨by omega, by omega⟩, v12, hK12, hV12, fun j hj1 hj2 => ((frn12 j (by omega) (by omega)).trans (frn5 j (by omega)))⟩)
set_option maxHeartbeats 1000000 in
theorem zc_kop18_50 {d n sl : Nat} {φ : FH} {A : Nat} {B : Nat} {made : Nat} {sv : Nat} {svm : Nat} {s9 : Nat} {comb : Nat → Nat} {hm : Nat → MV} {fr : Nat} {pc_ : Nat} {mm : Nat} {mi : Nat} {st : Nat → Nat} {lo : Nat → Nat} {re : Nat → Nat} {rs : Nat → Nat} {fl : Nat → Nat} {se : Nat → Nat} {co : Nat → Nat} {vA vB vC vD a b : Nat} (hPS : x_PS φ A B made sv svm s9 comb hm) (hKS : x_KS φ 4 fr pc_ mm mi st lo re rs fl se co) (hc0 : co pc_ = 2) (hpc : pc_ < 1000) (hsA : st 0 = vA) (hsB : st 1 = vB) (hsC : st 2 = vC) (hsD : st 3 = vD) (hvA : x_mv φ vA (5, a, 0, 0, [])) (hvB : x_mv φ vB (1, 1, 0, 0, [])) (hvC : x_mv φ vC MV0) (hvD : x_mv φ vD (1, 1, 0, 0, [])) (ha : a < 2147483648) (hb : b < 2147483648) (hn0 : 486 ≤ n) : x_f x_P (d + 3) 110 [(6, 455, 0), (0, 18, 0), (11, 0, 0), (11, 0, 0), (11, 0, 0), (11, 0, 0), (11, 0, 0), (11, 0, 0), (11, 0, 0)] φ n sl (x_bV n sl 1 24 (fun φ2 => ∃ v, x_KS φ2 1 fr (pc_ + 1) mm mi (x_s st 0 v) lo re rs fl se co ∧ x_mv φ2 v MV0 ∧ ∀ j, j < n → (j < 455 ∨ 466 ≤ j) → φ2 j = φ j)) := by
  refine x_f_of rfl ?_
  refine x_n_lt (fun hlt0 => ?_)
  have hz1 := x_mv_lt hvA hlt0
  have hy1 := hvA.1
  have hz2 := x_mv_lt hvB hlt0
  have hy2 := hvB.1
  have hz3 := x_mv_lt hvC hlt0
  have hy3 := hvC.1
  have hz4 := x_mv_lt hvD hlt0
  have hy4 := hvD.1
  refine q_load (v := (0, 18, 0)) (p2 := 1) rfl rfl rfl rfl ?_
  refine q_switch (tgt := 7) rfl (by decide) rfl ?_
  refine q_load (v := (6, 455, 0)) (p2 := 8) rfl rfl rfl rfl ?_
  refine q_load (v := (6, 455, 0)) (p2 := 9) rfl rfl rfl rfl ?_
  refine q_callrE (xs := [(6, 455, 0)]) (p2 := 10) rfl rfl rfl rfl (x_rcv_s 455 (x_KS_455 hKS)) rfl (k_fetchw hc0 hPS.1.choose_spec hKS (by omega)) (Nat.le_refl _) (Nat.le_refl _) rfl (fun φ5 hR5 => ?_)
  obtain ⟨hK5, frn5⟩ := hR5
  refine x_n_lt (fun hlt7 => ?_)
  have hv6 := x_mv_at hvA (fun j hj hne => by have hj2 := x_some_lt hlt0 hne; exact (frn5 j (by omega)))
  have hv8 := x_mv_at hvB (fun j hj hne => by have hj2 := x_some_lt hlt0 hne; exact (frn5 j (by omega)))
  have hv9 := x_mv_at hvC (fun j hj hne => by have hj2 := x_some_lt hlt0 hne; exact (frn5 j (by omega)))
  have hv10 := x_mv_at hvD (fun j hj hne => by have hj2 := x_some_lt hlt0 hne; exact (frn5 j (by omega)))
  have hm11 := (x_PS_at hPS (fun j hj hne => by have hj2 := x_some_lt hlt0 hne; exact (frn5 j (by omega))))
  refine q_callvB (xs := [(0, 2, 0), (6, 455, 0)]) (p2 := 11) rfl rfl rfl rfl (x_rcv_s 455 (x_KS_455 hK5)) rfl (zc_klist_50 (a := a) (b := 0) hK5 (x_PS_N hm11) hsA hsB hsC hsD hv6 hv8 hv9 hv10 (by omega) (by omega) (by omega)) rfl (fun φ12 n12 sl12 hn12 hN12 hs12 hT12 hR12 => ?_)
  obtain ⟨v12, hK12, hV12, frn12⟩ := hR12
  refine x_n_lt (fun hlt13 => ?_)
  have hz14 := x_mv_lt hV12 hlt13
  have hy14 := hV12.1
  refine q_goto rfl ?_
  exact q_ret rfl (⟨rfl, ⟨by omega, by omega⟩, ⟨by omega, by omega⟩, v12, hK12, hV12, fun j hj1 hj2 => ((frn12 j (by omega) (by omega)).trans (frn5 j (by omega)))⟩)
set_option maxHeartbeats 1000000 in
theorem zc_kop18_05 {d n sl : Nat} {φ : FH} {A : Nat} {B : Nat} {made : Nat} {sv : Nat} {svm : Nat} {s9 : Nat} {comb : Nat → Nat} {hm : Nat → MV} {fr : Nat} {pc_ : Nat} {mm : Nat} {mi : Nat} {st : Nat → Nat} {lo : Nat → Nat} {re : Nat → Nat} {rs : Nat → Nat} {fl : Nat → Nat} {se : Nat → Nat} {co : Nat → Nat} {vA vB vC vD a b : Nat} (hPS : x_PS φ A B made sv svm s9 comb hm) (hKS : x_KS φ 4 fr pc_ mm mi st lo re rs fl se co) (hc0 : co pc_ = 2) (hpc : pc_ < 1000) (hsA : st 0 = vA) (hsB : st 1 = vB) (hsC : st 2 = vC) (hsD : st 3 = vD) (hvA : x_mv φ vA MV0) (hvB : x_mv φ vB (1, 1, 0, 0, [])) (hvC : x_mv φ vC (5, b, 0, 0, [])) (hvD : x_mv φ vD (1, 1, 0, 0, [])) (ha : a < 2147483648) (hb : b < 2147483648) (hn0 : 486 ≤ n) : x_f x_P (d + 3) 110 [(6, 455, 0), (0, 18, 0), (11, 0, 0), (11, 0, 0), (11, 0, 0), (11, 0, 0), (11, 0, 0), (11, 0, 0), (11, 0, 0)] φ n sl (x_bV n sl 1 24 (fun φ2 => ∃ v, x_KS φ2 1 fr (pc_ + 1) mm mi (x_s st 0 v) lo re rs fl se co ∧ x_mv φ2 v MV0 ∧ ∀ j, j < n → (j < 455 ∨ 466 ≤ j) → φ2 j = φ j)) := by
  refine x_f_of rfl ?_
  refine x_n_lt (fun hlt0 => ?_)
  have hz1 := x_mv_lt hvA hlt0
  have hy1 := hvA.1
  have hz2 := x_mv_lt hvB hlt0
  have hy2 := hvB.1
  have hz3 := x_mv_lt hvC hlt0
  have hy3 := hvC.1
  have hz4 := x_mv_lt hvD hlt0
  have hy4 := hvD.1
  refine q_load (v := (0, 18, 0)) (p2 := 1) rfl rfl rfl rfl ?_
  refine q_switch (tgt := 7) rfl (by decide) rfl ?_
  refine q_load (v := (6, 455, 0)) (p2 := 8) rfl rfl rfl rfl ?_
  refine q_load (v := (6, 455, 0)) (p2 := 9) rfl rfl rfl rfl ?_
  refine q_callrE (xs := [(6, 455, 0)]) (p2 := 10) rfl rfl rfl rfl (x_rcv_s 455 (x_KS_455 hKS)) rfl (k_fetchw hc0 hPS.1.choose_spec hKS (by omega)) (Nat.le_refl _) (Nat.le_refl _) rfl (fun φ5 hR5 => ?_)
  obtain ⟨hK5, frn5⟩ := hR5
  refine x_n_lt (fun hlt7 => ?_)
  have hv6 := x_mv_at hvA (fun j hj hne => by have hj2 := x_some_lt hlt0 hne; exact (frn5 j (by omega)))
  have hv8 := x_mv_at hvB (fun j hj hne => by have hj2 := x_some_lt hlt0 hne; exact (frn5 j (by omega)))
  have hv9 := x_mv_at hvC (fun j hj hne => by have hj2 := x_some_lt hlt0 hne; exact (frn5 j (by omega)))
  have hv10 := x_mv_at hvD (fun j hj hne => by have hj2 := x_some_lt hlt0 hne; exact (frn5 j (by omega)))
  have hm11 := (x_PS_at hPS (fun j hj hne => by have hj2 := x_some_lt hlt0 hne; exact (frn5 j (by omega))))
  refine q_callvB (xs := [(0, 2, 0), (6, 455, 0)]) (p2 := 11) rfl rfl rfl rfl (x_rcv_s 455 (x_KS_455 hK5)) rfl (zc_klist_05 (a := 0) (b := b) hK5 (x_PS_N hm11) hsA hsB hsC hsD hv6 hv8 hv9 hv10 (by omega) (by omega) (by omega)) rfl (fun φ12 n12 sl12 hn12 hN12 hs12 hT12 hR12 => ?_)
  obtain ⟨v12, hK12, hV12, frn12⟩ := hR12
  refine x_n_lt (fun hlt13 => ?_)
  have hz14 := x_mv_lt hV12 hlt13
  have hy14 := hV12.1
  refine q_goto rfl ?_
  exact q_ret rfl (⟨rfl, ⟨by omega, by omega⟩, ⟨by omega, by omega⟩, v12, hK12, hV12, fun j hj1 hj2 => ((frn12 j (by omega) (by omega)).trans (frn5 j (by omega)))⟩)
set_option maxHeartbeats 1000000 in
theorem zc_kop18_00 {d n sl : Nat} {φ : FH} {A : Nat} {B : Nat} {made : Nat} {sv : Nat} {svm : Nat} {s9 : Nat} {comb : Nat → Nat} {hm : Nat → MV} {fr : Nat} {pc_ : Nat} {mm : Nat} {mi : Nat} {st : Nat → Nat} {lo : Nat → Nat} {re : Nat → Nat} {rs : Nat → Nat} {fl : Nat → Nat} {se : Nat → Nat} {co : Nat → Nat} {vA vB vC vD a b : Nat} (hPS : x_PS φ A B made sv svm s9 comb hm) (hKS : x_KS φ 4 fr pc_ mm mi st lo re rs fl se co) (hc0 : co pc_ = 2) (hpc : pc_ < 1000) (hsA : st 0 = vA) (hsB : st 1 = vB) (hsC : st 2 = vC) (hsD : st 3 = vD) (hvA : x_mv φ vA MV0) (hvB : x_mv φ vB (1, 1, 0, 0, [])) (hvC : x_mv φ vC MV0) (hvD : x_mv φ vD (1, 1, 0, 0, [])) (ha : a < 2147483648) (hb : b < 2147483648) (hn0 : 486 ≤ n) : x_f x_P (d + 3) 110 [(6, 455, 0), (0, 18, 0), (11, 0, 0), (11, 0, 0), (11, 0, 0), (11, 0, 0), (11, 0, 0), (11, 0, 0), (11, 0, 0)] φ n sl (x_bV n sl 1 24 (fun φ2 => ∃ v, x_KS φ2 1 fr (pc_ + 1) mm mi (x_s st 0 v) lo re rs fl se co ∧ x_mv φ2 v MV0 ∧ ∀ j, j < n → (j < 455 ∨ 466 ≤ j) → φ2 j = φ j)) := by
  refine x_f_of rfl ?_
  refine x_n_lt (fun hlt0 => ?_)
  have hz1 := x_mv_lt hvA hlt0
  have hy1 := hvA.1
  have hz2 := x_mv_lt hvB hlt0
  have hy2 := hvB.1
  have hz3 := x_mv_lt hvC hlt0
  have hy3 := hvC.1
  have hz4 := x_mv_lt hvD hlt0
  have hy4 := hvD.1
  refine q_load (v := (0, 18, 0)) (p2 := 1) rfl rfl rfl rfl ?_
  refine q_switch (tgt := 7) rfl (by decide) rfl ?_
  refine q_load (v := (6, 455, 0)) (p2 := 8) rfl rfl rfl rfl ?_
  refine q_load (v := (6, 455, 0)) (p2 := 9) rfl rfl rfl rfl ?_
  refine q_callrE (xs := [(6, 455, 0)]) (p2 := 10) rfl rfl rfl rfl (x_rcv_s 455 (x_KS_455 hKS)) rfl (k_fetchw hc0 hPS.1.choose_spec hKS (by omega)) (Nat.le_refl _) (Nat.le_refl _) rfl (fun φ5 hR5 => ?_)
  obtain ⟨hK5, frn5⟩ := hR5
  refine x_n_lt (fun hlt7 => ?_)
  have hv6 := x_mv_at hvA (fun j hj hne => by have hj2 := x_some_lt hlt0 hne; exact (frn5 j (by omega)))
  have hv8 := x_mv_at hvB (fun j hj hne => by have hj2 := x_some_lt hlt0 hne; exact (frn5 j (by omega)))
  have hv9 := x_mv_at hvC (fun j hj hne => by have hj2 := x_some_lt hlt0 hne; exact (frn5 j (by omega)))
  have hv10 := x_mv_at hvD (fun j hj hne => by have hj2 := x_some_lt hlt0 hne; exact (frn5 j (by omega)))
  have hm11 := (x_PS_at hPS (fun j hj hne => by have hj2 := x_some_lt hlt0 hne; exact (frn5 j (by omega))))
  refine q_callvB (xs := [(0, 2, 0), (6, 455, 0)]) (p2 := 11) rfl rfl rfl rfl (x_rcv_s 455 (x_KS_455 hK5)) rfl (zc_klist_00 (a := 0) (b := 0) hK5 (x_PS_N hm11) hsA hsB hsC hsD hv6 hv8 hv9 hv10 (by omega) (by omega) (by omega)) rfl (fun φ12 n12 sl12 hn12 hN12 hs12 hT12 hR12 => ?_)
  obtain ⟨v12, hK12, hV12, frn12⟩ := hR12
  refine x_n_lt (fun hlt13 => ?_)
  have hz14 := x_mv_lt hV12 hlt13
  have hy14 := hV12.1
  refine q_goto rfl ?_
  exact q_ret rfl (⟨rfl, ⟨by omega, by omega⟩, ⟨by omega, by omega⟩, v12, hK12, hV12, fun j hj1 hj2 => ((frn12 j (by omega) (by omega)).trans (frn5 j (by omega)))⟩)
set_option maxHeartbeats 1000000 in
theorem zc_run_whole {d n sl : Nat} {φ : FH} {A : Nat} {B : Nat} {made : Nat} {sv : Nat} {svm : Nat} {s9 : Nat} {comb : Nat → Nat} {hm : Nat → MV} {top : Nat} {fr : Nat} {pc_ : Nat} {mm : Nat} {mi : Nat} {st : Nat → Nat} {lo : Nat → Nat} {re : Nat → Nat} {rs : Nat → Nat} {fl : Nat → Nat} {se : Nat → Nat} {co : Nat → Nat} {w1 : Nat} (hPS : x_PS φ A B made sv svm s9 comb hm) (hKS : x_KS φ top fr pc_ mm mi st lo re rs fl se co) (hn0 : 486 ≤ n) (hmi : mi + 30 ≤ 20000) (hc60 : co 60 = 1) (hc61 : co 61 = 1) (hc62 : co 62 = 3) (hc63 : co 63 = w1) (hc64 : co 64 = 31) (hw1 : w1 < 2147483648) : x_f x_P (d + 6) 56 [(6, 455, 0), (0, 60, 0), (6, 225, 0), (11, 0, 0), (11, 0, 0)] φ n sl (x_bR n sl 1 7 (fun zw φ2 => ∃ v, zw = (6, v, 0) ∧ x_KJ φ2 (mi + 1) co ∧ x_mv φ2 v ((1, w1, 0, 0, [])) ∧ ∀ j, j < n → (j < 455 ∨ 466 ≤ j) → φ2 j = φ j)) := by
  refine x_f_of rfl ?_
  refine x_n_lt (fun hlt0 => ?_)
  refine q_load (v := (6, 455, 0)) (p2 := 1) rfl rfl rfl rfl ?_
  refine q_const (p2 := 2) rfl rfl ?_
  refine q_putfE (v := (0, 0, 0)) (p2 := 3) rfl (x_KS_455 hKS) (by decide) rfl rfl (fun φ1 f1 hh1 hg1 ho1 fr1 => ?_)
  have hs1 := x_KS_put_18 hKS hh1 hg1 ho1 fr1
  refine q_load (v := (6, 455, 0)) (p2 := 4) rfl rfl rfl rfl ?_
  refine q_const (p2 := 5) rfl rfl ?_
  refine q_putfE (v := (0, 0, 0)) (p2 := 6) rfl (x_KS_455 hs1) (by decide) rfl rfl (fun φ2 f2 hh2 hg2 ho2 fr2 => ?_)
  have hs2 := x_KS_put_16 hs1 hh2 hg2 ho2 fr2
  refine q_load (v := (6, 455, 0)) (p2 := 7) rfl rfl rfl rfl ?_
  refine q_const (p2 := 8) rfl rfl ?_
  refine q_putfE (v := (0, 0, 0)) (p2 := 9) rfl (x_KS_455 hs2) (by decide) rfl rfl (fun φ3 f3 hh3 hg3 ho3 fr3 => ?_)
  have hs3 := x_KS_put_4 hs2 hh3 hg3 ho3 fr3
  refine q_load (v := (6, 455, 0)) (p2 := 10) rfl rfl rfl rfl ?_
  refine q_const (p2 := 11) rfl rfl ?_
  refine q_putfE (v := (0, 0, 0)) (p2 := 12) rfl (x_KS_455 hs3) (by decide) rfl rfl (fun φ4 f4 hh4 hg4 ho4 fr4 => ?_)
  have hs4 := x_KS_put_10 hs3 hh4 hg4 ho4 fr4
  refine q_load (v := (6, 455, 0)) (p2 := 13) rfl rfl rfl rfl ?_
  refine q_load (v := (0, 60, 0)) (p2 := 14) rfl rfl rfl rfl ?_
  refine q_const (p2 := 15) rfl rfl ?_
  refine q_load (v := (6, 225, 0)) (p2 := 16) rfl rfl rfl rfl ?_
  refine x_n_lt (fun hlt6 => ?_)
  have hm5 := (x_PS_at hPS (fun j hj hne => by have hj2 := x_some_lt hlt0 hne; exact ((fr4 j (by omega)).trans ((fr3 j (by omega)).trans ((fr2 j (by omega)).trans (fr1 j (by omega)))))))
  have hv7 := x_mv_at (x_PS_N hPS) (fun j hj hne => by have hj2 := x_some_lt hlt0 hne; exact ((fr4 j (by omega)).trans ((fr3 j (by omega)).trans ((fr2 j (by omega)).trans (fr1 j (by omega))))))
  refine q_callvE (xs := [(6, 225, 0), (0, 4294967293, 0), (0, 60, 0), (6, 455, 0)]) (p2 := 17) rfl rfl rfl rfl (x_rcv_s 455 (x_KS_455 hs4)) rfl (k_open hs4 (x_PS_N hm5) hv7 (by omega)) (Nat.le_refl _) (Nat.le_refl _) rfl (fun φ8 hR8 => ?_)
  obtain ⟨hK8, frn8⟩ := hR8
  refine q_const (p2 := 18) rfl rfl ?_
  refine q_store (loc2 := [(6, 455, 0), (0, 60, 0), (6, 225, 0), (0, 0, 0), (11, 0, 0)]) (p2 := 19) rfl rfl rfl rfl rfl ?_
  refine q_load (v := (0, 0, 0)) (p2 := 20) rfl rfl rfl rfl ?_
  refine q_const (p2 := 21) rfl rfl ?_
  refine q_icmp_s (p2 := 22) rfl (by decide) (by omega) (by omega) rfl (fun hb => absurd hb (show ¬ (¬ (0 < 1000000)) by omega)) (fun _ => ?_)
  refine q_load (v := (6, 455, 0)) (p2 := 23) rfl rfl rfl rfl ?_
  refine q_getv (v := (0, 1, 0)) (p2 := 24) rfl (x_KS_455 hK8) (by decide) hK8.1.choose_spec.2.2.2.2.2.2.2.2.2.2.2.1 rfl ?_
  refine q_if0_s (p2 := 25) rfl (by decide) (by omega) rfl (fun hb => absurd hb (show ¬ (¬ (0 < 1)) by omega)) (fun _ => ?_)
  refine q_load (v := (6, 455, 0)) (p2 := 26) rfl rfl rfl rfl ?_
  refine q_getv (v := (0, 0, 0)) (p2 := 27) rfl (x_KS_455 hK8) (by decide) hK8.1.choose_spec.2.2.2.2.2.2.2.2.2.2.2.2.2.2.2.2.2.1 rfl ?_
  refine q_if0_s (p2 := 28) rfl (by decide) (by omega) rfl (fun hb => absurd hb (show ¬ (¬ (0 = 0)) by omega)) (fun _ => ?_)
  refine q_load (v := (6, 455, 0)) (p2 := 29) rfl rfl rfl rfl ?_
  refine x_n_lt (fun hlt10 => ?_)
  have hm9 := (x_PS_at hm5 (fun j hj hne => by have hj2 := x_some_lt hlt6 hne; exact (frn8 j (by omega))))
  refine q_callrE (xs := [(6, 455, 0)]) (p2 := 30) rfl rfl rfl rfl (x_rcv_s 455 (x_KS_455 hK8)) rfl (k_fetchw hc60 hm9.1.choose_spec hK8 (by omega)) (Nat.le_refl _) (Nat.le_refl _) rfl (fun φ11 hR11 => ?_)
  obtain ⟨hK11, frn11⟩ := hR11
  refine q_store (loc2 := [(6, 455, 0), (0, 60, 0), (6, 225, 0), (0, 0, 0), (0, 1, 0)]) (p2 := 31) rfl rfl rfl rfl rfl ?_
  refine q_load (v := (0, 1, 0)) (p2 := 32) rfl rfl rfl rfl ?_
  refine q_const (p2 := 33) rfl rfl ?_
  refine q_icmp_s (p2 := 34) rfl (by decide) (by omega) (by omega) rfl (fun hb => absurd hb (show ¬ (10 < 1) by omega)) (fun _ => ?_)
  refine q_load (v := (6, 455, 0)) (p2 := 35) rfl rfl rfl rfl ?_
  refine q_load (v := (0, 1, 0)) (p2 := 36) rfl rfl rfl rfl ?_
  refine x_n_lt (fun hlt13 => ?_)
  have hm12 := (x_PS_at hm9 (fun j hj hne => by have hj2 := x_some_lt hlt10 hne; exact (frn11 j (by omega))))
  refine q_callvB (xs := [(0, 1, 0), (6, 455, 0)]) (p2 := 37) rfl rfl rfl rfl (x_rcv_s 455 (x_KS_455 hK11)) rfl (k_plain_1w hc61 hm12.1.choose_spec hK11 (by omega) (by omega) (by omega) (by omega)) rfl (fun φ14 n14 sl14 hn14 hN14 hs14 hT14 hR14 => ?_)
  obtain ⟨hK14, frn14⟩ := hR14
  refine q_goto rfl ?_
  refine q_iinc (z := 1) (loc2 := [(6, 455, 0), (0, 60, 0), (6, 225, 0), (0, 1, 0), (0, 1, 0)]) (p2 := 49) rfl rfl (by decide) rfl rfl ?_
  refine q_goto rfl ?_
  refine q_load (v := (0, 1, 0)) (p2 := 20) rfl rfl rfl rfl ?_
  refine q_const (p2 := 21) rfl rfl ?_
  refine q_icmp_s (p2 := 22) rfl (by decide) (by omega) (by omega) rfl (fun hb => absurd hb (show ¬ (¬ (1 < 1000000)) by omega)) (fun _ => ?_)
  refine q_load (v := (6, 455, 0)) (p2 := 23) rfl rfl rfl rfl ?_
  refine q_getv (v := (0, 1, 0)) (p2 := 24) rfl (x_KS_455 hK14) (by decide) hK14.1.choose_spec.2.2.2.2.2.2.2.2.2.2.2.1 rfl ?_
  refine q_if0_s (p2 := 25) rfl (by decide) (by omega) rfl (fun hb => absurd hb (show ¬ (¬ (0 < 1)) by omega)) (fun _ => ?_)
  refine q_load (v := (6, 455, 0)) (p2 := 26) rfl rfl rfl rfl ?_
  refine q_getv (v := (0, 0, 0)) (p2 := 27) rfl (x_KS_455 hK14) (by decide) hK14.1.choose_spec.2.2.2.2.2.2.2.2.2.2.2.2.2.2.2.2.2.1 rfl ?_
  refine q_if0_s (p2 := 28) rfl (by decide) (by omega) rfl (fun hb => absurd hb (show ¬ (¬ (0 = 0)) by omega)) (fun _ => ?_)
  refine q_load (v := (6, 455, 0)) (p2 := 29) rfl rfl rfl rfl ?_
  refine x_n_lt (fun hlt16 => ?_)
  have hm15 := (x_PS_at hm12 (fun j hj hne => by have hj2 := x_some_lt hlt13 hne; exact (frn14 j (by omega))))
  refine q_callrE (xs := [(6, 455, 0)]) (p2 := 30) rfl rfl rfl rfl (x_rcv_s 455 (x_KS_455 hK14)) rfl (k_fetchw hc62 hm15.1.choose_spec hK14 (by omega)) (Nat.le_refl _) (Nat.le_refl _) rfl (fun φ17 hR17 => ?_)
  obtain ⟨hK17, frn17⟩ := hR17
  refine q_store (loc2 := [(6, 455, 0), (0, 60, 0), (6, 225, 0), (0, 1, 0), (0, 3, 0)]) (p2 := 31) rfl rfl rfl rfl rfl ?_
  refine q_load (v := (0, 3, 0)) (p2 := 32) rfl rfl rfl rfl ?_
  refine q_const (p2 := 33) rfl rfl ?_
  refine q_icmp_s (p2 := 34) rfl (by decide) (by omega) (by omega) rfl (fun hb => absurd hb (show ¬ (10 < 3) by omega)) (fun _ => ?_)
  refine q_load (v := (6, 455, 0)) (p2 := 35) rfl rfl rfl rfl ?_
  refine q_load (v := (0, 3, 0)) (p2 := 36) rfl rfl rfl rfl ?_
  refine x_n_lt (fun hlt19 => ?_)
  have hm18 := (x_PS_at hm15 (fun j hj hne => by have hj2 := x_some_lt hlt16 hne; exact (frn17 j (by omega))))
  refine q_callvB (xs := [(0, 3, 0), (6, 455, 0)]) (p2 := 37) rfl rfl rfl rfl (x_rcv_s 455 (x_KS_455 hK17)) rfl (k_plain_3w hc63 hm18.1.choose_spec hK17 (by omega) (by omega) (by omega) (by omega)) rfl (fun φ20 n20 sl20 hn20 hN20 hs20 hT20 hR20 => ?_)
  obtain ⟨v20, hK20, hV20, frn20⟩ := hR20
  refine x_n_lt (fun hlt21 => ?_)
  have hz22 := x_mv_lt hV20 hlt21
  have hy22 := hV20.1
  refine q_goto rfl ?_
  refine q_iinc (z := 2) (loc2 := [(6, 455, 0), (0, 60, 0), (6, 225, 0), (0, 2, 0), (0, 3, 0)]) (p2 := 49) rfl rfl (by decide) rfl rfl ?_
  refine q_goto rfl ?_
  refine q_load (v := (0, 2, 0)) (p2 := 20) rfl rfl rfl rfl ?_
  refine q_const (p2 := 21) rfl rfl ?_
  refine q_icmp_s (p2 := 22) rfl (by decide) (by omega) (by omega) rfl (fun hb => absurd hb (show ¬ (¬ (2 < 1000000)) by omega)) (fun _ => ?_)
  refine q_load (v := (6, 455, 0)) (p2 := 23) rfl rfl rfl rfl ?_
  refine q_getv (v := (0, 1, 0)) (p2 := 24) rfl (x_KS_455 hK20) (by decide) hK20.1.choose_spec.2.2.2.2.2.2.2.2.2.2.2.1 rfl ?_
  refine q_if0_s (p2 := 25) rfl (by decide) (by omega) rfl (fun hb => absurd hb (show ¬ (¬ (0 < 1)) by omega)) (fun _ => ?_)
  refine q_load (v := (6, 455, 0)) (p2 := 26) rfl rfl rfl rfl ?_
  refine q_getv (v := (0, 0, 0)) (p2 := 27) rfl (x_KS_455 hK20) (by decide) hK20.1.choose_spec.2.2.2.2.2.2.2.2.2.2.2.2.2.2.2.2.2.1 rfl ?_
  refine q_if0_s (p2 := 28) rfl (by decide) (by omega) rfl (fun hb => absurd hb (show ¬ (¬ (0 = 0)) by omega)) (fun _ => ?_)
  refine q_load (v := (6, 455, 0)) (p2 := 29) rfl rfl rfl rfl ?_
  have hm23 := (x_PS_at hm18 (fun j hj hne => by have hj2 := x_some_lt hlt19 hne; exact (frn20 j (by omega) (by omega))))
  refine q_callrE (xs := [(6, 455, 0)]) (p2 := 30) rfl rfl rfl rfl (x_rcv_s 455 (x_KS_455 hK20)) rfl (k_fetchw hc64 hm23.1.choose_spec hK20 (by omega)) (Nat.le_refl _) (Nat.le_refl _) rfl (fun φ24 hR24 => ?_)
  obtain ⟨hK24, frn24⟩ := hR24
  refine q_store (loc2 := [(6, 455, 0), (0, 60, 0), (6, 225, 0), (0, 2, 0), (0, 31, 0)]) (p2 := 31) rfl rfl rfl rfl rfl ?_
  refine q_load (v := (0, 31, 0)) (p2 := 32) rfl rfl rfl rfl ?_
  refine q_const (p2 := 33) rfl rfl ?_
  refine q_icmp_s (p2 := 34) rfl (by decide) (by omega) (by omega) rfl (fun _ => ?_) (fun hb => absurd (show 10 < 31 by omega) hb)
  refine q_load (v := (0, 31, 0)) (p2 := 39) rfl rfl rfl rfl ?_
  refine q_const (p2 := 40) rfl rfl ?_
  refine q_icmp_s (p2 := 41) rfl (by decide) (by omega) (by omega) rfl (fun _ => ?_) (fun hb => absurd (show 19 < 31 by omega) hb)
  refine q_load (v := (6, 455, 0)) (p2 := 46) rfl rfl rfl rfl ?_
  refine q_load (v := (0, 31, 0)) (p2 := 47) rfl rfl rfl rfl ?_
  refine x_n_lt (fun hlt26 => ?_)
  have hm25 := (x_PS_at hm23 (fun j hj hne => by have hj2 := x_some_lt hlt21 hne; exact (frn24 j (by omega))))
  have hv27 := x_mv_at hV20 (fun j hj hne => by have hj2 := x_some_lt hlt21 hne; exact (frn24 j (by omega)))
  refine q_callvB (xs := [(0, 31, 0), (6, 455, 0)]) (p2 := 48) rfl rfl rfl rfl (x_rcv_s 455 (x_KS_455 hK24)) rfl (k_lead_31 (top := 0) (fr := 0) hm25.1.choose_spec hK24 (by omega) (by omega) hv27 (Or.inl rfl) (by omega) (by show (0 : Nat) < 4096; decide)) rfl (fun φ28 n28 sl28 hn28 hN28 hs28 hT28 hR28 => ?_)
  obtain ⟨hK28, frn28⟩ := hR28
  refine q_iinc (z := 3) (loc2 := [(6, 455, 0), (0, 60, 0), (6, 225, 0), (0, 3, 0), (0, 31, 0)]) (p2 := 49) rfl rfl (by decide) rfl rfl ?_
  refine q_goto rfl ?_
  refine q_load (v := (0, 3, 0)) (p2 := 20) rfl rfl rfl rfl ?_
  refine q_const (p2 := 21) rfl rfl ?_
  refine q_icmp_s (p2 := 22) rfl (by decide) (by omega) (by omega) rfl (fun hb => absurd hb (show ¬ (¬ (3 < 1000000)) by omega)) (fun _ => ?_)
  refine q_load (v := (6, 455, 0)) (p2 := 23) rfl rfl rfl rfl ?_
  refine q_getv (v := (0, 0, 0)) (p2 := 24) rfl (x_KS_455 hK28) (by decide) hK28.1.choose_spec.2.2.2.2.2.2.2.2.2.2.2.1 rfl ?_
  refine q_if0_s (p2 := 25) rfl (by decide) (by omega) rfl (fun _ => ?_) (fun hb => absurd (show ¬ (0 < 0) by omega) hb)
  refine q_load (v := (6, 455, 0)) (p2 := 51) rfl rfl rfl rfl ?_
  refine q_getv (v := (0, 0, 0)) (p2 := 52) rfl (x_KS_455 hK28) (by decide) hK28.1.choose_spec.2.2.2.2.2.2.2.2.2.2.2.2.2.2.2.2.2.1 rfl ?_
  refine q_if0_s (p2 := 53) rfl (by decide) (by omega) rfl (fun _ => ?_) (fun hb => absurd (show 0 = 0 by omega) hb)
  refine q_load (v := (6, 455, 0)) (p2 := 57) rfl rfl rfl rfl ?_
  refine q_callrE (xs := [(6, 455, 0)]) (p2 := 58) rfl rfl rfl rfl (x_rcv_s 455 (x_KS_455 hK28)) rfl (k_pop (top := 0) hK28 (by omega)) (Nat.le_refl _) (Nat.le_refl _) rfl (fun φ29 hR29 => ?_)
  obtain ⟨hK29, frn29⟩ := hR29
  refine x_n_lt (fun hlt31 => ?_)
  have hv30 := x_mv_at hv27 (fun j hj hne => by have hj2 := x_some_lt hlt26 hne; exact ((frn29 j (by omega)).trans (frn28 j (by omega))))
  exact q_retv (v := (6, v20, 0)) rfl rfl (⟨rfl, ⟨by omega, by omega⟩, ⟨by omega, by omega⟩, v20, rfl, ⟨_, _, _, _, _, _, _, _, _, _, hK29⟩, hv30, fun j hj1 hj2 => ((frn29 j (by omega)).trans ((frn28 j (by omega)).trans ((frn24 j (by omega)).trans ((frn20 j (by omega) (by omega)).trans ((frn17 j (by omega)).trans ((frn14 j (by omega)).trans ((frn11 j (by omega)).trans ((frn8 j (by omega)).trans ((fr4 j (by omega)).trans ((fr3 j (by omega)).trans ((fr2 j (by omega)).trans (fr1 j (by omega)))))))))))))⟩)
set_option maxHeartbeats 1000000 in
theorem zc_run_hash_y {d n sl : Nat} {φ : FH} {A : Nat} {B : Nat} {made : Nat} {sv : Nat} {svm : Nat} {s9 : Nat} {comb : Nat → Nat} {hm : Nat → MV} {top : Nat} {fr : Nat} {pc_ : Nat} {mm : Nat} {mi : Nat} {st : Nat → Nat} {lo : Nat → Nat} {re : Nat → Nat} {rs : Nat → Nat} {fl : Nat → Nat} {se : Nat → Nat} {co : Nat → Nat} {w1 : Nat} (hPS : x_PS φ A B made sv svm s9 comb hm) (hKS : x_KS φ top fr pc_ mm mi st lo re rs fl se co) (hn0 : 486 ≤ n) (hmi : mi + 30 ≤ 20000) (hc60 : co 60 = 1) (hc61 : co 61 = 1) (hc62 : co 62 = 7) (hc63 : co 63 = w1) (hc64 : co 64 = 31) (hw1 : w1 < 512) (h1 : w1 < made ∧ comb w1 ≠ 0) : x_f x_P (d + 6) 56 [(6, 455, 0), (0, 60, 0), (6, 225, 0), (11, 0, 0), (11, 0, 0)] φ n sl (x_bR n sl 1 7 (fun zw φ2 => ∃ v, zw = (6, v, 0) ∧ x_KJ φ2 (mi + 1) co ∧ x_mv φ2 v ((5, w1, 0, 0, [])) ∧ ∀ j, j < n → (j < 455 ∨ 466 ≤ j) → φ2 j = φ j)) := by
  refine x_f_of rfl ?_
  refine x_n_lt (fun hlt0 => ?_)
  refine q_load (v := (6, 455, 0)) (p2 := 1) rfl rfl rfl rfl ?_
  refine q_const (p2 := 2) rfl rfl ?_
  refine q_putfE (v := (0, 0, 0)) (p2 := 3) rfl (x_KS_455 hKS) (by decide) rfl rfl (fun φ1 f1 hh1 hg1 ho1 fr1 => ?_)
  have hs1 := x_KS_put_18 hKS hh1 hg1 ho1 fr1
  refine q_load (v := (6, 455, 0)) (p2 := 4) rfl rfl rfl rfl ?_
  refine q_const (p2 := 5) rfl rfl ?_
  refine q_putfE (v := (0, 0, 0)) (p2 := 6) rfl (x_KS_455 hs1) (by decide) rfl rfl (fun φ2 f2 hh2 hg2 ho2 fr2 => ?_)
  have hs2 := x_KS_put_16 hs1 hh2 hg2 ho2 fr2
  refine q_load (v := (6, 455, 0)) (p2 := 7) rfl rfl rfl rfl ?_
  refine q_const (p2 := 8) rfl rfl ?_
  refine q_putfE (v := (0, 0, 0)) (p2 := 9) rfl (x_KS_455 hs2) (by decide) rfl rfl (fun φ3 f3 hh3 hg3 ho3 fr3 => ?_)
  have hs3 := x_KS_put_4 hs2 hh3 hg3 ho3 fr3
  refine q_load (v := (6, 455, 0)) (p2 := 10) rfl rfl rfl rfl ?_
  refine q_const (p2 := 11) rfl rfl ?_
  refine q_putfE (v := (0, 0, 0)) (p2 := 12) rfl (x_KS_455 hs3) (by decide) rfl rfl (fun φ4 f4 hh4 hg4 ho4 fr4 => ?_)
  have hs4 := x_KS_put_10 hs3 hh4 hg4 ho4 fr4
  refine q_load (v := (6, 455, 0)) (p2 := 13) rfl rfl rfl rfl ?_
  refine q_load (v := (0, 60, 0)) (p2 := 14) rfl rfl rfl rfl ?_
  refine q_const (p2 := 15) rfl rfl ?_
  refine q_load (v := (6, 225, 0)) (p2 := 16) rfl rfl rfl rfl ?_
  refine x_n_lt (fun hlt6 => ?_)
  have hm5 := (x_PS_at hPS (fun j hj hne => by have hj2 := x_some_lt hlt0 hne; exact ((fr4 j (by omega)).trans ((fr3 j (by omega)).trans ((fr2 j (by omega)).trans (fr1 j (by omega)))))))
  have hv7 := x_mv_at (x_PS_N hPS) (fun j hj hne => by have hj2 := x_some_lt hlt0 hne; exact ((fr4 j (by omega)).trans ((fr3 j (by omega)).trans ((fr2 j (by omega)).trans (fr1 j (by omega))))))
  refine q_callvE (xs := [(6, 225, 0), (0, 4294967293, 0), (0, 60, 0), (6, 455, 0)]) (p2 := 17) rfl rfl rfl rfl (x_rcv_s 455 (x_KS_455 hs4)) rfl (k_open hs4 (x_PS_N hm5) hv7 (by omega)) (Nat.le_refl _) (Nat.le_refl _) rfl (fun φ8 hR8 => ?_)
  obtain ⟨hK8, frn8⟩ := hR8
  refine q_const (p2 := 18) rfl rfl ?_
  refine q_store (loc2 := [(6, 455, 0), (0, 60, 0), (6, 225, 0), (0, 0, 0), (11, 0, 0)]) (p2 := 19) rfl rfl rfl rfl rfl ?_
  refine q_load (v := (0, 0, 0)) (p2 := 20) rfl rfl rfl rfl ?_
  refine q_const (p2 := 21) rfl rfl ?_
  refine q_icmp_s (p2 := 22) rfl (by decide) (by omega) (by omega) rfl (fun hb => absurd hb (show ¬ (¬ (0 < 1000000)) by omega)) (fun _ => ?_)
  refine q_load (v := (6, 455, 0)) (p2 := 23) rfl rfl rfl rfl ?_
  refine q_getv (v := (0, 1, 0)) (p2 := 24) rfl (x_KS_455 hK8) (by decide) hK8.1.choose_spec.2.2.2.2.2.2.2.2.2.2.2.1 rfl ?_
  refine q_if0_s (p2 := 25) rfl (by decide) (by omega) rfl (fun hb => absurd hb (show ¬ (¬ (0 < 1)) by omega)) (fun _ => ?_)
  refine q_load (v := (6, 455, 0)) (p2 := 26) rfl rfl rfl rfl ?_
  refine q_getv (v := (0, 0, 0)) (p2 := 27) rfl (x_KS_455 hK8) (by decide) hK8.1.choose_spec.2.2.2.2.2.2.2.2.2.2.2.2.2.2.2.2.2.1 rfl ?_
  refine q_if0_s (p2 := 28) rfl (by decide) (by omega) rfl (fun hb => absurd hb (show ¬ (¬ (0 = 0)) by omega)) (fun _ => ?_)
  refine q_load (v := (6, 455, 0)) (p2 := 29) rfl rfl rfl rfl ?_
  refine x_n_lt (fun hlt10 => ?_)
  have hm9 := (x_PS_at hm5 (fun j hj hne => by have hj2 := x_some_lt hlt6 hne; exact (frn8 j (by omega))))
  refine q_callrE (xs := [(6, 455, 0)]) (p2 := 30) rfl rfl rfl rfl (x_rcv_s 455 (x_KS_455 hK8)) rfl (k_fetchw hc60 hm9.1.choose_spec hK8 (by omega)) (Nat.le_refl _) (Nat.le_refl _) rfl (fun φ11 hR11 => ?_)
  obtain ⟨hK11, frn11⟩ := hR11
  refine q_store (loc2 := [(6, 455, 0), (0, 60, 0), (6, 225, 0), (0, 0, 0), (0, 1, 0)]) (p2 := 31) rfl rfl rfl rfl rfl ?_
  refine q_load (v := (0, 1, 0)) (p2 := 32) rfl rfl rfl rfl ?_
  refine q_const (p2 := 33) rfl rfl ?_
  refine q_icmp_s (p2 := 34) rfl (by decide) (by omega) (by omega) rfl (fun hb => absurd hb (show ¬ (10 < 1) by omega)) (fun _ => ?_)
  refine q_load (v := (6, 455, 0)) (p2 := 35) rfl rfl rfl rfl ?_
  refine q_load (v := (0, 1, 0)) (p2 := 36) rfl rfl rfl rfl ?_
  refine x_n_lt (fun hlt13 => ?_)
  have hm12 := (x_PS_at hm9 (fun j hj hne => by have hj2 := x_some_lt hlt10 hne; exact (frn11 j (by omega))))
  refine q_callvB (xs := [(0, 1, 0), (6, 455, 0)]) (p2 := 37) rfl rfl rfl rfl (x_rcv_s 455 (x_KS_455 hK11)) rfl (k_plain_1w hc61 hm12.1.choose_spec hK11 (by omega) (by omega) (by omega) (by omega)) rfl (fun φ14 n14 sl14 hn14 hN14 hs14 hT14 hR14 => ?_)
  obtain ⟨hK14, frn14⟩ := hR14
  refine q_goto rfl ?_
  refine q_iinc (z := 1) (loc2 := [(6, 455, 0), (0, 60, 0), (6, 225, 0), (0, 1, 0), (0, 1, 0)]) (p2 := 49) rfl rfl (by decide) rfl rfl ?_
  refine q_goto rfl ?_
  refine q_load (v := (0, 1, 0)) (p2 := 20) rfl rfl rfl rfl ?_
  refine q_const (p2 := 21) rfl rfl ?_
  refine q_icmp_s (p2 := 22) rfl (by decide) (by omega) (by omega) rfl (fun hb => absurd hb (show ¬ (¬ (1 < 1000000)) by omega)) (fun _ => ?_)
  refine q_load (v := (6, 455, 0)) (p2 := 23) rfl rfl rfl rfl ?_
  refine q_getv (v := (0, 1, 0)) (p2 := 24) rfl (x_KS_455 hK14) (by decide) hK14.1.choose_spec.2.2.2.2.2.2.2.2.2.2.2.1 rfl ?_
  refine q_if0_s (p2 := 25) rfl (by decide) (by omega) rfl (fun hb => absurd hb (show ¬ (¬ (0 < 1)) by omega)) (fun _ => ?_)
  refine q_load (v := (6, 455, 0)) (p2 := 26) rfl rfl rfl rfl ?_
  refine q_getv (v := (0, 0, 0)) (p2 := 27) rfl (x_KS_455 hK14) (by decide) hK14.1.choose_spec.2.2.2.2.2.2.2.2.2.2.2.2.2.2.2.2.2.1 rfl ?_
  refine q_if0_s (p2 := 28) rfl (by decide) (by omega) rfl (fun hb => absurd hb (show ¬ (¬ (0 = 0)) by omega)) (fun _ => ?_)
  refine q_load (v := (6, 455, 0)) (p2 := 29) rfl rfl rfl rfl ?_
  refine x_n_lt (fun hlt16 => ?_)
  have hm15 := (x_PS_at hm12 (fun j hj hne => by have hj2 := x_some_lt hlt13 hne; exact (frn14 j (by omega))))
  refine q_callrE (xs := [(6, 455, 0)]) (p2 := 30) rfl rfl rfl rfl (x_rcv_s 455 (x_KS_455 hK14)) rfl (k_fetchw hc62 hm15.1.choose_spec hK14 (by omega)) (Nat.le_refl _) (Nat.le_refl _) rfl (fun φ17 hR17 => ?_)
  obtain ⟨hK17, frn17⟩ := hR17
  refine q_store (loc2 := [(6, 455, 0), (0, 60, 0), (6, 225, 0), (0, 1, 0), (0, 7, 0)]) (p2 := 31) rfl rfl rfl rfl rfl ?_
  refine q_load (v := (0, 7, 0)) (p2 := 32) rfl rfl rfl rfl ?_
  refine q_const (p2 := 33) rfl rfl ?_
  refine q_icmp_s (p2 := 34) rfl (by decide) (by omega) (by omega) rfl (fun hb => absurd hb (show ¬ (10 < 7) by omega)) (fun _ => ?_)
  refine q_load (v := (6, 455, 0)) (p2 := 35) rfl rfl rfl rfl ?_
  refine q_load (v := (0, 7, 0)) (p2 := 36) rfl rfl rfl rfl ?_
  refine x_n_lt (fun hlt19 => ?_)
  have hm18 := (x_PS_at hm15 (fun j hj hne => by have hj2 := x_some_lt hlt16 hne; exact (frn17 j (by omega))))
  refine q_callvB (xs := [(0, 7, 0), (6, 455, 0)]) (p2 := 37) rfl rfl rfl rfl (x_rcv_s 455 (x_KS_455 hK17)) rfl (k_plain_7w hc63 hm18.1.choose_spec hK17 (by omega) (by omega) hm18.2.1 (x_PS_N hm18) (by omega) (by omega)) rfl (fun φ20 n20 sl20 hn20 hN20 hs20 hT20 hR20 => ?_)
  obtain ⟨v20, hK20, hV20, frn20⟩ := hR20
  rw [if_pos h1] at hV20
  refine x_n_lt (fun hlt21 => ?_)
  have hz22 := x_mv_lt hV20 hlt21
  have hy22 := hV20.1
  refine q_goto rfl ?_
  refine q_iinc (z := 2) (loc2 := [(6, 455, 0), (0, 60, 0), (6, 225, 0), (0, 2, 0), (0, 7, 0)]) (p2 := 49) rfl rfl (by decide) rfl rfl ?_
  refine q_goto rfl ?_
  refine q_load (v := (0, 2, 0)) (p2 := 20) rfl rfl rfl rfl ?_
  refine q_const (p2 := 21) rfl rfl ?_
  refine q_icmp_s (p2 := 22) rfl (by decide) (by omega) (by omega) rfl (fun hb => absurd hb (show ¬ (¬ (2 < 1000000)) by omega)) (fun _ => ?_)
  refine q_load (v := (6, 455, 0)) (p2 := 23) rfl rfl rfl rfl ?_
  refine q_getv (v := (0, 1, 0)) (p2 := 24) rfl (x_KS_455 hK20) (by decide) hK20.1.choose_spec.2.2.2.2.2.2.2.2.2.2.2.1 rfl ?_
  refine q_if0_s (p2 := 25) rfl (by decide) (by omega) rfl (fun hb => absurd hb (show ¬ (¬ (0 < 1)) by omega)) (fun _ => ?_)
  refine q_load (v := (6, 455, 0)) (p2 := 26) rfl rfl rfl rfl ?_
  refine q_getv (v := (0, 0, 0)) (p2 := 27) rfl (x_KS_455 hK20) (by decide) hK20.1.choose_spec.2.2.2.2.2.2.2.2.2.2.2.2.2.2.2.2.2.1 rfl ?_
  refine q_if0_s (p2 := 28) rfl (by decide) (by omega) rfl (fun hb => absurd hb (show ¬ (¬ (0 = 0)) by omega)) (fun _ => ?_)
  refine q_load (v := (6, 455, 0)) (p2 := 29) rfl rfl rfl rfl ?_
  have hm23 := (x_PS_at hm18 (fun j hj hne => by have hj2 := x_some_lt hlt19 hne; exact (frn20 j (by omega) (by omega))))
  refine q_callrE (xs := [(6, 455, 0)]) (p2 := 30) rfl rfl rfl rfl (x_rcv_s 455 (x_KS_455 hK20)) rfl (k_fetchw hc64 hm23.1.choose_spec hK20 (by omega)) (Nat.le_refl _) (Nat.le_refl _) rfl (fun φ24 hR24 => ?_)
  obtain ⟨hK24, frn24⟩ := hR24
  refine q_store (loc2 := [(6, 455, 0), (0, 60, 0), (6, 225, 0), (0, 2, 0), (0, 31, 0)]) (p2 := 31) rfl rfl rfl rfl rfl ?_
  refine q_load (v := (0, 31, 0)) (p2 := 32) rfl rfl rfl rfl ?_
  refine q_const (p2 := 33) rfl rfl ?_
  refine q_icmp_s (p2 := 34) rfl (by decide) (by omega) (by omega) rfl (fun _ => ?_) (fun hb => absurd (show 10 < 31 by omega) hb)
  refine q_load (v := (0, 31, 0)) (p2 := 39) rfl rfl rfl rfl ?_
  refine q_const (p2 := 40) rfl rfl ?_
  refine q_icmp_s (p2 := 41) rfl (by decide) (by omega) (by omega) rfl (fun _ => ?_) (fun hb => absurd (show 19 < 31 by omega) hb)
  refine q_load (v := (6, 455, 0)) (p2 := 46) rfl rfl rfl rfl ?_
  refine q_load (v := (0, 31, 0)) (p2 := 47) rfl rfl rfl rfl ?_
  refine x_n_lt (fun hlt26 => ?_)
  have hm25 := (x_PS_at hm23 (fun j hj hne => by have hj2 := x_some_lt hlt21 hne; exact (frn24 j (by omega))))
  have hv27 := x_mv_at hV20 (fun j hj hne => by have hj2 := x_some_lt hlt21 hne; exact (frn24 j (by omega)))
  refine q_callvB (xs := [(0, 31, 0), (6, 455, 0)]) (p2 := 48) rfl rfl rfl rfl (x_rcv_s 455 (x_KS_455 hK24)) rfl (k_lead_31 (top := 0) (fr := 0) hm25.1.choose_spec hK24 (by omega) (by omega) hv27 (Or.inl rfl) (by omega) (by show (0 : Nat) < 4096; decide)) rfl (fun φ28 n28 sl28 hn28 hN28 hs28 hT28 hR28 => ?_)
  obtain ⟨hK28, frn28⟩ := hR28
  refine q_iinc (z := 3) (loc2 := [(6, 455, 0), (0, 60, 0), (6, 225, 0), (0, 3, 0), (0, 31, 0)]) (p2 := 49) rfl rfl (by decide) rfl rfl ?_
  refine q_goto rfl ?_
  refine q_load (v := (0, 3, 0)) (p2 := 20) rfl rfl rfl rfl ?_
  refine q_const (p2 := 21) rfl rfl ?_
  refine q_icmp_s (p2 := 22) rfl (by decide) (by omega) (by omega) rfl (fun hb => absurd hb (show ¬ (¬ (3 < 1000000)) by omega)) (fun _ => ?_)
  refine q_load (v := (6, 455, 0)) (p2 := 23) rfl rfl rfl rfl ?_
  refine q_getv (v := (0, 0, 0)) (p2 := 24) rfl (x_KS_455 hK28) (by decide) hK28.1.choose_spec.2.2.2.2.2.2.2.2.2.2.2.1 rfl ?_
  refine q_if0_s (p2 := 25) rfl (by decide) (by omega) rfl (fun _ => ?_) (fun hb => absurd (show ¬ (0 < 0) by omega) hb)
  refine q_load (v := (6, 455, 0)) (p2 := 51) rfl rfl rfl rfl ?_
  refine q_getv (v := (0, 0, 0)) (p2 := 52) rfl (x_KS_455 hK28) (by decide) hK28.1.choose_spec.2.2.2.2.2.2.2.2.2.2.2.2.2.2.2.2.2.1 rfl ?_
  refine q_if0_s (p2 := 53) rfl (by decide) (by omega) rfl (fun _ => ?_) (fun hb => absurd (show 0 = 0 by omega) hb)
  refine q_load (v := (6, 455, 0)) (p2 := 57) rfl rfl rfl rfl ?_
  refine q_callrE (xs := [(6, 455, 0)]) (p2 := 58) rfl rfl rfl rfl (x_rcv_s 455 (x_KS_455 hK28)) rfl (k_pop (top := 0) hK28 (by omega)) (Nat.le_refl _) (Nat.le_refl _) rfl (fun φ29 hR29 => ?_)
  obtain ⟨hK29, frn29⟩ := hR29
  refine x_n_lt (fun hlt31 => ?_)
  have hv30 := x_mv_at hv27 (fun j hj hne => by have hj2 := x_some_lt hlt26 hne; exact ((frn29 j (by omega)).trans (frn28 j (by omega))))
  exact q_retv (v := (6, v20, 0)) rfl rfl (⟨rfl, ⟨by omega, by omega⟩, ⟨by omega, by omega⟩, v20, rfl, ⟨_, _, _, _, _, _, _, _, _, _, hK29⟩, hv30, fun j hj1 hj2 => ((frn29 j (by omega)).trans ((frn28 j (by omega)).trans ((frn24 j (by omega)).trans ((frn20 j (by omega) (by omega)).trans ((frn17 j (by omega)).trans ((frn14 j (by omega)).trans ((frn11 j (by omega)).trans ((frn8 j (by omega)).trans ((fr4 j (by omega)).trans ((fr3 j (by omega)).trans ((fr2 j (by omega)).trans (fr1 j (by omega)))))))))))))⟩)
set_option maxHeartbeats 1000000 in
theorem zc_run_used_y {d n sl : Nat} {φ : FH} {A : Nat} {B : Nat} {made : Nat} {sv : Nat} {svm : Nat} {s9 : Nat} {comb : Nat → Nat} {hm : Nat → MV} {top : Nat} {fr : Nat} {pc_ : Nat} {mm : Nat} {mi : Nat} {st : Nat → Nat} {lo : Nat → Nat} {re : Nat → Nat} {rs : Nat → Nat} {fl : Nat → Nat} {se : Nat → Nat} {co : Nat → Nat} {w1 : Nat} (hPS : x_PS φ A B made sv svm s9 comb hm) (hKS : x_KS φ top fr pc_ mm mi st lo re rs fl se co) (hn0 : 486 ≤ n) (hmi : mi + 30 ≤ 20000) (hc60 : co 60 = 1) (hc61 : co 61 = 1) (hc62 : co 62 = 1) (hc63 : co 63 = 1) (hc64 : co 64 = 7) (hc65 : co 65 = w1) (hc66 : co 66 = 19) (hc67 : co 67 = 9) (hc68 : co 68 = 31) (hw1 : w1 < 512) (h1 : w1 < made ∧ comb w1 ≠ 0) : x_f x_P (d + 6) 56 [(6, 455, 0), (0, 60, 0), (6, 225, 0), (11, 0, 0), (11, 0, 0)] φ n sl (x_bR n sl 4 62 (fun zw φ2 => ∃ v, zw = (6, v, 0) ∧ x_KJ φ2 (mi + 2) co ∧ x_mv φ2 v (if (x_al comb hm w1 (made * 40)).length ≤ 24 then (6, 0, 2, 5, (x_al comb hm w1 (made * 40))) else MV0) ∧ ∀ j, j < n → (j < 455 ∨ 466 ≤ j) → φ2 j = φ j)) := by
  refine x_f_of rfl ?_
  refine x_n_lt (fun hlt0 => ?_)
  refine q_load (v := (6, 455, 0)) (p2 := 1) rfl rfl rfl rfl ?_
  refine q_const (p2 := 2) rfl rfl ?_
  refine q_putfE (v := (0, 0, 0)) (p2 := 3) rfl (x_KS_455 hKS) (by decide) rfl rfl (fun φ1 f1 hh1 hg1 ho1 fr1 => ?_)
  have hs1 := x_KS_put_18 hKS hh1 hg1 ho1 fr1
  refine q_load (v := (6, 455, 0)) (p2 := 4) rfl rfl rfl rfl ?_
  refine q_const (p2 := 5) rfl rfl ?_
  refine q_putfE (v := (0, 0, 0)) (p2 := 6) rfl (x_KS_455 hs1) (by decide) rfl rfl (fun φ2 f2 hh2 hg2 ho2 fr2 => ?_)
  have hs2 := x_KS_put_16 hs1 hh2 hg2 ho2 fr2
  refine q_load (v := (6, 455, 0)) (p2 := 7) rfl rfl rfl rfl ?_
  refine q_const (p2 := 8) rfl rfl ?_
  refine q_putfE (v := (0, 0, 0)) (p2 := 9) rfl (x_KS_455 hs2) (by decide) rfl rfl (fun φ3 f3 hh3 hg3 ho3 fr3 => ?_)
  have hs3 := x_KS_put_4 hs2 hh3 hg3 ho3 fr3
  refine q_load (v := (6, 455, 0)) (p2 := 10) rfl rfl rfl rfl ?_
  refine q_const (p2 := 11) rfl rfl ?_
  refine q_putfE (v := (0, 0, 0)) (p2 := 12) rfl (x_KS_455 hs3) (by decide) rfl rfl (fun φ4 f4 hh4 hg4 ho4 fr4 => ?_)
  have hs4 := x_KS_put_10 hs3 hh4 hg4 ho4 fr4
  refine q_load (v := (6, 455, 0)) (p2 := 13) rfl rfl rfl rfl ?_
  refine q_load (v := (0, 60, 0)) (p2 := 14) rfl rfl rfl rfl ?_
  refine q_const (p2 := 15) rfl rfl ?_
  refine q_load (v := (6, 225, 0)) (p2 := 16) rfl rfl rfl rfl ?_
  refine x_n_lt (fun hlt6 => ?_)
  have hm5 := (x_PS_at hPS (fun j hj hne => by have hj2 := x_some_lt hlt0 hne; exact ((fr4 j (by omega)).trans ((fr3 j (by omega)).trans ((fr2 j (by omega)).trans (fr1 j (by omega)))))))
  have hv7 := x_mv_at (x_PS_N hPS) (fun j hj hne => by have hj2 := x_some_lt hlt0 hne; exact ((fr4 j (by omega)).trans ((fr3 j (by omega)).trans ((fr2 j (by omega)).trans (fr1 j (by omega))))))
  refine q_callvE (xs := [(6, 225, 0), (0, 4294967293, 0), (0, 60, 0), (6, 455, 0)]) (p2 := 17) rfl rfl rfl rfl (x_rcv_s 455 (x_KS_455 hs4)) rfl (k_open hs4 (x_PS_N hm5) hv7 (by omega)) (Nat.le_refl _) (Nat.le_refl _) rfl (fun φ8 hR8 => ?_)
  obtain ⟨hK8, frn8⟩ := hR8
  refine q_const (p2 := 18) rfl rfl ?_
  refine q_store (loc2 := [(6, 455, 0), (0, 60, 0), (6, 225, 0), (0, 0, 0), (11, 0, 0)]) (p2 := 19) rfl rfl rfl rfl rfl ?_
  refine q_load (v := (0, 0, 0)) (p2 := 20) rfl rfl rfl rfl ?_
  refine q_const (p2 := 21) rfl rfl ?_
  refine q_icmp_s (p2 := 22) rfl (by decide) (by omega) (by omega) rfl (fun hb => absurd hb (show ¬ (¬ (0 < 1000000)) by omega)) (fun _ => ?_)
  refine q_load (v := (6, 455, 0)) (p2 := 23) rfl rfl rfl rfl ?_
  refine q_getv (v := (0, 1, 0)) (p2 := 24) rfl (x_KS_455 hK8) (by decide) hK8.1.choose_spec.2.2.2.2.2.2.2.2.2.2.2.1 rfl ?_
  refine q_if0_s (p2 := 25) rfl (by decide) (by omega) rfl (fun hb => absurd hb (show ¬ (¬ (0 < 1)) by omega)) (fun _ => ?_)
  refine q_load (v := (6, 455, 0)) (p2 := 26) rfl rfl rfl rfl ?_
  refine q_getv (v := (0, 0, 0)) (p2 := 27) rfl (x_KS_455 hK8) (by decide) hK8.1.choose_spec.2.2.2.2.2.2.2.2.2.2.2.2.2.2.2.2.2.1 rfl ?_
  refine q_if0_s (p2 := 28) rfl (by decide) (by omega) rfl (fun hb => absurd hb (show ¬ (¬ (0 = 0)) by omega)) (fun _ => ?_)
  refine q_load (v := (6, 455, 0)) (p2 := 29) rfl rfl rfl rfl ?_
  refine x_n_lt (fun hlt10 => ?_)
  have hm9 := (x_PS_at hm5 (fun j hj hne => by have hj2 := x_some_lt hlt6 hne; exact (frn8 j (by omega))))
  refine q_callrE (xs := [(6, 455, 0)]) (p2 := 30) rfl rfl rfl rfl (x_rcv_s 455 (x_KS_455 hK8)) rfl (k_fetchw hc60 hm9.1.choose_spec hK8 (by omega)) (Nat.le_refl _) (Nat.le_refl _) rfl (fun φ11 hR11 => ?_)
  obtain ⟨hK11, frn11⟩ := hR11
  refine q_store (loc2 := [(6, 455, 0), (0, 60, 0), (6, 225, 0), (0, 0, 0), (0, 1, 0)]) (p2 := 31) rfl rfl rfl rfl rfl ?_
  refine q_load (v := (0, 1, 0)) (p2 := 32) rfl rfl rfl rfl ?_
  refine q_const (p2 := 33) rfl rfl ?_
  refine q_icmp_s (p2 := 34) rfl (by decide) (by omega) (by omega) rfl (fun hb => absurd hb (show ¬ (10 < 1) by omega)) (fun _ => ?_)
  refine q_load (v := (6, 455, 0)) (p2 := 35) rfl rfl rfl rfl ?_
  refine q_load (v := (0, 1, 0)) (p2 := 36) rfl rfl rfl rfl ?_
  refine x_n_lt (fun hlt13 => ?_)
  have hm12 := (x_PS_at hm9 (fun j hj hne => by have hj2 := x_some_lt hlt10 hne; exact (frn11 j (by omega))))
  refine q_callvB (xs := [(0, 1, 0), (6, 455, 0)]) (p2 := 37) rfl rfl rfl rfl (x_rcv_s 455 (x_KS_455 hK11)) rfl (k_plain_1w hc61 hm12.1.choose_spec hK11 (by omega) (by omega) (by omega) (by omega)) rfl (fun φ14 n14 sl14 hn14 hN14 hs14 hT14 hR14 => ?_)
  obtain ⟨hK14, frn14⟩ := hR14
  refine q_goto rfl ?_
  refine q_iinc (z := 1) (loc2 := [(6, 455, 0), (0, 60, 0), (6, 225, 0), (0, 1, 0), (0, 1, 0)]) (p2 := 49) rfl rfl (by decide) rfl rfl ?_
  refine q_goto rfl ?_
  refine q_load (v := (0, 1, 0)) (p2 := 20) rfl rfl rfl rfl ?_
  refine q_const (p2 := 21) rfl rfl ?_
  refine q_icmp_s (p2 := 22) rfl (by decide) (by omega) (by omega) rfl (fun hb => absurd hb (show ¬ (¬ (1 < 1000000)) by omega)) (fun _ => ?_)
  refine q_load (v := (6, 455, 0)) (p2 := 23) rfl rfl rfl rfl ?_
  refine q_getv (v := (0, 1, 0)) (p2 := 24) rfl (x_KS_455 hK14) (by decide) hK14.1.choose_spec.2.2.2.2.2.2.2.2.2.2.2.1 rfl ?_
  refine q_if0_s (p2 := 25) rfl (by decide) (by omega) rfl (fun hb => absurd hb (show ¬ (¬ (0 < 1)) by omega)) (fun _ => ?_)
  refine q_load (v := (6, 455, 0)) (p2 := 26) rfl rfl rfl rfl ?_
  refine q_getv (v := (0, 0, 0)) (p2 := 27) rfl (x_KS_455 hK14) (by decide) hK14.1.choose_spec.2.2.2.2.2.2.2.2.2.2.2.2.2.2.2.2.2.1 rfl ?_
  refine q_if0_s (p2 := 28) rfl (by decide) (by omega) rfl (fun hb => absurd hb (show ¬ (¬ (0 = 0)) by omega)) (fun _ => ?_)
  refine q_load (v := (6, 455, 0)) (p2 := 29) rfl rfl rfl rfl ?_
  refine x_n_lt (fun hlt16 => ?_)
  have hm15 := (x_PS_at hm12 (fun j hj hne => by have hj2 := x_some_lt hlt13 hne; exact (frn14 j (by omega))))
  refine q_callrE (xs := [(6, 455, 0)]) (p2 := 30) rfl rfl rfl rfl (x_rcv_s 455 (x_KS_455 hK14)) rfl (k_fetchw hc62 hm15.1.choose_spec hK14 (by omega)) (Nat.le_refl _) (Nat.le_refl _) rfl (fun φ17 hR17 => ?_)
  obtain ⟨hK17, frn17⟩ := hR17
  refine q_store (loc2 := [(6, 455, 0), (0, 60, 0), (6, 225, 0), (0, 1, 0), (0, 1, 0)]) (p2 := 31) rfl rfl rfl rfl rfl ?_
  refine q_load (v := (0, 1, 0)) (p2 := 32) rfl rfl rfl rfl ?_
  refine q_const (p2 := 33) rfl rfl ?_
  refine q_icmp_s (p2 := 34) rfl (by decide) (by omega) (by omega) rfl (fun hb => absurd hb (show ¬ (10 < 1) by omega)) (fun _ => ?_)
  refine q_load (v := (6, 455, 0)) (p2 := 35) rfl rfl rfl rfl ?_
  refine q_load (v := (0, 1, 0)) (p2 := 36) rfl rfl rfl rfl ?_
  refine x_n_lt (fun hlt19 => ?_)
  have hm18 := (x_PS_at hm15 (fun j hj hne => by have hj2 := x_some_lt hlt16 hne; exact (frn17 j (by omega))))
  refine q_callvB (xs := [(0, 1, 0), (6, 455, 0)]) (p2 := 37) rfl rfl rfl rfl (x_rcv_s 455 (x_KS_455 hK17)) rfl (k_plain_1w hc63 hm18.1.choose_spec hK17 (by omega) (by omega) (by omega) (by omega)) rfl (fun φ20 n20 sl20 hn20 hN20 hs20 hT20 hR20 => ?_)
  obtain ⟨hK20, frn20⟩ := hR20
  refine q_goto rfl ?_
  refine q_iinc (z := 2) (loc2 := [(6, 455, 0), (0, 60, 0), (6, 225, 0), (0, 2, 0), (0, 1, 0)]) (p2 := 49) rfl rfl (by decide) rfl rfl ?_
  refine q_goto rfl ?_
  refine q_load (v := (0, 2, 0)) (p2 := 20) rfl rfl rfl rfl ?_
  refine q_const (p2 := 21) rfl rfl ?_
  refine q_icmp_s (p2 := 22) rfl (by decide) (by omega) (by omega) rfl (fun hb => absurd hb (show ¬ (¬ (2 < 1000000)) by omega)) (fun _ => ?_)
  refine q_load (v := (6, 455, 0)) (p2 := 23) rfl rfl rfl rfl ?_
  refine q_getv (v := (0, 1, 0)) (p2 := 24) rfl (x_KS_455 hK20) (by decide) hK20.1.choose_spec.2.2.2.2.2.2.2.2.2.2.2.1 rfl ?_
  refine q_if0_s (p2 := 25) rfl (by decide) (by omega) rfl (fun hb => absurd hb (show ¬ (¬ (0 < 1)) by omega)) (fun _ => ?_)
  refine q_load (v := (6, 455, 0)) (p2 := 26) rfl rfl rfl rfl ?_
  refine q_getv (v := (0, 0, 0)) (p2 := 27) rfl (x_KS_455 hK20) (by decide) hK20.1.choose_spec.2.2.2.2.2.2.2.2.2.2.2.2.2.2.2.2.2.1 rfl ?_
  refine q_if0_s (p2 := 28) rfl (by decide) (by omega) rfl (fun hb => absurd hb (show ¬ (¬ (0 = 0)) by omega)) (fun _ => ?_)
  refine q_load (v := (6, 455, 0)) (p2 := 29) rfl rfl rfl rfl ?_
  refine x_n_lt (fun hlt22 => ?_)
  have hm21 := (x_PS_at hm18 (fun j hj hne => by have hj2 := x_some_lt hlt19 hne; exact (frn20 j (by omega))))
  refine q_callrE (xs := [(6, 455, 0)]) (p2 := 30) rfl rfl rfl rfl (x_rcv_s 455 (x_KS_455 hK20)) rfl (k_fetchw hc64 hm21.1.choose_spec hK20 (by omega)) (Nat.le_refl _) (Nat.le_refl _) rfl (fun φ23 hR23 => ?_)
  obtain ⟨hK23, frn23⟩ := hR23
  refine q_store (loc2 := [(6, 455, 0), (0, 60, 0), (6, 225, 0), (0, 2, 0), (0, 7, 0)]) (p2 := 31) rfl rfl rfl rfl rfl ?_
  refine q_load (v := (0, 7, 0)) (p2 := 32) rfl rfl rfl rfl ?_
  refine q_const (p2 := 33) rfl rfl ?_
  refine q_icmp_s (p2 := 34) rfl (by decide) (by omega) (by omega) rfl (fun hb => absurd hb (show ¬ (10 < 7) by omega)) (fun _ => ?_)
  refine q_load (v := (6, 455, 0)) (p2 := 35) rfl rfl rfl rfl ?_
  refine q_load (v := (0, 7, 0)) (p2 := 36) rfl rfl rfl rfl ?_
  refine x_n_lt (fun hlt25 => ?_)
  have hm24 := (x_PS_at hm21 (fun j hj hne => by have hj2 := x_some_lt hlt22 hne; exact (frn23 j (by omega))))
  refine q_callvB (xs := [(0, 7, 0), (6, 455, 0)]) (p2 := 37) rfl rfl rfl rfl (x_rcv_s 455 (x_KS_455 hK23)) rfl (k_plain_7w hc65 hm24.1.choose_spec hK23 (by omega) (by omega) hm24.2.1 (x_PS_N hm24) (by omega) (by omega)) rfl (fun φ26 n26 sl26 hn26 hN26 hs26 hT26 hR26 => ?_)
  obtain ⟨v26, hK26, hV26, frn26⟩ := hR26
  rw [if_pos h1] at hV26
  refine x_n_lt (fun hlt27 => ?_)
  have hz28 := x_mv_lt hV26 hlt27
  have hy28 := hV26.1
  refine q_goto rfl ?_
  refine q_iinc (z := 3) (loc2 := [(6, 455, 0), (0, 60, 0), (6, 225, 0), (0, 3, 0), (0, 7, 0)]) (p2 := 49) rfl rfl (by decide) rfl rfl ?_
  refine q_goto rfl ?_
  refine q_load (v := (0, 3, 0)) (p2 := 20) rfl rfl rfl rfl ?_
  refine q_const (p2 := 21) rfl rfl ?_
  refine q_icmp_s (p2 := 22) rfl (by decide) (by omega) (by omega) rfl (fun hb => absurd hb (show ¬ (¬ (3 < 1000000)) by omega)) (fun _ => ?_)
  refine q_load (v := (6, 455, 0)) (p2 := 23) rfl rfl rfl rfl ?_
  refine q_getv (v := (0, 1, 0)) (p2 := 24) rfl (x_KS_455 hK26) (by decide) hK26.1.choose_spec.2.2.2.2.2.2.2.2.2.2.2.1 rfl ?_
  refine q_if0_s (p2 := 25) rfl (by decide) (by omega) rfl (fun hb => absurd hb (show ¬ (¬ (0 < 1)) by omega)) (fun _ => ?_)
  refine q_load (v := (6, 455, 0)) (p2 := 26) rfl rfl rfl rfl ?_
  refine q_getv (v := (0, 0, 0)) (p2 := 27) rfl (x_KS_455 hK26) (by decide) hK26.1.choose_spec.2.2.2.2.2.2.2.2.2.2.2.2.2.2.2.2.2.1 rfl ?_
  refine q_if0_s (p2 := 28) rfl (by decide) (by omega) rfl (fun hb => absurd hb (show ¬ (¬ (0 = 0)) by omega)) (fun _ => ?_)
  refine q_load (v := (6, 455, 0)) (p2 := 29) rfl rfl rfl rfl ?_
  have hm29 := (x_PS_at hm24 (fun j hj hne => by have hj2 := x_some_lt hlt25 hne; exact (frn26 j (by omega) (by omega))))
  refine q_callrE (xs := [(6, 455, 0)]) (p2 := 30) rfl rfl rfl rfl (x_rcv_s 455 (x_KS_455 hK26)) rfl (k_fetchw hc66 hm29.1.choose_spec hK26 (by omega)) (Nat.le_refl _) (Nat.le_refl _) rfl (fun φ30 hR30 => ?_)
  obtain ⟨hK30, frn30⟩ := hR30
  refine q_store (loc2 := [(6, 455, 0), (0, 60, 0), (6, 225, 0), (0, 3, 0), (0, 19, 0)]) (p2 := 31) rfl rfl rfl rfl rfl ?_
  refine q_load (v := (0, 19, 0)) (p2 := 32) rfl rfl rfl rfl ?_
  refine q_const (p2 := 33) rfl rfl ?_
  refine q_icmp_s (p2 := 34) rfl (by decide) (by omega) (by omega) rfl (fun _ => ?_) (fun hb => absurd (show 10 < 19 by omega) hb)
  refine q_load (v := (0, 19, 0)) (p2 := 39) rfl rfl rfl rfl ?_
  refine q_const (p2 := 40) rfl rfl ?_
  refine q_icmp_s (p2 := 41) rfl (by decide) (by omega) (by omega) rfl (fun hb => absurd hb (show ¬ (19 < 19) by omega)) (fun _ => ?_)
  refine q_load (v := (6, 455, 0)) (p2 := 42) rfl rfl rfl rfl ?_
  refine q_load (v := (0, 19, 0)) (p2 := 43) rfl rfl rfl rfl ?_
  refine x_n_lt (fun hlt32 => ?_)
  have hm31 := (x_PS_at hm29 (fun j hj hne => by have hj2 := x_some_lt hlt27 hne; exact (frn30 j (by omega))))
  have hv33 := x_mv_at hV26 (fun j hj hne => by have hj2 := x_some_lt hlt27 hne; exact (frn30 j (by omega)))
  refine q_callvB (xs := [(0, 19, 0), (6, 455, 0)]) (p2 := 44) rfl rfl rfl rfl (x_rcv_s 455 (x_KS_455 hK30)) rfl (k_op_19_9 hm31.1.choose_spec hK30 (by omega) (by omega) hm31 (x_PS_N hm31) hv33 hc67 (by omega)) rfl (fun φ34 n34 sl34 hn34 hN34 hs34 hT34 hR34 => ?_)
  obtain ⟨v34, hK34, hV34, frn34⟩ := hR34
  rw [if_pos rfl] at hV34
  refine x_n_lt (fun hlt35 => ?_)
  have hz36 := x_mv_lt hV34 hlt35
  have hy36 := hV34.1
  refine q_goto rfl ?_
  refine q_iinc (z := 4) (loc2 := [(6, 455, 0), (0, 60, 0), (6, 225, 0), (0, 4, 0), (0, 19, 0)]) (p2 := 49) rfl rfl (by decide) rfl rfl ?_
  refine q_goto rfl ?_
  refine q_load (v := (0, 4, 0)) (p2 := 20) rfl rfl rfl rfl ?_
  refine q_const (p2 := 21) rfl rfl ?_
  refine q_icmp_s (p2 := 22) rfl (by decide) (by omega) (by omega) rfl (fun hb => absurd hb (show ¬ (¬ (4 < 1000000)) by omega)) (fun _ => ?_)
  refine q_load (v := (6, 455, 0)) (p2 := 23) rfl rfl rfl rfl ?_
  refine q_getv (v := (0, 1, 0)) (p2 := 24) rfl (x_KS_455 hK34) (by decide) hK34.1.choose_spec.2.2.2.2.2.2.2.2.2.2.2.1 rfl ?_
  refine q_if0_s (p2 := 25) rfl (by decide) (by omega) rfl (fun hb => absurd hb (show ¬ (¬ (0 < 1)) by omega)) (fun _ => ?_)
  refine q_load (v := (6, 455, 0)) (p2 := 26) rfl rfl rfl rfl ?_
  refine q_getv (v := (0, 0, 0)) (p2 := 27) rfl (x_KS_455 hK34) (by decide) hK34.1.choose_spec.2.2.2.2.2.2.2.2.2.2.2.2.2.2.2.2.2.1 rfl ?_
  refine q_if0_s (p2 := 28) rfl (by decide) (by omega) rfl (fun hb => absurd hb (show ¬ (¬ (0 = 0)) by omega)) (fun _ => ?_)
  refine q_load (v := (6, 455, 0)) (p2 := 29) rfl rfl rfl rfl ?_
  have hm37 := (x_PS_at hm31 (fun j hj hne => by have hj2 := x_some_lt hlt32 hne; exact (frn34 j (by omega) (by omega))))
  refine q_callrE (xs := [(6, 455, 0)]) (p2 := 30) rfl rfl rfl rfl (x_rcv_s 455 (x_KS_455 hK34)) rfl (k_fetchw hc68 hm37.1.choose_spec hK34 (by omega)) (Nat.le_refl _) (Nat.le_refl _) rfl (fun φ38 hR38 => ?_)
  obtain ⟨hK38, frn38⟩ := hR38
  refine q_store (loc2 := [(6, 455, 0), (0, 60, 0), (6, 225, 0), (0, 4, 0), (0, 31, 0)]) (p2 := 31) rfl rfl rfl rfl rfl ?_
  refine q_load (v := (0, 31, 0)) (p2 := 32) rfl rfl rfl rfl ?_
  refine q_const (p2 := 33) rfl rfl ?_
  refine q_icmp_s (p2 := 34) rfl (by decide) (by omega) (by omega) rfl (fun _ => ?_) (fun hb => absurd (show 10 < 31 by omega) hb)
  refine q_load (v := (0, 31, 0)) (p2 := 39) rfl rfl rfl rfl ?_
  refine q_const (p2 := 40) rfl rfl ?_
  refine q_icmp_s (p2 := 41) rfl (by decide) (by omega) (by omega) rfl (fun _ => ?_) (fun hb => absurd (show 19 < 31 by omega) hb)
  refine q_load (v := (6, 455, 0)) (p2 := 46) rfl rfl rfl rfl ?_
  refine q_load (v := (0, 31, 0)) (p2 := 47) rfl rfl rfl rfl ?_
  refine x_n_lt (fun hlt40 => ?_)
  have hm39 := (x_PS_at hm37 (fun j hj hne => by have hj2 := x_some_lt hlt35 hne; exact (frn38 j (by omega))))
  have hv41 := x_mv_at hV34 (fun j hj hne => by have hj2 := x_some_lt hlt35 hne; exact (frn38 j (by omega)))
  refine q_callvB (xs := [(0, 31, 0), (6, 455, 0)]) (p2 := 48) rfl rfl rfl rfl (x_rcv_s 455 (x_KS_455 hK38)) rfl (k_lead_31 (top := 0) (fr := 0) hm39.1.choose_spec hK38 (by omega) (by omega) hv41 (Or.inl rfl) (by omega) (by show (0 : Nat) < 4096; decide)) rfl (fun φ42 n42 sl42 hn42 hN42 hs42 hT42 hR42 => ?_)
  obtain ⟨hK42, frn42⟩ := hR42
  refine q_iinc (z := 5) (loc2 := [(6, 455, 0), (0, 60, 0), (6, 225, 0), (0, 5, 0), (0, 31, 0)]) (p2 := 49) rfl rfl (by decide) rfl rfl ?_
  refine q_goto rfl ?_
  refine q_load (v := (0, 5, 0)) (p2 := 20) rfl rfl rfl rfl ?_
  refine q_const (p2 := 21) rfl rfl ?_
  refine q_icmp_s (p2 := 22) rfl (by decide) (by omega) (by omega) rfl (fun hb => absurd hb (show ¬ (¬ (5 < 1000000)) by omega)) (fun _ => ?_)
  refine q_load (v := (6, 455, 0)) (p2 := 23) rfl rfl rfl rfl ?_
  refine q_getv (v := (0, 0, 0)) (p2 := 24) rfl (x_KS_455 hK42) (by decide) hK42.1.choose_spec.2.2.2.2.2.2.2.2.2.2.2.1 rfl ?_
  refine q_if0_s (p2 := 25) rfl (by decide) (by omega) rfl (fun _ => ?_) (fun hb => absurd (show ¬ (0 < 0) by omega) hb)
  refine q_load (v := (6, 455, 0)) (p2 := 51) rfl rfl rfl rfl ?_
  refine q_getv (v := (0, 0, 0)) (p2 := 52) rfl (x_KS_455 hK42) (by decide) hK42.1.choose_spec.2.2.2.2.2.2.2.2.2.2.2.2.2.2.2.2.2.1 rfl ?_
  refine q_if0_s (p2 := 53) rfl (by decide) (by omega) rfl (fun _ => ?_) (fun hb => absurd (show 0 = 0 by omega) hb)
  refine q_load (v := (6, 455, 0)) (p2 := 57) rfl rfl rfl rfl ?_
  refine q_callrE (xs := [(6, 455, 0)]) (p2 := 58) rfl rfl rfl rfl (x_rcv_s 455 (x_KS_455 hK42)) rfl (k_pop (top := 0) hK42 (by omega)) (Nat.le_refl _) (Nat.le_refl _) rfl (fun φ43 hR43 => ?_)
  obtain ⟨hK43, frn43⟩ := hR43
  refine x_n_lt (fun hlt45 => ?_)
  have hv44 := x_mv_at hv41 (fun j hj hne => by have hj2 := x_some_lt hlt40 hne; exact ((frn43 j (by omega)).trans (frn42 j (by omega))))
  exact q_retv (v := (6, v34, 0)) rfl rfl (⟨rfl, ⟨by omega, by omega⟩, ⟨by omega, by omega⟩, v34, rfl, ⟨_, _, _, _, _, _, _, _, _, _, hK43⟩, hv44, fun j hj1 hj2 => ((frn43 j (by omega)).trans ((frn42 j (by omega)).trans ((frn38 j (by omega)).trans ((frn34 j (by omega) (by omega)).trans ((frn30 j (by omega)).trans ((frn26 j (by omega) (by omega)).trans ((frn23 j (by omega)).trans ((frn20 j (by omega)).trans ((frn17 j (by omega)).trans ((frn14 j (by omega)).trans ((frn11 j (by omega)).trans ((frn8 j (by omega)).trans ((fr4 j (by omega)).trans ((fr3 j (by omega)).trans ((fr2 j (by omega)).trans (fr1 j (by omega)))))))))))))))))⟩)
set_option maxHeartbeats 1000000 in
theorem zc_run_list_yy {d n sl : Nat} {φ : FH} {A : Nat} {B : Nat} {made : Nat} {sv : Nat} {svm : Nat} {s9 : Nat} {comb : Nat → Nat} {hm : Nat → MV} {top : Nat} {fr : Nat} {pc_ : Nat} {mm : Nat} {mi : Nat} {st : Nat → Nat} {lo : Nat → Nat} {re : Nat → Nat} {rs : Nat → Nat} {fl : Nat → Nat} {se : Nat → Nat} {co : Nat → Nat} {w1 w2 : Nat} (hPS : x_PS φ A B made sv svm s9 comb hm) (hKS : x_KS φ top fr pc_ mm mi st lo re rs fl se co) (hn0 : 486 ≤ n) (hmi : mi + 30 ≤ 20000) (hc60 : co 60 = 1) (hc61 : co 61 = 1) (hc62 : co 62 = 1) (hc63 : co 63 = 1) (hc64 : co 64 = 7) (hc65 : co 65 = w1) (hc66 : co 66 = 3) (hc67 : co 67 = 1) (hc68 : co 68 = 1) (hc69 : co 69 = 1) (hc70 : co 70 = 7) (hc71 : co 71 = w2) (hc72 : co 72 = 3) (hc73 : co 73 = 1) (hc74 : co 74 = 18) (hc75 : co 75 = 2) (hc76 : co 76 = 31) (hw1 : w1 < 512) (hw2 : w2 < 512) (h1 : w1 < made ∧ comb w1 ≠ 0) (h2 : w2 < made ∧ comb w2 ≠ 0) : x_f x_P (d + 6) 56 [(6, 455, 0), (0, 60, 0), (6, 225, 0), (11, 0, 0), (11, 0, 0)] φ n sl (x_bR n sl 7 61 (fun zw φ2 => ∃ v, zw = (6, v, 0) ∧ x_KJ φ2 (mi + 3) co ∧ x_mv φ2 v ((6, 0, 1, 5, [w1, w2])) ∧ ∀ j, j < n → (j < 455 ∨ 466 ≤ j) → φ2 j = φ j)) := by
  refine x_f_of rfl ?_
  refine x_n_lt (fun hlt0 => ?_)
  refine q_load (v := (6, 455, 0)) (p2 := 1) rfl rfl rfl rfl ?_
  refine q_const (p2 := 2) rfl rfl ?_
  refine q_putfE (v := (0, 0, 0)) (p2 := 3) rfl (x_KS_455 hKS) (by decide) rfl rfl (fun φ1 f1 hh1 hg1 ho1 fr1 => ?_)
  have hs1 := x_KS_put_18 hKS hh1 hg1 ho1 fr1
  refine q_load (v := (6, 455, 0)) (p2 := 4) rfl rfl rfl rfl ?_
  refine q_const (p2 := 5) rfl rfl ?_
  refine q_putfE (v := (0, 0, 0)) (p2 := 6) rfl (x_KS_455 hs1) (by decide) rfl rfl (fun φ2 f2 hh2 hg2 ho2 fr2 => ?_)
  have hs2 := x_KS_put_16 hs1 hh2 hg2 ho2 fr2
  refine q_load (v := (6, 455, 0)) (p2 := 7) rfl rfl rfl rfl ?_
  refine q_const (p2 := 8) rfl rfl ?_
  refine q_putfE (v := (0, 0, 0)) (p2 := 9) rfl (x_KS_455 hs2) (by decide) rfl rfl (fun φ3 f3 hh3 hg3 ho3 fr3 => ?_)
  have hs3 := x_KS_put_4 hs2 hh3 hg3 ho3 fr3
  refine q_load (v := (6, 455, 0)) (p2 := 10) rfl rfl rfl rfl ?_
  refine q_const (p2 := 11) rfl rfl ?_
  refine q_putfE (v := (0, 0, 0)) (p2 := 12) rfl (x_KS_455 hs3) (by decide) rfl rfl (fun φ4 f4 hh4 hg4 ho4 fr4 => ?_)
  have hs4 := x_KS_put_10 hs3 hh4 hg4 ho4 fr4
  refine q_load (v := (6, 455, 0)) (p2 := 13) rfl rfl rfl rfl ?_
  refine q_load (v := (0, 60, 0)) (p2 := 14) rfl rfl rfl rfl ?_
  refine q_const (p2 := 15) rfl rfl ?_
  refine q_load (v := (6, 225, 0)) (p2 := 16) rfl rfl rfl rfl ?_
  refine x_n_lt (fun hlt6 => ?_)
  have hm5 := (x_PS_at hPS (fun j hj hne => by have hj2 := x_some_lt hlt0 hne; exact ((fr4 j (by omega)).trans ((fr3 j (by omega)).trans ((fr2 j (by omega)).trans (fr1 j (by omega)))))))
  have hv7 := x_mv_at (x_PS_N hPS) (fun j hj hne => by have hj2 := x_some_lt hlt0 hne; exact ((fr4 j (by omega)).trans ((fr3 j (by omega)).trans ((fr2 j (by omega)).trans (fr1 j (by omega))))))
  refine q_callvE (xs := [(6, 225, 0), (0, 4294967293, 0), (0, 60, 0), (6, 455, 0)]) (p2 := 17) rfl rfl rfl rfl (x_rcv_s 455 (x_KS_455 hs4)) rfl (k_open hs4 (x_PS_N hm5) hv7 (by omega)) (Nat.le_refl _) (Nat.le_refl _) rfl (fun φ8 hR8 => ?_)
  obtain ⟨hK8, frn8⟩ := hR8
  refine q_const (p2 := 18) rfl rfl ?_
  refine q_store (loc2 := [(6, 455, 0), (0, 60, 0), (6, 225, 0), (0, 0, 0), (11, 0, 0)]) (p2 := 19) rfl rfl rfl rfl rfl ?_
  refine q_load (v := (0, 0, 0)) (p2 := 20) rfl rfl rfl rfl ?_
  refine q_const (p2 := 21) rfl rfl ?_
  refine q_icmp_s (p2 := 22) rfl (by decide) (by omega) (by omega) rfl (fun hb => absurd hb (show ¬ (¬ (0 < 1000000)) by omega)) (fun _ => ?_)
  refine q_load (v := (6, 455, 0)) (p2 := 23) rfl rfl rfl rfl ?_
  refine q_getv (v := (0, 1, 0)) (p2 := 24) rfl (x_KS_455 hK8) (by decide) hK8.1.choose_spec.2.2.2.2.2.2.2.2.2.2.2.1 rfl ?_
  refine q_if0_s (p2 := 25) rfl (by decide) (by omega) rfl (fun hb => absurd hb (show ¬ (¬ (0 < 1)) by omega)) (fun _ => ?_)
  refine q_load (v := (6, 455, 0)) (p2 := 26) rfl rfl rfl rfl ?_
  refine q_getv (v := (0, 0, 0)) (p2 := 27) rfl (x_KS_455 hK8) (by decide) hK8.1.choose_spec.2.2.2.2.2.2.2.2.2.2.2.2.2.2.2.2.2.1 rfl ?_
  refine q_if0_s (p2 := 28) rfl (by decide) (by omega) rfl (fun hb => absurd hb (show ¬ (¬ (0 = 0)) by omega)) (fun _ => ?_)
  refine q_load (v := (6, 455, 0)) (p2 := 29) rfl rfl rfl rfl ?_
  refine x_n_lt (fun hlt10 => ?_)
  have hm9 := (x_PS_at hm5 (fun j hj hne => by have hj2 := x_some_lt hlt6 hne; exact (frn8 j (by omega))))
  refine q_callrE (xs := [(6, 455, 0)]) (p2 := 30) rfl rfl rfl rfl (x_rcv_s 455 (x_KS_455 hK8)) rfl (k_fetchw hc60 hm9.1.choose_spec hK8 (by omega)) (Nat.le_refl _) (Nat.le_refl _) rfl (fun φ11 hR11 => ?_)
  obtain ⟨hK11, frn11⟩ := hR11
  refine q_store (loc2 := [(6, 455, 0), (0, 60, 0), (6, 225, 0), (0, 0, 0), (0, 1, 0)]) (p2 := 31) rfl rfl rfl rfl rfl ?_
  refine q_load (v := (0, 1, 0)) (p2 := 32) rfl rfl rfl rfl ?_
  refine q_const (p2 := 33) rfl rfl ?_
  refine q_icmp_s (p2 := 34) rfl (by decide) (by omega) (by omega) rfl (fun hb => absurd hb (show ¬ (10 < 1) by omega)) (fun _ => ?_)
  refine q_load (v := (6, 455, 0)) (p2 := 35) rfl rfl rfl rfl ?_
  refine q_load (v := (0, 1, 0)) (p2 := 36) rfl rfl rfl rfl ?_
  refine x_n_lt (fun hlt13 => ?_)
  have hm12 := (x_PS_at hm9 (fun j hj hne => by have hj2 := x_some_lt hlt10 hne; exact (frn11 j (by omega))))
  refine q_callvB (xs := [(0, 1, 0), (6, 455, 0)]) (p2 := 37) rfl rfl rfl rfl (x_rcv_s 455 (x_KS_455 hK11)) rfl (k_plain_1w hc61 hm12.1.choose_spec hK11 (by omega) (by omega) (by omega) (by omega)) rfl (fun φ14 n14 sl14 hn14 hN14 hs14 hT14 hR14 => ?_)
  obtain ⟨hK14, frn14⟩ := hR14
  refine q_goto rfl ?_
  refine q_iinc (z := 1) (loc2 := [(6, 455, 0), (0, 60, 0), (6, 225, 0), (0, 1, 0), (0, 1, 0)]) (p2 := 49) rfl rfl (by decide) rfl rfl ?_
  refine q_goto rfl ?_
  refine q_load (v := (0, 1, 0)) (p2 := 20) rfl rfl rfl rfl ?_
  refine q_const (p2 := 21) rfl rfl ?_
  refine q_icmp_s (p2 := 22) rfl (by decide) (by omega) (by omega) rfl (fun hb => absurd hb (show ¬ (¬ (1 < 1000000)) by omega)) (fun _ => ?_)
  refine q_load (v := (6, 455, 0)) (p2 := 23) rfl rfl rfl rfl ?_
  refine q_getv (v := (0, 1, 0)) (p2 := 24) rfl (x_KS_455 hK14) (by decide) hK14.1.choose_spec.2.2.2.2.2.2.2.2.2.2.2.1 rfl ?_
  refine q_if0_s (p2 := 25) rfl (by decide) (by omega) rfl (fun hb => absurd hb (show ¬ (¬ (0 < 1)) by omega)) (fun _ => ?_)
  refine q_load (v := (6, 455, 0)) (p2 := 26) rfl rfl rfl rfl ?_
  refine q_getv (v := (0, 0, 0)) (p2 := 27) rfl (x_KS_455 hK14) (by decide) hK14.1.choose_spec.2.2.2.2.2.2.2.2.2.2.2.2.2.2.2.2.2.1 rfl ?_
  refine q_if0_s (p2 := 28) rfl (by decide) (by omega) rfl (fun hb => absurd hb (show ¬ (¬ (0 = 0)) by omega)) (fun _ => ?_)
  refine q_load (v := (6, 455, 0)) (p2 := 29) rfl rfl rfl rfl ?_
  refine x_n_lt (fun hlt16 => ?_)
  have hm15 := (x_PS_at hm12 (fun j hj hne => by have hj2 := x_some_lt hlt13 hne; exact (frn14 j (by omega))))
  refine q_callrE (xs := [(6, 455, 0)]) (p2 := 30) rfl rfl rfl rfl (x_rcv_s 455 (x_KS_455 hK14)) rfl (k_fetchw hc62 hm15.1.choose_spec hK14 (by omega)) (Nat.le_refl _) (Nat.le_refl _) rfl (fun φ17 hR17 => ?_)
  obtain ⟨hK17, frn17⟩ := hR17
  refine q_store (loc2 := [(6, 455, 0), (0, 60, 0), (6, 225, 0), (0, 1, 0), (0, 1, 0)]) (p2 := 31) rfl rfl rfl rfl rfl ?_
  refine q_load (v := (0, 1, 0)) (p2 := 32) rfl rfl rfl rfl ?_
  refine q_const (p2 := 33) rfl rfl ?_
  refine q_icmp_s (p2 := 34) rfl (by decide) (by omega) (by omega) rfl (fun hb => absurd hb (show ¬ (10 < 1) by omega)) (fun _ => ?_)
  refine q_load (v := (6, 455, 0)) (p2 := 35) rfl rfl rfl rfl ?_
  refine q_load (v := (0, 1, 0)) (p2 := 36) rfl rfl rfl rfl ?_
  refine x_n_lt (fun hlt19 => ?_)
  have hm18 := (x_PS_at hm15 (fun j hj hne => by have hj2 := x_some_lt hlt16 hne; exact (frn17 j (by omega))))
  refine q_callvB (xs := [(0, 1, 0), (6, 455, 0)]) (p2 := 37) rfl rfl rfl rfl (x_rcv_s 455 (x_KS_455 hK17)) rfl (k_plain_1w hc63 hm18.1.choose_spec hK17 (by omega) (by omega) (by omega) (by omega)) rfl (fun φ20 n20 sl20 hn20 hN20 hs20 hT20 hR20 => ?_)
  obtain ⟨hK20, frn20⟩ := hR20
  refine q_goto rfl ?_
  refine q_iinc (z := 2) (loc2 := [(6, 455, 0), (0, 60, 0), (6, 225, 0), (0, 2, 0), (0, 1, 0)]) (p2 := 49) rfl rfl (by decide) rfl rfl ?_
  refine q_goto rfl ?_
  refine q_load (v := (0, 2, 0)) (p2 := 20) rfl rfl rfl rfl ?_
  refine q_const (p2 := 21) rfl rfl ?_
  refine q_icmp_s (p2 := 22) rfl (by decide) (by omega) (by omega) rfl (fun hb => absurd hb (show ¬ (¬ (2 < 1000000)) by omega)) (fun _ => ?_)
  refine q_load (v := (6, 455, 0)) (p2 := 23) rfl rfl rfl rfl ?_
  refine q_getv (v := (0, 1, 0)) (p2 := 24) rfl (x_KS_455 hK20) (by decide) hK20.1.choose_spec.2.2.2.2.2.2.2.2.2.2.2.1 rfl ?_
  refine q_if0_s (p2 := 25) rfl (by decide) (by omega) rfl (fun hb => absurd hb (show ¬ (¬ (0 < 1)) by omega)) (fun _ => ?_)
  refine q_load (v := (6, 455, 0)) (p2 := 26) rfl rfl rfl rfl ?_
  refine q_getv (v := (0, 0, 0)) (p2 := 27) rfl (x_KS_455 hK20) (by decide) hK20.1.choose_spec.2.2.2.2.2.2.2.2.2.2.2.2.2.2.2.2.2.1 rfl ?_
  refine q_if0_s (p2 := 28) rfl (by decide) (by omega) rfl (fun hb => absurd hb (show ¬ (¬ (0 = 0)) by omega)) (fun _ => ?_)
  refine q_load (v := (6, 455, 0)) (p2 := 29) rfl rfl rfl rfl ?_
  refine x_n_lt (fun hlt22 => ?_)
  have hm21 := (x_PS_at hm18 (fun j hj hne => by have hj2 := x_some_lt hlt19 hne; exact (frn20 j (by omega))))
  refine q_callrE (xs := [(6, 455, 0)]) (p2 := 30) rfl rfl rfl rfl (x_rcv_s 455 (x_KS_455 hK20)) rfl (k_fetchw hc64 hm21.1.choose_spec hK20 (by omega)) (Nat.le_refl _) (Nat.le_refl _) rfl (fun φ23 hR23 => ?_)
  obtain ⟨hK23, frn23⟩ := hR23
  refine q_store (loc2 := [(6, 455, 0), (0, 60, 0), (6, 225, 0), (0, 2, 0), (0, 7, 0)]) (p2 := 31) rfl rfl rfl rfl rfl ?_
  refine q_load (v := (0, 7, 0)) (p2 := 32) rfl rfl rfl rfl ?_
  refine q_const (p2 := 33) rfl rfl ?_
  refine q_icmp_s (p2 := 34) rfl (by decide) (by omega) (by omega) rfl (fun hb => absurd hb (show ¬ (10 < 7) by omega)) (fun _ => ?_)
  refine q_load (v := (6, 455, 0)) (p2 := 35) rfl rfl rfl rfl ?_
  refine q_load (v := (0, 7, 0)) (p2 := 36) rfl rfl rfl rfl ?_
  refine x_n_lt (fun hlt25 => ?_)
  have hm24 := (x_PS_at hm21 (fun j hj hne => by have hj2 := x_some_lt hlt22 hne; exact (frn23 j (by omega))))
  refine q_callvB (xs := [(0, 7, 0), (6, 455, 0)]) (p2 := 37) rfl rfl rfl rfl (x_rcv_s 455 (x_KS_455 hK23)) rfl (k_plain_7w hc65 hm24.1.choose_spec hK23 (by omega) (by omega) hm24.2.1 (x_PS_N hm24) (by omega) (by omega)) rfl (fun φ26 n26 sl26 hn26 hN26 hs26 hT26 hR26 => ?_)
  obtain ⟨v26, hK26, hV26, frn26⟩ := hR26
  rw [if_pos h1] at hV26
  refine x_n_lt (fun hlt27 => ?_)
  have hz28 := x_mv_lt hV26 hlt27
  have hy28 := hV26.1
  refine q_goto rfl ?_
  refine q_iinc (z := 3) (loc2 := [(6, 455, 0), (0, 60, 0), (6, 225, 0), (0, 3, 0), (0, 7, 0)]) (p2 := 49) rfl rfl (by decide) rfl rfl ?_
  refine q_goto rfl ?_
  refine q_load (v := (0, 3, 0)) (p2 := 20) rfl rfl rfl rfl ?_
  refine q_const (p2 := 21) rfl rfl ?_
  refine q_icmp_s (p2 := 22) rfl (by decide) (by omega) (by omega) rfl (fun hb => absurd hb (show ¬ (¬ (3 < 1000000)) by omega)) (fun _ => ?_)
  refine q_load (v := (6, 455, 0)) (p2 := 23) rfl rfl rfl rfl ?_
  refine q_getv (v := (0, 1, 0)) (p2 := 24) rfl (x_KS_455 hK26) (by decide) hK26.1.choose_spec.2.2.2.2.2.2.2.2.2.2.2.1 rfl ?_
  refine q_if0_s (p2 := 25) rfl (by decide) (by omega) rfl (fun hb => absurd hb (show ¬ (¬ (0 < 1)) by omega)) (fun _ => ?_)
  refine q_load (v := (6, 455, 0)) (p2 := 26) rfl rfl rfl rfl ?_
  refine q_getv (v := (0, 0, 0)) (p2 := 27) rfl (x_KS_455 hK26) (by decide) hK26.1.choose_spec.2.2.2.2.2.2.2.2.2.2.2.2.2.2.2.2.2.1 rfl ?_
  refine q_if0_s (p2 := 28) rfl (by decide) (by omega) rfl (fun hb => absurd hb (show ¬ (¬ (0 = 0)) by omega)) (fun _ => ?_)
  refine q_load (v := (6, 455, 0)) (p2 := 29) rfl rfl rfl rfl ?_
  have hm29 := (x_PS_at hm24 (fun j hj hne => by have hj2 := x_some_lt hlt25 hne; exact (frn26 j (by omega) (by omega))))
  refine q_callrE (xs := [(6, 455, 0)]) (p2 := 30) rfl rfl rfl rfl (x_rcv_s 455 (x_KS_455 hK26)) rfl (k_fetchw hc66 hm29.1.choose_spec hK26 (by omega)) (Nat.le_refl _) (Nat.le_refl _) rfl (fun φ30 hR30 => ?_)
  obtain ⟨hK30, frn30⟩ := hR30
  refine q_store (loc2 := [(6, 455, 0), (0, 60, 0), (6, 225, 0), (0, 3, 0), (0, 3, 0)]) (p2 := 31) rfl rfl rfl rfl rfl ?_
  refine q_load (v := (0, 3, 0)) (p2 := 32) rfl rfl rfl rfl ?_
  refine q_const (p2 := 33) rfl rfl ?_
  refine q_icmp_s (p2 := 34) rfl (by decide) (by omega) (by omega) rfl (fun hb => absurd hb (show ¬ (10 < 3) by omega)) (fun _ => ?_)
  refine q_load (v := (6, 455, 0)) (p2 := 35) rfl rfl rfl rfl ?_
  refine q_load (v := (0, 3, 0)) (p2 := 36) rfl rfl rfl rfl ?_
  refine x_n_lt (fun hlt32 => ?_)
  have hm31 := (x_PS_at hm29 (fun j hj hne => by have hj2 := x_some_lt hlt27 hne; exact (frn30 j (by omega))))
  refine q_callvB (xs := [(0, 3, 0), (6, 455, 0)]) (p2 := 37) rfl rfl rfl rfl (x_rcv_s 455 (x_KS_455 hK30)) rfl (k_plain_3w hc67 hm31.1.choose_spec hK30 (by omega) (by omega) (by omega) (by omega)) rfl (fun φ33 n33 sl33 hn33 hN33 hs33 hT33 hR33 => ?_)
  obtain ⟨v33, hK33, hV33, frn33⟩ := hR33
  refine x_n_lt (fun hlt34 => ?_)
  have hz35 := x_mv_lt hV33 hlt34
  have hy35 := hV33.1
  refine q_goto rfl ?_
  refine q_iinc (z := 4) (loc2 := [(6, 455, 0), (0, 60, 0), (6, 225, 0), (0, 4, 0), (0, 3, 0)]) (p2 := 49) rfl rfl (by decide) rfl rfl ?_
  refine q_goto rfl ?_
  refine q_load (v := (0, 4, 0)) (p2 := 20) rfl rfl rfl rfl ?_
  refine q_const (p2 := 21) rfl rfl ?_
  refine q_icmp_s (p2 := 22) rfl (by decide) (by omega) (by omega) rfl (fun hb => absurd hb (show ¬ (¬ (4 < 1000000)) by omega)) (fun _ => ?_)
  refine q_load (v := (6, 455, 0)) (p2 := 23) rfl rfl rfl rfl ?_
  refine q_getv (v := (0, 1, 0)) (p2 := 24) rfl (x_KS_455 hK33) (by decide) hK33.1.choose_spec.2.2.2.2.2.2.2.2.2.2.2.1 rfl ?_
  refine q_if0_s (p2 := 25) rfl (by decide) (by omega) rfl (fun hb => absurd hb (show ¬ (¬ (0 < 1)) by omega)) (fun _ => ?_)
  refine q_load (v := (6, 455, 0)) (p2 := 26) rfl rfl rfl rfl ?_
  refine q_getv (v := (0, 0, 0)) (p2 := 27) rfl (x_KS_455 hK33) (by decide) hK33.1.choose_spec.2.2.2.2.2.2.2.2.2.2.2.2.2.2.2.2.2.1 rfl ?_
  refine q_if0_s (p2 := 28) rfl (by decide) (by omega) rfl (fun hb => absurd hb (show ¬ (¬ (0 = 0)) by omega)) (fun _ => ?_)
  refine q_load (v := (6, 455, 0)) (p2 := 29) rfl rfl rfl rfl ?_
  have hm36 := (x_PS_at hm31 (fun j hj hne => by have hj2 := x_some_lt hlt32 hne; exact (frn33 j (by omega) (by omega))))
  refine q_callrE (xs := [(6, 455, 0)]) (p2 := 30) rfl rfl rfl rfl (x_rcv_s 455 (x_KS_455 hK33)) rfl (k_fetchw hc68 hm36.1.choose_spec hK33 (by omega)) (Nat.le_refl _) (Nat.le_refl _) rfl (fun φ37 hR37 => ?_)
  obtain ⟨hK37, frn37⟩ := hR37
  refine q_store (loc2 := [(6, 455, 0), (0, 60, 0), (6, 225, 0), (0, 4, 0), (0, 1, 0)]) (p2 := 31) rfl rfl rfl rfl rfl ?_
  refine q_load (v := (0, 1, 0)) (p2 := 32) rfl rfl rfl rfl ?_
  refine q_const (p2 := 33) rfl rfl ?_
  refine q_icmp_s (p2 := 34) rfl (by decide) (by omega) (by omega) rfl (fun hb => absurd hb (show ¬ (10 < 1) by omega)) (fun _ => ?_)
  refine q_load (v := (6, 455, 0)) (p2 := 35) rfl rfl rfl rfl ?_
  refine q_load (v := (0, 1, 0)) (p2 := 36) rfl rfl rfl rfl ?_
  refine x_n_lt (fun hlt39 => ?_)
  have hm38 := (x_PS_at hm36 (fun j hj hne => by have hj2 := x_some_lt hlt34 hne; exact (frn37 j (by omega))))
  refine q_callvB (xs := [(0, 1, 0), (6, 455, 0)]) (p2 := 37) rfl rfl rfl rfl (x_rcv_s 455 (x_KS_455 hK37)) rfl (k_plain_1w hc69 hm38.1.choose_spec hK37 (by omega) (by omega) (by omega) (by omega)) rfl (fun φ40 n40 sl40 hn40 hN40 hs40 hT40 hR40 => ?_)
  obtain ⟨hK40, frn40⟩ := hR40
  refine q_goto rfl ?_
  refine q_iinc (z := 5) (loc2 := [(6, 455, 0), (0, 60, 0), (6, 225, 0), (0, 5, 0), (0, 1, 0)]) (p2 := 49) rfl rfl (by decide) rfl rfl ?_
  refine q_goto rfl ?_
  refine q_load (v := (0, 5, 0)) (p2 := 20) rfl rfl rfl rfl ?_
  refine q_const (p2 := 21) rfl rfl ?_
  refine q_icmp_s (p2 := 22) rfl (by decide) (by omega) (by omega) rfl (fun hb => absurd hb (show ¬ (¬ (5 < 1000000)) by omega)) (fun _ => ?_)
  refine q_load (v := (6, 455, 0)) (p2 := 23) rfl rfl rfl rfl ?_
  refine q_getv (v := (0, 1, 0)) (p2 := 24) rfl (x_KS_455 hK40) (by decide) hK40.1.choose_spec.2.2.2.2.2.2.2.2.2.2.2.1 rfl ?_
  refine q_if0_s (p2 := 25) rfl (by decide) (by omega) rfl (fun hb => absurd hb (show ¬ (¬ (0 < 1)) by omega)) (fun _ => ?_)
  refine q_load (v := (6, 455, 0)) (p2 := 26) rfl rfl rfl rfl ?_
  refine q_getv (v := (0, 0, 0)) (p2 := 27) rfl (x_KS_455 hK40) (by decide) hK40.1.choose_spec.2.2.2.2.2.2.2.2.2.2.2.2.2.2.2.2.2.1 rfl ?_
  refine q_if0_s (p2 := 28) rfl (by decide) (by omega) rfl (fun hb => absurd hb (show ¬ (¬ (0 = 0)) by omega)) (fun _ => ?_)
  refine q_load (v := (6, 455, 0)) (p2 := 29) rfl rfl rfl rfl ?_
  refine x_n_lt (fun hlt42 => ?_)
  have hm41 := (x_PS_at hm38 (fun j hj hne => by have hj2 := x_some_lt hlt39 hne; exact (frn40 j (by omega))))
  refine q_callrE (xs := [(6, 455, 0)]) (p2 := 30) rfl rfl rfl rfl (x_rcv_s 455 (x_KS_455 hK40)) rfl (k_fetchw hc70 hm41.1.choose_spec hK40 (by omega)) (Nat.le_refl _) (Nat.le_refl _) rfl (fun φ43 hR43 => ?_)
  obtain ⟨hK43, frn43⟩ := hR43
  refine q_store (loc2 := [(6, 455, 0), (0, 60, 0), (6, 225, 0), (0, 5, 0), (0, 7, 0)]) (p2 := 31) rfl rfl rfl rfl rfl ?_
  refine q_load (v := (0, 7, 0)) (p2 := 32) rfl rfl rfl rfl ?_
  refine q_const (p2 := 33) rfl rfl ?_
  refine q_icmp_s (p2 := 34) rfl (by decide) (by omega) (by omega) rfl (fun hb => absurd hb (show ¬ (10 < 7) by omega)) (fun _ => ?_)
  refine q_load (v := (6, 455, 0)) (p2 := 35) rfl rfl rfl rfl ?_
  refine q_load (v := (0, 7, 0)) (p2 := 36) rfl rfl rfl rfl ?_
  refine x_n_lt (fun hlt45 => ?_)
  have hm44 := (x_PS_at hm41 (fun j hj hne => by have hj2 := x_some_lt hlt42 hne; exact (frn43 j (by omega))))
  refine q_callvB (xs := [(0, 7, 0), (6, 455, 0)]) (p2 := 37) rfl rfl rfl rfl (x_rcv_s 455 (x_KS_455 hK43)) rfl (k_plain_7w hc71 hm44.1.choose_spec hK43 (by omega) (by omega) hm44.2.1 (x_PS_N hm44) (by omega) (by omega)) rfl (fun φ46 n46 sl46 hn46 hN46 hs46 hT46 hR46 => ?_)
  obtain ⟨v46, hK46, hV46, frn46⟩ := hR46
  rw [if_pos h2] at hV46
  refine x_n_lt (fun hlt47 => ?_)
  have hz48 := x_mv_lt hV46 hlt47
  have hy48 := hV46.1
  refine q_goto rfl ?_
  refine q_iinc (z := 6) (loc2 := [(6, 455, 0), (0, 60, 0), (6, 225, 0), (0, 6, 0), (0, 7, 0)]) (p2 := 49) rfl rfl (by decide) rfl rfl ?_
  refine q_goto rfl ?_
  refine q_load (v := (0, 6, 0)) (p2 := 20) rfl rfl rfl rfl ?_
  refine q_const (p2 := 21) rfl rfl ?_
  refine q_icmp_s (p2 := 22) rfl (by decide) (by omega) (by omega) rfl (fun hb => absurd hb (show ¬ (¬ (6 < 1000000)) by omega)) (fun _ => ?_)
  refine q_load (v := (6, 455, 0)) (p2 := 23) rfl rfl rfl rfl ?_
  refine q_getv (v := (0, 1, 0)) (p2 := 24) rfl (x_KS_455 hK46) (by decide) hK46.1.choose_spec.2.2.2.2.2.2.2.2.2.2.2.1 rfl ?_
  refine q_if0_s (p2 := 25) rfl (by decide) (by omega) rfl (fun hb => absurd hb (show ¬ (¬ (0 < 1)) by omega)) (fun _ => ?_)
  refine q_load (v := (6, 455, 0)) (p2 := 26) rfl rfl rfl rfl ?_
  refine q_getv (v := (0, 0, 0)) (p2 := 27) rfl (x_KS_455 hK46) (by decide) hK46.1.choose_spec.2.2.2.2.2.2.2.2.2.2.2.2.2.2.2.2.2.1 rfl ?_
  refine q_if0_s (p2 := 28) rfl (by decide) (by omega) rfl (fun hb => absurd hb (show ¬ (¬ (0 = 0)) by omega)) (fun _ => ?_)
  refine q_load (v := (6, 455, 0)) (p2 := 29) rfl rfl rfl rfl ?_
  have hm49 := (x_PS_at hm44 (fun j hj hne => by have hj2 := x_some_lt hlt45 hne; exact (frn46 j (by omega) (by omega))))
  refine q_callrE (xs := [(6, 455, 0)]) (p2 := 30) rfl rfl rfl rfl (x_rcv_s 455 (x_KS_455 hK46)) rfl (k_fetchw hc72 hm49.1.choose_spec hK46 (by omega)) (Nat.le_refl _) (Nat.le_refl _) rfl (fun φ50 hR50 => ?_)
  obtain ⟨hK50, frn50⟩ := hR50
  refine q_store (loc2 := [(6, 455, 0), (0, 60, 0), (6, 225, 0), (0, 6, 0), (0, 3, 0)]) (p2 := 31) rfl rfl rfl rfl rfl ?_
  refine q_load (v := (0, 3, 0)) (p2 := 32) rfl rfl rfl rfl ?_
  refine q_const (p2 := 33) rfl rfl ?_
  refine q_icmp_s (p2 := 34) rfl (by decide) (by omega) (by omega) rfl (fun hb => absurd hb (show ¬ (10 < 3) by omega)) (fun _ => ?_)
  refine q_load (v := (6, 455, 0)) (p2 := 35) rfl rfl rfl rfl ?_
  refine q_load (v := (0, 3, 0)) (p2 := 36) rfl rfl rfl rfl ?_
  refine x_n_lt (fun hlt52 => ?_)
  have hm51 := (x_PS_at hm49 (fun j hj hne => by have hj2 := x_some_lt hlt47 hne; exact (frn50 j (by omega))))
  refine q_callvB (xs := [(0, 3, 0), (6, 455, 0)]) (p2 := 37) rfl rfl rfl rfl (x_rcv_s 455 (x_KS_455 hK50)) rfl (k_plain_3w hc73 hm51.1.choose_spec hK50 (by omega) (by omega) (by omega) (by omega)) rfl (fun φ53 n53 sl53 hn53 hN53 hs53 hT53 hR53 => ?_)
  obtain ⟨v53, hK53, hV53, frn53⟩ := hR53
  refine x_n_lt (fun hlt54 => ?_)
  have hz55 := x_mv_lt hV53 hlt54
  have hy55 := hV53.1
  refine q_goto rfl ?_
  refine q_iinc (z := 7) (loc2 := [(6, 455, 0), (0, 60, 0), (6, 225, 0), (0, 7, 0), (0, 3, 0)]) (p2 := 49) rfl rfl (by decide) rfl rfl ?_
  refine q_goto rfl ?_
  refine q_load (v := (0, 7, 0)) (p2 := 20) rfl rfl rfl rfl ?_
  refine q_const (p2 := 21) rfl rfl ?_
  refine q_icmp_s (p2 := 22) rfl (by decide) (by omega) (by omega) rfl (fun hb => absurd hb (show ¬ (¬ (7 < 1000000)) by omega)) (fun _ => ?_)
  refine q_load (v := (6, 455, 0)) (p2 := 23) rfl rfl rfl rfl ?_
  refine q_getv (v := (0, 1, 0)) (p2 := 24) rfl (x_KS_455 hK53) (by decide) hK53.1.choose_spec.2.2.2.2.2.2.2.2.2.2.2.1 rfl ?_
  refine q_if0_s (p2 := 25) rfl (by decide) (by omega) rfl (fun hb => absurd hb (show ¬ (¬ (0 < 1)) by omega)) (fun _ => ?_)
  refine q_load (v := (6, 455, 0)) (p2 := 26) rfl rfl rfl rfl ?_
  refine q_getv (v := (0, 0, 0)) (p2 := 27) rfl (x_KS_455 hK53) (by decide) hK53.1.choose_spec.2.2.2.2.2.2.2.2.2.2.2.2.2.2.2.2.2.1 rfl ?_
  refine q_if0_s (p2 := 28) rfl (by decide) (by omega) rfl (fun hb => absurd hb (show ¬ (¬ (0 = 0)) by omega)) (fun _ => ?_)
  refine q_load (v := (6, 455, 0)) (p2 := 29) rfl rfl rfl rfl ?_
  have hm56 := (x_PS_at hm51 (fun j hj hne => by have hj2 := x_some_lt hlt52 hne; exact (frn53 j (by omega) (by omega))))
  refine q_callrE (xs := [(6, 455, 0)]) (p2 := 30) rfl rfl rfl rfl (x_rcv_s 455 (x_KS_455 hK53)) rfl (k_fetchw hc74 hm56.1.choose_spec hK53 (by omega)) (Nat.le_refl _) (Nat.le_refl _) rfl (fun φ57 hR57 => ?_)
  obtain ⟨hK57, frn57⟩ := hR57
  refine q_store (loc2 := [(6, 455, 0), (0, 60, 0), (6, 225, 0), (0, 7, 0), (0, 18, 0)]) (p2 := 31) rfl rfl rfl rfl rfl ?_
  refine q_load (v := (0, 18, 0)) (p2 := 32) rfl rfl rfl rfl ?_
  refine q_const (p2 := 33) rfl rfl ?_
  refine q_icmp_s (p2 := 34) rfl (by decide) (by omega) (by omega) rfl (fun _ => ?_) (fun hb => absurd (show 10 < 18 by omega) hb)
  refine q_load (v := (0, 18, 0)) (p2 := 39) rfl rfl rfl rfl ?_
  refine q_const (p2 := 40) rfl rfl ?_
  refine q_icmp_s (p2 := 41) rfl (by decide) (by omega) (by omega) rfl (fun hb => absurd hb (show ¬ (19 < 18) by omega)) (fun _ => ?_)
  refine q_load (v := (6, 455, 0)) (p2 := 42) rfl rfl rfl rfl ?_
  refine q_load (v := (0, 18, 0)) (p2 := 43) rfl rfl rfl rfl ?_
  refine x_n_lt (fun hlt59 => ?_)
  have hv58 := x_mv_at hV26 (fun j hj hne => by have hj2 := x_some_lt hlt27 hne; exact ((frn57 j (by omega)).trans ((frn53 j (by omega) (by omega)).trans ((frn50 j (by omega)).trans ((frn46 j (by omega) (by omega)).trans ((frn43 j (by omega)).trans ((frn40 j (by omega)).trans ((frn37 j (by omega)).trans ((frn33 j (by omega) (by omega)).trans (frn30 j (by omega)))))))))))
  have hv60 := x_mv_at hV33 (fun j hj hne => by have hj2 := x_some_lt hlt34 hne; exact ((frn57 j (by omega)).trans ((frn53 j (by omega) (by omega)).trans ((frn50 j (by omega)).trans ((frn46 j (by omega) (by omega)).trans ((frn43 j (by omega)).trans ((frn40 j (by omega)).trans (frn37 j (by omega)))))))))
  have hv61 := x_mv_at hV46 (fun j hj hne => by have hj2 := x_some_lt hlt47 hne; exact ((frn57 j (by omega)).trans ((frn53 j (by omega) (by omega)).trans (frn50 j (by omega)))))
  have hv62 := x_mv_at hV53 (fun j hj hne => by have hj2 := x_some_lt hlt54 hne; exact (frn57 j (by omega)))
  have hm63 := (x_PS_at hm56 (fun j hj hne => by have hj2 := x_some_lt hlt54 hne; exact (frn57 j (by omega))))
  refine q_callvB (xs := [(0, 18, 0), (6, 455, 0)]) (p2 := 44) rfl rfl rfl rfl (x_rcv_s 455 (x_KS_455 hK57)) rfl (zc_kop18_55 (a := w1) (b := w2) hm63 hK57 hc75 (by omega) ((x_s_ne (by decide)).trans ((x_s_ne (by decide)).trans ((x_s_ne (by decide)).trans (x_s_eq)))) ((x_s_ne (by decide)).trans ((x_s_ne (by decide)).trans (x_s_eq))) ((x_s_ne (by decide)).trans (x_s_eq)) (x_s_eq) hv58 hv60 hv61 hv62 (by omega) (by omega) (by omega)) rfl (fun φ64 n64 sl64 hn64 hN64 hs64 hT64 hR64 => ?_)
  obtain ⟨v64, hK64, hV64, frn64⟩ := hR64
  refine x_n_lt (fun hlt65 => ?_)
  have hz66 := x_mv_lt hV64 hlt65
  have hy66 := hV64.1
  refine q_goto rfl ?_
  refine q_iinc (z := 8) (loc2 := [(6, 455, 0), (0, 60, 0), (6, 225, 0), (0, 8, 0), (0, 18, 0)]) (p2 := 49) rfl rfl (by decide) rfl rfl ?_
  refine q_goto rfl ?_
  refine q_load (v := (0, 8, 0)) (p2 := 20) rfl rfl rfl rfl ?_
  refine q_const (p2 := 21) rfl rfl ?_
  refine q_icmp_s (p2 := 22) rfl (by decide) (by omega) (by omega) rfl (fun hb => absurd hb (show ¬ (¬ (8 < 1000000)) by omega)) (fun _ => ?_)
  refine q_load (v := (6, 455, 0)) (p2 := 23) rfl rfl rfl rfl ?_
  refine q_getv (v := (0, 1, 0)) (p2 := 24) rfl (x_KS_455 hK64) (by decide) hK64.1.choose_spec.2.2.2.2.2.2.2.2.2.2.2.1 rfl ?_
  refine q_if0_s (p2 := 25) rfl (by decide) (by omega) rfl (fun hb => absurd hb (show ¬ (¬ (0 < 1)) by omega)) (fun _ => ?_)
  refine q_load (v := (6, 455, 0)) (p2 := 26) rfl rfl rfl rfl ?_
  refine q_getv (v := (0, 0, 0)) (p2 := 27) rfl (x_KS_455 hK64) (by decide) hK64.1.choose_spec.2.2.2.2.2.2.2.2.2.2.2.2.2.2.2.2.2.1 rfl ?_
  refine q_if0_s (p2 := 28) rfl (by decide) (by omega) rfl (fun hb => absurd hb (show ¬ (¬ (0 = 0)) by omega)) (fun _ => ?_)
  refine q_load (v := (6, 455, 0)) (p2 := 29) rfl rfl rfl rfl ?_
  have hm67 := (x_PS_at hm63 (fun j hj hne => by have hj2 := x_some_lt hlt59 hne; exact (frn64 j (by omega) (by omega))))
  refine q_callrE (xs := [(6, 455, 0)]) (p2 := 30) rfl rfl rfl rfl (x_rcv_s 455 (x_KS_455 hK64)) rfl (k_fetchw hc76 hm67.1.choose_spec hK64 (by omega)) (Nat.le_refl _) (Nat.le_refl _) rfl (fun φ68 hR68 => ?_)
  obtain ⟨hK68, frn68⟩ := hR68
  refine q_store (loc2 := [(6, 455, 0), (0, 60, 0), (6, 225, 0), (0, 8, 0), (0, 31, 0)]) (p2 := 31) rfl rfl rfl rfl rfl ?_
  refine q_load (v := (0, 31, 0)) (p2 := 32) rfl rfl rfl rfl ?_
  refine q_const (p2 := 33) rfl rfl ?_
  refine q_icmp_s (p2 := 34) rfl (by decide) (by omega) (by omega) rfl (fun _ => ?_) (fun hb => absurd (show 10 < 31 by omega) hb)
  refine q_load (v := (0, 31, 0)) (p2 := 39) rfl rfl rfl rfl ?_
  refine q_const (p2 := 40) rfl rfl ?_
  refine q_icmp_s (p2 := 41) rfl (by decide) (by omega) (by omega) rfl (fun _ => ?_) (fun hb => absurd (show 19 < 31 by omega) hb)
  refine q_load (v := (6, 455, 0)) (p2 := 46) rfl rfl rfl rfl ?_
  refine q_load (v := (0, 31, 0)) (p2 := 47) rfl rfl rfl rfl ?_
  refine x_n_lt (fun hlt70 => ?_)
  have hm69 := (x_PS_at hm67 (fun j hj hne => by have hj2 := x_some_lt hlt65 hne; exact (frn68 j (by omega))))
  have hv71 := x_mv_at hV64 (fun j hj hne => by have hj2 := x_some_lt hlt65 hne; exact (frn68 j (by omega)))
  refine q_callvB (xs := [(0, 31, 0), (6, 455, 0)]) (p2 := 48) rfl rfl rfl rfl (x_rcv_s 455 (x_KS_455 hK68)) rfl (k_lead_31 (top := 0) (fr := 0) hm69.1.choose_spec hK68 (by omega) (by omega) hv71 (Or.inl rfl) (by omega) (by show (0 : Nat) < 4096; decide)) rfl (fun φ72 n72 sl72 hn72 hN72 hs72 hT72 hR72 => ?_)
  obtain ⟨hK72, frn72⟩ := hR72
  refine q_iinc (z := 9) (loc2 := [(6, 455, 0), (0, 60, 0), (6, 225, 0), (0, 9, 0), (0, 31, 0)]) (p2 := 49) rfl rfl (by decide) rfl rfl ?_
  refine q_goto rfl ?_
  refine q_load (v := (0, 9, 0)) (p2 := 20) rfl rfl rfl rfl ?_
  refine q_const (p2 := 21) rfl rfl ?_
  refine q_icmp_s (p2 := 22) rfl (by decide) (by omega) (by omega) rfl (fun hb => absurd hb (show ¬ (¬ (9 < 1000000)) by omega)) (fun _ => ?_)
  refine q_load (v := (6, 455, 0)) (p2 := 23) rfl rfl rfl rfl ?_
  refine q_getv (v := (0, 0, 0)) (p2 := 24) rfl (x_KS_455 hK72) (by decide) hK72.1.choose_spec.2.2.2.2.2.2.2.2.2.2.2.1 rfl ?_
  refine q_if0_s (p2 := 25) rfl (by decide) (by omega) rfl (fun _ => ?_) (fun hb => absurd (show ¬ (0 < 0) by omega) hb)
  refine q_load (v := (6, 455, 0)) (p2 := 51) rfl rfl rfl rfl ?_
  refine q_getv (v := (0, 0, 0)) (p2 := 52) rfl (x_KS_455 hK72) (by decide) hK72.1.choose_spec.2.2.2.2.2.2.2.2.2.2.2.2.2.2.2.2.2.1 rfl ?_
  refine q_if0_s (p2 := 53) rfl (by decide) (by omega) rfl (fun _ => ?_) (fun hb => absurd (show 0 = 0 by omega) hb)
  refine q_load (v := (6, 455, 0)) (p2 := 57) rfl rfl rfl rfl ?_
  refine q_callrE (xs := [(6, 455, 0)]) (p2 := 58) rfl rfl rfl rfl (x_rcv_s 455 (x_KS_455 hK72)) rfl (k_pop (top := 0) hK72 (by omega)) (Nat.le_refl _) (Nat.le_refl _) rfl (fun φ73 hR73 => ?_)
  obtain ⟨hK73, frn73⟩ := hR73
  refine x_n_lt (fun hlt75 => ?_)
  have hv74 := x_mv_at hv71 (fun j hj hne => by have hj2 := x_some_lt hlt70 hne; exact ((frn73 j (by omega)).trans (frn72 j (by omega))))
  exact q_retv (v := (6, v64, 0)) rfl rfl (⟨rfl, ⟨by omega, by omega⟩, ⟨by omega, by omega⟩, v64, rfl, ⟨_, _, _, _, _, _, _, _, _, _, hK73⟩, hv74, fun j hj1 hj2 => ((frn73 j (by omega)).trans ((frn72 j (by omega)).trans ((frn68 j (by omega)).trans ((frn64 j (by omega) (by omega)).trans ((frn57 j (by omega)).trans ((frn53 j (by omega) (by omega)).trans ((frn50 j (by omega)).trans ((frn46 j (by omega) (by omega)).trans ((frn43 j (by omega)).trans ((frn40 j (by omega)).trans ((frn37 j (by omega)).trans ((frn33 j (by omega) (by omega)).trans ((frn30 j (by omega)).trans ((frn26 j (by omega) (by omega)).trans ((frn23 j (by omega)).trans ((frn20 j (by omega)).trans ((frn17 j (by omega)).trans ((frn14 j (by omega)).trans ((frn11 j (by omega)).trans ((frn8 j (by omega)).trans ((fr4 j (by omega)).trans ((fr3 j (by omega)).trans ((fr2 j (by omega)).trans (fr1 j (by omega)))))))))))))))))))))))))⟩)
set_option maxHeartbeats 1000000 in
theorem zc_run_eq_yy {d n sl : Nat} {φ : FH} {A : Nat} {B : Nat} {made : Nat} {sv : Nat} {svm : Nat} {s9 : Nat} {comb : Nat → Nat} {hm : Nat → MV} {top : Nat} {fr : Nat} {pc_ : Nat} {mm : Nat} {mi : Nat} {st : Nat → Nat} {lo : Nat → Nat} {re : Nat → Nat} {rs : Nat → Nat} {fl : Nat → Nat} {se : Nat → Nat} {co : Nat → Nat} {w1 w2 : Nat} {lik : Nat → Nat} (hPS : x_PS φ A B made sv svm s9 comb hm) (hKS : x_KS φ top fr pc_ mm mi st lo re rs fl se co) (hn0 : 486 ≤ n) (hmi : mi + 30 ≤ 20000) (hc60 : co 60 = 1) (hc61 : co 61 = 2) (hc62 : co 62 = 7) (hc63 : co 63 = w1) (hc64 : co 64 = 1) (hc65 : co 65 = 1) (hc66 : co 66 = 7) (hc67 : co 67 = w2) (hc68 : co 68 = 15) (hc69 : co 69 = 64) (hc70 : co 70 = 31) (hw1 : w1 < 512) (hw2 : w2 < 512) (h1 : w1 < made ∧ comb w1 ≠ 0) (h2 : w2 < made ∧ comb w2 ≠ 0) (hL : x_row φ A lik) (hA : A < 232) : x_f x_P (d + 6) 56 [(6, 455, 0), (0, 60, 0), (6, 225, 0), (11, 0, 0), (11, 0, 0)] φ n sl (x_bR n sl 3 21 (fun zw φ2 => ∃ v, zw = (6, v, 0) ∧ x_KJ φ2 (mi + 3) co ∧ x_mv φ2 v (if x_lk lik made (5, w1, 0, 0, []) (5, w2, 0, 0, []) then (3, 2, 0, 0, []) else (3, 0, 0, 0, [])) ∧ ∀ j, j < n → (j < 455 ∨ 466 ≤ j) → φ2 j = φ j)) := by
  refine x_f_of rfl ?_
  refine x_n_lt (fun hlt0 => ?_)
  refine q_load (v := (6, 455, 0)) (p2 := 1) rfl rfl rfl rfl ?_
  refine q_const (p2 := 2) rfl rfl ?_
  refine q_putfE (v := (0, 0, 0)) (p2 := 3) rfl (x_KS_455 hKS) (by decide) rfl rfl (fun φ1 f1 hh1 hg1 ho1 fr1 => ?_)
  have hs1 := x_KS_put_18 hKS hh1 hg1 ho1 fr1
  refine q_load (v := (6, 455, 0)) (p2 := 4) rfl rfl rfl rfl ?_
  refine q_const (p2 := 5) rfl rfl ?_
  refine q_putfE (v := (0, 0, 0)) (p2 := 6) rfl (x_KS_455 hs1) (by decide) rfl rfl (fun φ2 f2 hh2 hg2 ho2 fr2 => ?_)
  have hs2 := x_KS_put_16 hs1 hh2 hg2 ho2 fr2
  refine q_load (v := (6, 455, 0)) (p2 := 7) rfl rfl rfl rfl ?_
  refine q_const (p2 := 8) rfl rfl ?_
  refine q_putfE (v := (0, 0, 0)) (p2 := 9) rfl (x_KS_455 hs2) (by decide) rfl rfl (fun φ3 f3 hh3 hg3 ho3 fr3 => ?_)
  have hs3 := x_KS_put_4 hs2 hh3 hg3 ho3 fr3
  refine q_load (v := (6, 455, 0)) (p2 := 10) rfl rfl rfl rfl ?_
  refine q_const (p2 := 11) rfl rfl ?_
  refine q_putfE (v := (0, 0, 0)) (p2 := 12) rfl (x_KS_455 hs3) (by decide) rfl rfl (fun φ4 f4 hh4 hg4 ho4 fr4 => ?_)
  have hs4 := x_KS_put_10 hs3 hh4 hg4 ho4 fr4
  refine q_load (v := (6, 455, 0)) (p2 := 13) rfl rfl rfl rfl ?_
  refine q_load (v := (0, 60, 0)) (p2 := 14) rfl rfl rfl rfl ?_
  refine q_const (p2 := 15) rfl rfl ?_
  refine q_load (v := (6, 225, 0)) (p2 := 16) rfl rfl rfl rfl ?_
  refine x_n_lt (fun hlt6 => ?_)
  have hm5 := (x_PS_at hPS (fun j hj hne => by have hj2 := x_some_lt hlt0 hne; exact ((fr4 j (by omega)).trans ((fr3 j (by omega)).trans ((fr2 j (by omega)).trans (fr1 j (by omega)))))))
  have hv7 := x_mv_at (x_PS_N hPS) (fun j hj hne => by have hj2 := x_some_lt hlt0 hne; exact ((fr4 j (by omega)).trans ((fr3 j (by omega)).trans ((fr2 j (by omega)).trans (fr1 j (by omega))))))
  refine q_callvE (xs := [(6, 225, 0), (0, 4294967293, 0), (0, 60, 0), (6, 455, 0)]) (p2 := 17) rfl rfl rfl rfl (x_rcv_s 455 (x_KS_455 hs4)) rfl (k_open hs4 (x_PS_N hm5) hv7 (by omega)) (Nat.le_refl _) (Nat.le_refl _) rfl (fun φ8 hR8 => ?_)
  obtain ⟨hK8, frn8⟩ := hR8
  refine q_const (p2 := 18) rfl rfl ?_
  refine q_store (loc2 := [(6, 455, 0), (0, 60, 0), (6, 225, 0), (0, 0, 0), (11, 0, 0)]) (p2 := 19) rfl rfl rfl rfl rfl ?_
  refine q_load (v := (0, 0, 0)) (p2 := 20) rfl rfl rfl rfl ?_
  refine q_const (p2 := 21) rfl rfl ?_
  refine q_icmp_s (p2 := 22) rfl (by decide) (by omega) (by omega) rfl (fun hb => absurd hb (show ¬ (¬ (0 < 1000000)) by omega)) (fun _ => ?_)
  refine q_load (v := (6, 455, 0)) (p2 := 23) rfl rfl rfl rfl ?_
  refine q_getv (v := (0, 1, 0)) (p2 := 24) rfl (x_KS_455 hK8) (by decide) hK8.1.choose_spec.2.2.2.2.2.2.2.2.2.2.2.1 rfl ?_
  refine q_if0_s (p2 := 25) rfl (by decide) (by omega) rfl (fun hb => absurd hb (show ¬ (¬ (0 < 1)) by omega)) (fun _ => ?_)
  refine q_load (v := (6, 455, 0)) (p2 := 26) rfl rfl rfl rfl ?_
  refine q_getv (v := (0, 0, 0)) (p2 := 27) rfl (x_KS_455 hK8) (by decide) hK8.1.choose_spec.2.2.2.2.2.2.2.2.2.2.2.2.2.2.2.2.2.1 rfl ?_
  refine q_if0_s (p2 := 28) rfl (by decide) (by omega) rfl (fun hb => absurd hb (show ¬ (¬ (0 = 0)) by omega)) (fun _ => ?_)
  refine q_load (v := (6, 455, 0)) (p2 := 29) rfl rfl rfl rfl ?_
  refine x_n_lt (fun hlt10 => ?_)
  have hm9 := (x_PS_at hm5 (fun j hj hne => by have hj2 := x_some_lt hlt6 hne; exact (frn8 j (by omega))))
  refine q_callrE (xs := [(6, 455, 0)]) (p2 := 30) rfl rfl rfl rfl (x_rcv_s 455 (x_KS_455 hK8)) rfl (k_fetchw hc60 hm9.1.choose_spec hK8 (by omega)) (Nat.le_refl _) (Nat.le_refl _) rfl (fun φ11 hR11 => ?_)
  obtain ⟨hK11, frn11⟩ := hR11
  refine q_store (loc2 := [(6, 455, 0), (0, 60, 0), (6, 225, 0), (0, 0, 0), (0, 1, 0)]) (p2 := 31) rfl rfl rfl rfl rfl ?_
  refine q_load (v := (0, 1, 0)) (p2 := 32) rfl rfl rfl rfl ?_
  refine q_const (p2 := 33) rfl rfl ?_
  refine q_icmp_s (p2 := 34) rfl (by decide) (by omega) (by omega) rfl (fun hb => absurd hb (show ¬ (10 < 1) by omega)) (fun _ => ?_)
  refine q_load (v := (6, 455, 0)) (p2 := 35) rfl rfl rfl rfl ?_
  refine q_load (v := (0, 1, 0)) (p2 := 36) rfl rfl rfl rfl ?_
  refine x_n_lt (fun hlt13 => ?_)
  have hm12 := (x_PS_at hm9 (fun j hj hne => by have hj2 := x_some_lt hlt10 hne; exact (frn11 j (by omega))))
  refine q_callvB (xs := [(0, 1, 0), (6, 455, 0)]) (p2 := 37) rfl rfl rfl rfl (x_rcv_s 455 (x_KS_455 hK11)) rfl (k_plain_1w hc61 hm12.1.choose_spec hK11 (by omega) (by omega) (by omega) (by omega)) rfl (fun φ14 n14 sl14 hn14 hN14 hs14 hT14 hR14 => ?_)
  obtain ⟨hK14, frn14⟩ := hR14
  refine q_goto rfl ?_
  refine q_iinc (z := 1) (loc2 := [(6, 455, 0), (0, 60, 0), (6, 225, 0), (0, 1, 0), (0, 1, 0)]) (p2 := 49) rfl rfl (by decide) rfl rfl ?_
  refine q_goto rfl ?_
  refine q_load (v := (0, 1, 0)) (p2 := 20) rfl rfl rfl rfl ?_
  refine q_const (p2 := 21) rfl rfl ?_
  refine q_icmp_s (p2 := 22) rfl (by decide) (by omega) (by omega) rfl (fun hb => absurd hb (show ¬ (¬ (1 < 1000000)) by omega)) (fun _ => ?_)
  refine q_load (v := (6, 455, 0)) (p2 := 23) rfl rfl rfl rfl ?_
  refine q_getv (v := (0, 1, 0)) (p2 := 24) rfl (x_KS_455 hK14) (by decide) hK14.1.choose_spec.2.2.2.2.2.2.2.2.2.2.2.1 rfl ?_
  refine q_if0_s (p2 := 25) rfl (by decide) (by omega) rfl (fun hb => absurd hb (show ¬ (¬ (0 < 1)) by omega)) (fun _ => ?_)
  refine q_load (v := (6, 455, 0)) (p2 := 26) rfl rfl rfl rfl ?_
  refine q_getv (v := (0, 0, 0)) (p2 := 27) rfl (x_KS_455 hK14) (by decide) hK14.1.choose_spec.2.2.2.2.2.2.2.2.2.2.2.2.2.2.2.2.2.1 rfl ?_
  refine q_if0_s (p2 := 28) rfl (by decide) (by omega) rfl (fun hb => absurd hb (show ¬ (¬ (0 = 0)) by omega)) (fun _ => ?_)
  refine q_load (v := (6, 455, 0)) (p2 := 29) rfl rfl rfl rfl ?_
  refine x_n_lt (fun hlt16 => ?_)
  have hm15 := (x_PS_at hm12 (fun j hj hne => by have hj2 := x_some_lt hlt13 hne; exact (frn14 j (by omega))))
  refine q_callrE (xs := [(6, 455, 0)]) (p2 := 30) rfl rfl rfl rfl (x_rcv_s 455 (x_KS_455 hK14)) rfl (k_fetchw hc62 hm15.1.choose_spec hK14 (by omega)) (Nat.le_refl _) (Nat.le_refl _) rfl (fun φ17 hR17 => ?_)
  obtain ⟨hK17, frn17⟩ := hR17
  refine q_store (loc2 := [(6, 455, 0), (0, 60, 0), (6, 225, 0), (0, 1, 0), (0, 7, 0)]) (p2 := 31) rfl rfl rfl rfl rfl ?_
  refine q_load (v := (0, 7, 0)) (p2 := 32) rfl rfl rfl rfl ?_
  refine q_const (p2 := 33) rfl rfl ?_
  refine q_icmp_s (p2 := 34) rfl (by decide) (by omega) (by omega) rfl (fun hb => absurd hb (show ¬ (10 < 7) by omega)) (fun _ => ?_)
  refine q_load (v := (6, 455, 0)) (p2 := 35) rfl rfl rfl rfl ?_
  refine q_load (v := (0, 7, 0)) (p2 := 36) rfl rfl rfl rfl ?_
  refine x_n_lt (fun hlt19 => ?_)
  have hm18 := (x_PS_at hm15 (fun j hj hne => by have hj2 := x_some_lt hlt16 hne; exact (frn17 j (by omega))))
  refine q_callvB (xs := [(0, 7, 0), (6, 455, 0)]) (p2 := 37) rfl rfl rfl rfl (x_rcv_s 455 (x_KS_455 hK17)) rfl (k_plain_7w hc63 hm18.1.choose_spec hK17 (by omega) (by omega) hm18.2.1 (x_PS_N hm18) (by omega) (by omega)) rfl (fun φ20 n20 sl20 hn20 hN20 hs20 hT20 hR20 => ?_)
  obtain ⟨v20, hK20, hV20, frn20⟩ := hR20
  rw [if_pos h1] at hV20
  refine x_n_lt (fun hlt21 => ?_)
  have hz22 := x_mv_lt hV20 hlt21
  have hy22 := hV20.1
  refine q_goto rfl ?_
  refine q_iinc (z := 2) (loc2 := [(6, 455, 0), (0, 60, 0), (6, 225, 0), (0, 2, 0), (0, 7, 0)]) (p2 := 49) rfl rfl (by decide) rfl rfl ?_
  refine q_goto rfl ?_
  refine q_load (v := (0, 2, 0)) (p2 := 20) rfl rfl rfl rfl ?_
  refine q_const (p2 := 21) rfl rfl ?_
  refine q_icmp_s (p2 := 22) rfl (by decide) (by omega) (by omega) rfl (fun hb => absurd hb (show ¬ (¬ (2 < 1000000)) by omega)) (fun _ => ?_)
  refine q_load (v := (6, 455, 0)) (p2 := 23) rfl rfl rfl rfl ?_
  refine q_getv (v := (0, 1, 0)) (p2 := 24) rfl (x_KS_455 hK20) (by decide) hK20.1.choose_spec.2.2.2.2.2.2.2.2.2.2.2.1 rfl ?_
  refine q_if0_s (p2 := 25) rfl (by decide) (by omega) rfl (fun hb => absurd hb (show ¬ (¬ (0 < 1)) by omega)) (fun _ => ?_)
  refine q_load (v := (6, 455, 0)) (p2 := 26) rfl rfl rfl rfl ?_
  refine q_getv (v := (0, 0, 0)) (p2 := 27) rfl (x_KS_455 hK20) (by decide) hK20.1.choose_spec.2.2.2.2.2.2.2.2.2.2.2.2.2.2.2.2.2.1 rfl ?_
  refine q_if0_s (p2 := 28) rfl (by decide) (by omega) rfl (fun hb => absurd hb (show ¬ (¬ (0 = 0)) by omega)) (fun _ => ?_)
  refine q_load (v := (6, 455, 0)) (p2 := 29) rfl rfl rfl rfl ?_
  have hm23 := (x_PS_at hm18 (fun j hj hne => by have hj2 := x_some_lt hlt19 hne; exact (frn20 j (by omega) (by omega))))
  refine q_callrE (xs := [(6, 455, 0)]) (p2 := 30) rfl rfl rfl rfl (x_rcv_s 455 (x_KS_455 hK20)) rfl (k_fetchw hc64 hm23.1.choose_spec hK20 (by omega)) (Nat.le_refl _) (Nat.le_refl _) rfl (fun φ24 hR24 => ?_)
  obtain ⟨hK24, frn24⟩ := hR24
  refine q_store (loc2 := [(6, 455, 0), (0, 60, 0), (6, 225, 0), (0, 2, 0), (0, 1, 0)]) (p2 := 31) rfl rfl rfl rfl rfl ?_
  refine q_load (v := (0, 1, 0)) (p2 := 32) rfl rfl rfl rfl ?_
  refine q_const (p2 := 33) rfl rfl ?_
  refine q_icmp_s (p2 := 34) rfl (by decide) (by omega) (by omega) rfl (fun hb => absurd hb (show ¬ (10 < 1) by omega)) (fun _ => ?_)
  refine q_load (v := (6, 455, 0)) (p2 := 35) rfl rfl rfl rfl ?_
  refine q_load (v := (0, 1, 0)) (p2 := 36) rfl rfl rfl rfl ?_
  refine x_n_lt (fun hlt26 => ?_)
  have hm25 := (x_PS_at hm23 (fun j hj hne => by have hj2 := x_some_lt hlt21 hne; exact (frn24 j (by omega))))
  refine q_callvB (xs := [(0, 1, 0), (6, 455, 0)]) (p2 := 37) rfl rfl rfl rfl (x_rcv_s 455 (x_KS_455 hK24)) rfl (k_plain_1w hc65 hm25.1.choose_spec hK24 (by omega) (by omega) (by omega) (by omega)) rfl (fun φ27 n27 sl27 hn27 hN27 hs27 hT27 hR27 => ?_)
  obtain ⟨hK27, frn27⟩ := hR27
  refine q_goto rfl ?_
  refine q_iinc (z := 3) (loc2 := [(6, 455, 0), (0, 60, 0), (6, 225, 0), (0, 3, 0), (0, 1, 0)]) (p2 := 49) rfl rfl (by decide) rfl rfl ?_
  refine q_goto rfl ?_
  refine q_load (v := (0, 3, 0)) (p2 := 20) rfl rfl rfl rfl ?_
  refine q_const (p2 := 21) rfl rfl ?_
  refine q_icmp_s (p2 := 22) rfl (by decide) (by omega) (by omega) rfl (fun hb => absurd hb (show ¬ (¬ (3 < 1000000)) by omega)) (fun _ => ?_)
  refine q_load (v := (6, 455, 0)) (p2 := 23) rfl rfl rfl rfl ?_
  refine q_getv (v := (0, 1, 0)) (p2 := 24) rfl (x_KS_455 hK27) (by decide) hK27.1.choose_spec.2.2.2.2.2.2.2.2.2.2.2.1 rfl ?_
  refine q_if0_s (p2 := 25) rfl (by decide) (by omega) rfl (fun hb => absurd hb (show ¬ (¬ (0 < 1)) by omega)) (fun _ => ?_)
  refine q_load (v := (6, 455, 0)) (p2 := 26) rfl rfl rfl rfl ?_
  refine q_getv (v := (0, 0, 0)) (p2 := 27) rfl (x_KS_455 hK27) (by decide) hK27.1.choose_spec.2.2.2.2.2.2.2.2.2.2.2.2.2.2.2.2.2.1 rfl ?_
  refine q_if0_s (p2 := 28) rfl (by decide) (by omega) rfl (fun hb => absurd hb (show ¬ (¬ (0 = 0)) by omega)) (fun _ => ?_)
  refine q_load (v := (6, 455, 0)) (p2 := 29) rfl rfl rfl rfl ?_
  refine x_n_lt (fun hlt29 => ?_)
  have hm28 := (x_PS_at hm25 (fun j hj hne => by have hj2 := x_some_lt hlt26 hne; exact (frn27 j (by omega))))
  refine q_callrE (xs := [(6, 455, 0)]) (p2 := 30) rfl rfl rfl rfl (x_rcv_s 455 (x_KS_455 hK27)) rfl (k_fetchw hc66 hm28.1.choose_spec hK27 (by omega)) (Nat.le_refl _) (Nat.le_refl _) rfl (fun φ30 hR30 => ?_)
  obtain ⟨hK30, frn30⟩ := hR30
  refine q_store (loc2 := [(6, 455, 0), (0, 60, 0), (6, 225, 0), (0, 3, 0), (0, 7, 0)]) (p2 := 31) rfl rfl rfl rfl rfl ?_
  refine q_load (v := (0, 7, 0)) (p2 := 32) rfl rfl rfl rfl ?_
  refine q_const (p2 := 33) rfl rfl ?_
  refine q_icmp_s (p2 := 34) rfl (by decide) (by omega) (by omega) rfl (fun hb => absurd hb (show ¬ (10 < 7) by omega)) (fun _ => ?_)
  refine q_load (v := (6, 455, 0)) (p2 := 35) rfl rfl rfl rfl ?_
  refine q_load (v := (0, 7, 0)) (p2 := 36) rfl rfl rfl rfl ?_
  refine x_n_lt (fun hlt32 => ?_)
  have hm31 := (x_PS_at hm28 (fun j hj hne => by have hj2 := x_some_lt hlt29 hne; exact (frn30 j (by omega))))
  refine q_callvB (xs := [(0, 7, 0), (6, 455, 0)]) (p2 := 37) rfl rfl rfl rfl (x_rcv_s 455 (x_KS_455 hK30)) rfl (k_plain_7w hc67 hm31.1.choose_spec hK30 (by omega) (by omega) hm31.2.1 (x_PS_N hm31) (by omega) (by omega)) rfl (fun φ33 n33 sl33 hn33 hN33 hs33 hT33 hR33 => ?_)
  obtain ⟨v33, hK33, hV33, frn33⟩ := hR33
  rw [if_pos h2] at hV33
  refine x_n_lt (fun hlt34 => ?_)
  have hz35 := x_mv_lt hV33 hlt34
  have hy35 := hV33.1
  refine q_goto rfl ?_
  refine q_iinc (z := 4) (loc2 := [(6, 455, 0), (0, 60, 0), (6, 225, 0), (0, 4, 0), (0, 7, 0)]) (p2 := 49) rfl rfl (by decide) rfl rfl ?_
  refine q_goto rfl ?_
  refine q_load (v := (0, 4, 0)) (p2 := 20) rfl rfl rfl rfl ?_
  refine q_const (p2 := 21) rfl rfl ?_
  refine q_icmp_s (p2 := 22) rfl (by decide) (by omega) (by omega) rfl (fun hb => absurd hb (show ¬ (¬ (4 < 1000000)) by omega)) (fun _ => ?_)
  refine q_load (v := (6, 455, 0)) (p2 := 23) rfl rfl rfl rfl ?_
  refine q_getv (v := (0, 1, 0)) (p2 := 24) rfl (x_KS_455 hK33) (by decide) hK33.1.choose_spec.2.2.2.2.2.2.2.2.2.2.2.1 rfl ?_
  refine q_if0_s (p2 := 25) rfl (by decide) (by omega) rfl (fun hb => absurd hb (show ¬ (¬ (0 < 1)) by omega)) (fun _ => ?_)
  refine q_load (v := (6, 455, 0)) (p2 := 26) rfl rfl rfl rfl ?_
  refine q_getv (v := (0, 0, 0)) (p2 := 27) rfl (x_KS_455 hK33) (by decide) hK33.1.choose_spec.2.2.2.2.2.2.2.2.2.2.2.2.2.2.2.2.2.1 rfl ?_
  refine q_if0_s (p2 := 28) rfl (by decide) (by omega) rfl (fun hb => absurd hb (show ¬ (¬ (0 = 0)) by omega)) (fun _ => ?_)
  refine q_load (v := (6, 455, 0)) (p2 := 29) rfl rfl rfl rfl ?_
  have hm36 := (x_PS_at hm31 (fun j hj hne => by have hj2 := x_some_lt hlt32 hne; exact (frn33 j (by omega) (by omega))))
  refine q_callrE (xs := [(6, 455, 0)]) (p2 := 30) rfl rfl rfl rfl (x_rcv_s 455 (x_KS_455 hK33)) rfl (k_fetchw hc68 hm36.1.choose_spec hK33 (by omega)) (Nat.le_refl _) (Nat.le_refl _) rfl (fun φ37 hR37 => ?_)
  obtain ⟨hK37, frn37⟩ := hR37
  refine q_store (loc2 := [(6, 455, 0), (0, 60, 0), (6, 225, 0), (0, 4, 0), (0, 15, 0)]) (p2 := 31) rfl rfl rfl rfl rfl ?_
  refine q_load (v := (0, 15, 0)) (p2 := 32) rfl rfl rfl rfl ?_
  refine q_const (p2 := 33) rfl rfl ?_
  refine q_icmp_s (p2 := 34) rfl (by decide) (by omega) (by omega) rfl (fun _ => ?_) (fun hb => absurd (show 10 < 15 by omega) hb)
  refine q_load (v := (0, 15, 0)) (p2 := 39) rfl rfl rfl rfl ?_
  refine q_const (p2 := 40) rfl rfl ?_
  refine q_icmp_s (p2 := 41) rfl (by decide) (by omega) (by omega) rfl (fun hb => absurd hb (show ¬ (19 < 15) by omega)) (fun _ => ?_)
  refine q_load (v := (6, 455, 0)) (p2 := 42) rfl rfl rfl rfl ?_
  refine q_load (v := (0, 15, 0)) (p2 := 43) rfl rfl rfl rfl ?_
  refine x_n_lt (fun hlt39 => ?_)
  have hm38 := (x_PS_at hm36 (fun j hj hne => by have hj2 := x_some_lt hlt34 hne; exact (frn37 j (by omega))))
  have hv40 := x_mv_at hV33 (fun j hj hne => by have hj2 := x_some_lt hlt34 hne; exact (frn37 j (by omega)))
  have hv41 := x_mv_at hV20 (fun j hj hne => by have hj2 := x_some_lt hlt21 hne; exact ((frn37 j (by omega)).trans ((frn33 j (by omega) (by omega)).trans ((frn30 j (by omega)).trans ((frn27 j (by omega)).trans (frn24 j (by omega)))))))
  refine q_callvB (xs := [(0, 15, 0), (6, 455, 0)]) (p2 := 44) rfl rfl rfl rfl (x_rcv_s 455 (x_KS_455 hK37)) rfl (k_op_15_64 (top := 0) hm38.1.choose_spec hK37 (by omega) (by omega) (by omega) (x_row_at2 hL ((frn37 A (by omega)).trans ((frn33 A (by omega) (by omega)).trans ((frn30 A (by omega)).trans ((frn27 A (by omega)).trans ((frn24 A (by omega)).trans ((frn20 A (by omega) (by omega)).trans ((frn17 A (by omega)).trans ((frn14 A (by omega)).trans ((frn11 A (by omega)).trans ((frn8 A (by omega)).trans ((fr4 A (by omega)).trans ((fr3 A (by omega)).trans ((fr2 A (by omega)).trans (fr1 A (by omega)))))))))))))))) hv41 hv40 hc69 ⟨fun h => absurd h (by show ¬ (5 = 6); decide), by show (5 : Nat) ≠ 2; decide⟩ ⟨fun h => absurd h (by show ¬ (5 = 6); decide), by show (5 : Nat) ≠ 2; decide⟩ (Or.inr rfl) (Or.inr rfl) (by omega)) rfl (fun φ42 n42 sl42 hn42 hN42 hs42 hT42 hR42 => ?_)
  obtain ⟨v42, hK42, hV42, frn42⟩ := hR42
  rw [if_neg (by show ¬ (5 = 0 ∨ 5 = 0); decide)] at hV42
  refine x_n_lt (fun hlt43 => ?_)
  have hz44 := x_mv_lt hV42 hlt43
  have hy44 := hV42.1
  refine q_goto rfl ?_
  refine q_iinc (z := 5) (loc2 := [(6, 455, 0), (0, 60, 0), (6, 225, 0), (0, 5, 0), (0, 15, 0)]) (p2 := 49) rfl rfl (by decide) rfl rfl ?_
  refine q_goto rfl ?_
  refine q_load (v := (0, 5, 0)) (p2 := 20) rfl rfl rfl rfl ?_
  refine q_const (p2 := 21) rfl rfl ?_
  refine q_icmp_s (p2 := 22) rfl (by decide) (by omega) (by omega) rfl (fun hb => absurd hb (show ¬ (¬ (5 < 1000000)) by omega)) (fun _ => ?_)
  refine q_load (v := (6, 455, 0)) (p2 := 23) rfl rfl rfl rfl ?_
  refine q_getv (v := (0, 1, 0)) (p2 := 24) rfl (x_KS_455 hK42) (by decide) hK42.1.choose_spec.2.2.2.2.2.2.2.2.2.2.2.1 rfl ?_
  refine q_if0_s (p2 := 25) rfl (by decide) (by omega) rfl (fun hb => absurd hb (show ¬ (¬ (0 < 1)) by omega)) (fun _ => ?_)
  refine q_load (v := (6, 455, 0)) (p2 := 26) rfl rfl rfl rfl ?_
  refine q_getv (v := (0, 0, 0)) (p2 := 27) rfl (x_KS_455 hK42) (by decide) hK42.1.choose_spec.2.2.2.2.2.2.2.2.2.2.2.2.2.2.2.2.2.1 rfl ?_
  refine q_if0_s (p2 := 28) rfl (by decide) (by omega) rfl (fun hb => absurd hb (show ¬ (¬ (0 = 0)) by omega)) (fun _ => ?_)
  refine q_load (v := (6, 455, 0)) (p2 := 29) rfl rfl rfl rfl ?_
  have hm45 := (x_PS_at hm38 (fun j hj hne => by have hj2 := x_some_lt hlt39 hne; exact (frn42 j (by omega) (by omega))))
  refine q_callrE (xs := [(6, 455, 0)]) (p2 := 30) rfl rfl rfl rfl (x_rcv_s 455 (x_KS_455 hK42)) rfl (k_fetchw hc70 hm45.1.choose_spec hK42 (by omega)) (Nat.le_refl _) (Nat.le_refl _) rfl (fun φ46 hR46 => ?_)
  obtain ⟨hK46, frn46⟩ := hR46
  refine q_store (loc2 := [(6, 455, 0), (0, 60, 0), (6, 225, 0), (0, 5, 0), (0, 31, 0)]) (p2 := 31) rfl rfl rfl rfl rfl ?_
  refine q_load (v := (0, 31, 0)) (p2 := 32) rfl rfl rfl rfl ?_
  refine q_const (p2 := 33) rfl rfl ?_
  refine q_icmp_s (p2 := 34) rfl (by decide) (by omega) (by omega) rfl (fun _ => ?_) (fun hb => absurd (show 10 < 31 by omega) hb)
  refine q_load (v := (0, 31, 0)) (p2 := 39) rfl rfl rfl rfl ?_
  refine q_const (p2 := 40) rfl rfl ?_
  refine q_icmp_s (p2 := 41) rfl (by decide) (by omega) (by omega) rfl (fun _ => ?_) (fun hb => absurd (show 19 < 31 by omega) hb)
  refine q_load (v := (6, 455, 0)) (p2 := 46) rfl rfl rfl rfl ?_
  refine q_load (v := (0, 31, 0)) (p2 := 47) rfl rfl rfl rfl ?_
  refine x_n_lt (fun hlt48 => ?_)
  have hm47 := (x_PS_at hm45 (fun j hj hne => by have hj2 := x_some_lt hlt43 hne; exact (frn46 j (by omega))))
  have hv49 := x_mv_at hV42 (fun j hj hne => by have hj2 := x_some_lt hlt43 hne; exact (frn46 j (by omega)))
  refine q_callvB (xs := [(0, 31, 0), (6, 455, 0)]) (p2 := 48) rfl rfl rfl rfl (x_rcv_s 455 (x_KS_455 hK46)) rfl (k_lead_31 (top := 0) (fr := 0) hm47.1.choose_spec hK46 (by omega) (by omega) hv49 (Or.inl rfl) (by omega) (by show (0 : Nat) < 4096; decide)) rfl (fun φ50 n50 sl50 hn50 hN50 hs50 hT50 hR50 => ?_)
  obtain ⟨hK50, frn50⟩ := hR50
  refine q_iinc (z := 6) (loc2 := [(6, 455, 0), (0, 60, 0), (6, 225, 0), (0, 6, 0), (0, 31, 0)]) (p2 := 49) rfl rfl (by decide) rfl rfl ?_
  refine q_goto rfl ?_
  refine q_load (v := (0, 6, 0)) (p2 := 20) rfl rfl rfl rfl ?_
  refine q_const (p2 := 21) rfl rfl ?_
  refine q_icmp_s (p2 := 22) rfl (by decide) (by omega) (by omega) rfl (fun hb => absurd hb (show ¬ (¬ (6 < 1000000)) by omega)) (fun _ => ?_)
  refine q_load (v := (6, 455, 0)) (p2 := 23) rfl rfl rfl rfl ?_
  refine q_getv (v := (0, 0, 0)) (p2 := 24) rfl (x_KS_455 hK50) (by decide) hK50.1.choose_spec.2.2.2.2.2.2.2.2.2.2.2.1 rfl ?_
  refine q_if0_s (p2 := 25) rfl (by decide) (by omega) rfl (fun _ => ?_) (fun hb => absurd (show ¬ (0 < 0) by omega) hb)
  refine q_load (v := (6, 455, 0)) (p2 := 51) rfl rfl rfl rfl ?_
  refine q_getv (v := (0, 0, 0)) (p2 := 52) rfl (x_KS_455 hK50) (by decide) hK50.1.choose_spec.2.2.2.2.2.2.2.2.2.2.2.2.2.2.2.2.2.1 rfl ?_
  refine q_if0_s (p2 := 53) rfl (by decide) (by omega) rfl (fun _ => ?_) (fun hb => absurd (show 0 = 0 by omega) hb)
  refine q_load (v := (6, 455, 0)) (p2 := 57) rfl rfl rfl rfl ?_
  refine q_callrE (xs := [(6, 455, 0)]) (p2 := 58) rfl rfl rfl rfl (x_rcv_s 455 (x_KS_455 hK50)) rfl (k_pop (top := 0) hK50 (by omega)) (Nat.le_refl _) (Nat.le_refl _) rfl (fun φ51 hR51 => ?_)
  obtain ⟨hK51, frn51⟩ := hR51
  refine x_n_lt (fun hlt53 => ?_)
  have hv52 := x_mv_at hv49 (fun j hj hne => by have hj2 := x_some_lt hlt48 hne; exact ((frn51 j (by omega)).trans (frn50 j (by omega))))
  exact q_retv (v := (6, v42, 0)) rfl rfl (⟨rfl, ⟨by omega, by omega⟩, ⟨by omega, by omega⟩, v42, rfl, ⟨_, _, _, _, _, _, _, _, _, _, hK51⟩, hv52, fun j hj1 hj2 => ((frn51 j (by omega)).trans ((frn50 j (by omega)).trans ((frn46 j (by omega)).trans ((frn42 j (by omega) (by omega)).trans ((frn37 j (by omega)).trans ((frn33 j (by omega) (by omega)).trans ((frn30 j (by omega)).trans ((frn27 j (by omega)).trans ((frn24 j (by omega)).trans ((frn20 j (by omega) (by omega)).trans ((frn17 j (by omega)).trans ((frn14 j (by omega)).trans ((frn11 j (by omega)).trans ((frn8 j (by omega)).trans ((fr4 j (by omega)).trans ((fr3 j (by omega)).trans ((fr2 j (by omega)).trans (fr1 j (by omega)))))))))))))))))))⟩)
set_option maxHeartbeats 1000000 in
theorem zc_run_list_yn {d n sl : Nat} {φ : FH} {A : Nat} {B : Nat} {made : Nat} {sv : Nat} {svm : Nat} {s9 : Nat} {comb : Nat → Nat} {hm : Nat → MV} {top : Nat} {fr : Nat} {pc_ : Nat} {mm : Nat} {mi : Nat} {st : Nat → Nat} {lo : Nat → Nat} {re : Nat → Nat} {rs : Nat → Nat} {fl : Nat → Nat} {se : Nat → Nat} {co : Nat → Nat} {w1 w2 : Nat} (hPS : x_PS φ A B made sv svm s9 comb hm) (hKS : x_KS φ top fr pc_ mm mi st lo re rs fl se co) (hn0 : 486 ≤ n) (hmi : mi + 30 ≤ 20000) (hc60 : co 60 = 1) (hc61 : co 61 = 1) (hc62 : co 62 = 1) (hc63 : co 63 = 1) (hc64 : co 64 = 7) (hc65 : co 65 = w1) (hc66 : co 66 = 3) (hc67 : co 67 = 1) (hc68 : co 68 = 1) (hc69 : co 69 = 1) (hc70 : co 70 = 7) (hc71 : co 71 = w2) (hc72 : co 72 = 3) (hc73 : co 73 = 1) (hc74 : co 74 = 18) (hc75 : co 75 = 2) (hc76 : co 76 = 31) (hw1 : w1 < 512) (hw2 : w2 < 512) (h1 : w1 < made ∧ comb w1 ≠ 0) (h2 : ¬ (w2 < made ∧ comb w2 ≠ 0)) : x_f x_P (d + 6) 56 [(6, 455, 0), (0, 60, 0), (6, 225, 0), (11, 0, 0), (11, 0, 0)] φ n sl (x_bR n sl 5 52 (fun zw φ2 => ∃ v, zw = (6, v, 0) ∧ x_KJ φ2 (mi + 3) co ∧ x_mv φ2 v (MV0) ∧ ∀ j, j < n → (j < 455 ∨ 466 ≤ j) → φ2 j = φ j)) := by
  refine x_f_of rfl ?_
  refine x_n_lt (fun hlt0 => ?_)
  refine q_load (v := (6, 455, 0)) (p2 := 1) rfl rfl rfl rfl ?_
  refine q_const (p2 := 2) rfl rfl ?_
  refine q_putfE (v := (0, 0, 0)) (p2 := 3) rfl (x_KS_455 hKS) (by decide) rfl rfl (fun φ1 f1 hh1 hg1 ho1 fr1 => ?_)
  have hs1 := x_KS_put_18 hKS hh1 hg1 ho1 fr1
  refine q_load (v := (6, 455, 0)) (p2 := 4) rfl rfl rfl rfl ?_
  refine q_const (p2 := 5) rfl rfl ?_
  refine q_putfE (v := (0, 0, 0)) (p2 := 6) rfl (x_KS_455 hs1) (by decide) rfl rfl (fun φ2 f2 hh2 hg2 ho2 fr2 => ?_)
  have hs2 := x_KS_put_16 hs1 hh2 hg2 ho2 fr2
  refine q_load (v := (6, 455, 0)) (p2 := 7) rfl rfl rfl rfl ?_
  refine q_const (p2 := 8) rfl rfl ?_
  refine q_putfE (v := (0, 0, 0)) (p2 := 9) rfl (x_KS_455 hs2) (by decide) rfl rfl (fun φ3 f3 hh3 hg3 ho3 fr3 => ?_)
  have hs3 := x_KS_put_4 hs2 hh3 hg3 ho3 fr3
  refine q_load (v := (6, 455, 0)) (p2 := 10) rfl rfl rfl rfl ?_
  refine q_const (p2 := 11) rfl rfl ?_
  refine q_putfE (v := (0, 0, 0)) (p2 := 12) rfl (x_KS_455 hs3) (by decide) rfl rfl (fun φ4 f4 hh4 hg4 ho4 fr4 => ?_)
  have hs4 := x_KS_put_10 hs3 hh4 hg4 ho4 fr4
  refine q_load (v := (6, 455, 0)) (p2 := 13) rfl rfl rfl rfl ?_
  refine q_load (v := (0, 60, 0)) (p2 := 14) rfl rfl rfl rfl ?_
  refine q_const (p2 := 15) rfl rfl ?_
  refine q_load (v := (6, 225, 0)) (p2 := 16) rfl rfl rfl rfl ?_
  refine x_n_lt (fun hlt6 => ?_)
  have hm5 := (x_PS_at hPS (fun j hj hne => by have hj2 := x_some_lt hlt0 hne; exact ((fr4 j (by omega)).trans ((fr3 j (by omega)).trans ((fr2 j (by omega)).trans (fr1 j (by omega)))))))
  have hv7 := x_mv_at (x_PS_N hPS) (fun j hj hne => by have hj2 := x_some_lt hlt0 hne; exact ((fr4 j (by omega)).trans ((fr3 j (by omega)).trans ((fr2 j (by omega)).trans (fr1 j (by omega))))))
  refine q_callvE (xs := [(6, 225, 0), (0, 4294967293, 0), (0, 60, 0), (6, 455, 0)]) (p2 := 17) rfl rfl rfl rfl (x_rcv_s 455 (x_KS_455 hs4)) rfl (k_open hs4 (x_PS_N hm5) hv7 (by omega)) (Nat.le_refl _) (Nat.le_refl _) rfl (fun φ8 hR8 => ?_)
  obtain ⟨hK8, frn8⟩ := hR8
  refine q_const (p2 := 18) rfl rfl ?_
  refine q_store (loc2 := [(6, 455, 0), (0, 60, 0), (6, 225, 0), (0, 0, 0), (11, 0, 0)]) (p2 := 19) rfl rfl rfl rfl rfl ?_
  refine q_load (v := (0, 0, 0)) (p2 := 20) rfl rfl rfl rfl ?_
  refine q_const (p2 := 21) rfl rfl ?_
  refine q_icmp_s (p2 := 22) rfl (by decide) (by omega) (by omega) rfl (fun hb => absurd hb (show ¬ (¬ (0 < 1000000)) by omega)) (fun _ => ?_)
  refine q_load (v := (6, 455, 0)) (p2 := 23) rfl rfl rfl rfl ?_
  refine q_getv (v := (0, 1, 0)) (p2 := 24) rfl (x_KS_455 hK8) (by decide) hK8.1.choose_spec.2.2.2.2.2.2.2.2.2.2.2.1 rfl ?_
  refine q_if0_s (p2 := 25) rfl (by decide) (by omega) rfl (fun hb => absurd hb (show ¬ (¬ (0 < 1)) by omega)) (fun _ => ?_)
  refine q_load (v := (6, 455, 0)) (p2 := 26) rfl rfl rfl rfl ?_
  refine q_getv (v := (0, 0, 0)) (p2 := 27) rfl (x_KS_455 hK8) (by decide) hK8.1.choose_spec.2.2.2.2.2.2.2.2.2.2.2.2.2.2.2.2.2.1 rfl ?_
  refine q_if0_s (p2 := 28) rfl (by decide) (by omega) rfl (fun hb => absurd hb (show ¬ (¬ (0 = 0)) by omega)) (fun _ => ?_)
  refine q_load (v := (6, 455, 0)) (p2 := 29) rfl rfl rfl rfl ?_
  refine x_n_lt (fun hlt10 => ?_)
  have hm9 := (x_PS_at hm5 (fun j hj hne => by have hj2 := x_some_lt hlt6 hne; exact (frn8 j (by omega))))
  refine q_callrE (xs := [(6, 455, 0)]) (p2 := 30) rfl rfl rfl rfl (x_rcv_s 455 (x_KS_455 hK8)) rfl (k_fetchw hc60 hm9.1.choose_spec hK8 (by omega)) (Nat.le_refl _) (Nat.le_refl _) rfl (fun φ11 hR11 => ?_)
  obtain ⟨hK11, frn11⟩ := hR11
  refine q_store (loc2 := [(6, 455, 0), (0, 60, 0), (6, 225, 0), (0, 0, 0), (0, 1, 0)]) (p2 := 31) rfl rfl rfl rfl rfl ?_
  refine q_load (v := (0, 1, 0)) (p2 := 32) rfl rfl rfl rfl ?_
  refine q_const (p2 := 33) rfl rfl ?_
  refine q_icmp_s (p2 := 34) rfl (by decide) (by omega) (by omega) rfl (fun hb => absurd hb (show ¬ (10 < 1) by omega)) (fun _ => ?_)
  refine q_load (v := (6, 455, 0)) (p2 := 35) rfl rfl rfl rfl ?_
  refine q_load (v := (0, 1, 0)) (p2 := 36) rfl rfl rfl rfl ?_
  refine x_n_lt (fun hlt13 => ?_)
  have hm12 := (x_PS_at hm9 (fun j hj hne => by have hj2 := x_some_lt hlt10 hne; exact (frn11 j (by omega))))
  refine q_callvB (xs := [(0, 1, 0), (6, 455, 0)]) (p2 := 37) rfl rfl rfl rfl (x_rcv_s 455 (x_KS_455 hK11)) rfl (k_plain_1w hc61 hm12.1.choose_spec hK11 (by omega) (by omega) (by omega) (by omega)) rfl (fun φ14 n14 sl14 hn14 hN14 hs14 hT14 hR14 => ?_)
  obtain ⟨hK14, frn14⟩ := hR14
  refine q_goto rfl ?_
  refine q_iinc (z := 1) (loc2 := [(6, 455, 0), (0, 60, 0), (6, 225, 0), (0, 1, 0), (0, 1, 0)]) (p2 := 49) rfl rfl (by decide) rfl rfl ?_
  refine q_goto rfl ?_
  refine q_load (v := (0, 1, 0)) (p2 := 20) rfl rfl rfl rfl ?_
  refine q_const (p2 := 21) rfl rfl ?_
  refine q_icmp_s (p2 := 22) rfl (by decide) (by omega) (by omega) rfl (fun hb => absurd hb (show ¬ (¬ (1 < 1000000)) by omega)) (fun _ => ?_)
  refine q_load (v := (6, 455, 0)) (p2 := 23) rfl rfl rfl rfl ?_
  refine q_getv (v := (0, 1, 0)) (p2 := 24) rfl (x_KS_455 hK14) (by decide) hK14.1.choose_spec.2.2.2.2.2.2.2.2.2.2.2.1 rfl ?_
  refine q_if0_s (p2 := 25) rfl (by decide) (by omega) rfl (fun hb => absurd hb (show ¬ (¬ (0 < 1)) by omega)) (fun _ => ?_)
  refine q_load (v := (6, 455, 0)) (p2 := 26) rfl rfl rfl rfl ?_
  refine q_getv (v := (0, 0, 0)) (p2 := 27) rfl (x_KS_455 hK14) (by decide) hK14.1.choose_spec.2.2.2.2.2.2.2.2.2.2.2.2.2.2.2.2.2.1 rfl ?_
  refine q_if0_s (p2 := 28) rfl (by decide) (by omega) rfl (fun hb => absurd hb (show ¬ (¬ (0 = 0)) by omega)) (fun _ => ?_)
  refine q_load (v := (6, 455, 0)) (p2 := 29) rfl rfl rfl rfl ?_
  refine x_n_lt (fun hlt16 => ?_)
  have hm15 := (x_PS_at hm12 (fun j hj hne => by have hj2 := x_some_lt hlt13 hne; exact (frn14 j (by omega))))
  refine q_callrE (xs := [(6, 455, 0)]) (p2 := 30) rfl rfl rfl rfl (x_rcv_s 455 (x_KS_455 hK14)) rfl (k_fetchw hc62 hm15.1.choose_spec hK14 (by omega)) (Nat.le_refl _) (Nat.le_refl _) rfl (fun φ17 hR17 => ?_)
  obtain ⟨hK17, frn17⟩ := hR17
  refine q_store (loc2 := [(6, 455, 0), (0, 60, 0), (6, 225, 0), (0, 1, 0), (0, 1, 0)]) (p2 := 31) rfl rfl rfl rfl rfl ?_
  refine q_load (v := (0, 1, 0)) (p2 := 32) rfl rfl rfl rfl ?_
  refine q_const (p2 := 33) rfl rfl ?_
  refine q_icmp_s (p2 := 34) rfl (by decide) (by omega) (by omega) rfl (fun hb => absurd hb (show ¬ (10 < 1) by omega)) (fun _ => ?_)
  refine q_load (v := (6, 455, 0)) (p2 := 35) rfl rfl rfl rfl ?_
  refine q_load (v := (0, 1, 0)) (p2 := 36) rfl rfl rfl rfl ?_
  refine x_n_lt (fun hlt19 => ?_)
  have hm18 := (x_PS_at hm15 (fun j hj hne => by have hj2 := x_some_lt hlt16 hne; exact (frn17 j (by omega))))
  refine q_callvB (xs := [(0, 1, 0), (6, 455, 0)]) (p2 := 37) rfl rfl rfl rfl (x_rcv_s 455 (x_KS_455 hK17)) rfl (k_plain_1w hc63 hm18.1.choose_spec hK17 (by omega) (by omega) (by omega) (by omega)) rfl (fun φ20 n20 sl20 hn20 hN20 hs20 hT20 hR20 => ?_)
  obtain ⟨hK20, frn20⟩ := hR20
  refine q_goto rfl ?_
  refine q_iinc (z := 2) (loc2 := [(6, 455, 0), (0, 60, 0), (6, 225, 0), (0, 2, 0), (0, 1, 0)]) (p2 := 49) rfl rfl (by decide) rfl rfl ?_
  refine q_goto rfl ?_
  refine q_load (v := (0, 2, 0)) (p2 := 20) rfl rfl rfl rfl ?_
  refine q_const (p2 := 21) rfl rfl ?_
  refine q_icmp_s (p2 := 22) rfl (by decide) (by omega) (by omega) rfl (fun hb => absurd hb (show ¬ (¬ (2 < 1000000)) by omega)) (fun _ => ?_)
  refine q_load (v := (6, 455, 0)) (p2 := 23) rfl rfl rfl rfl ?_
  refine q_getv (v := (0, 1, 0)) (p2 := 24) rfl (x_KS_455 hK20) (by decide) hK20.1.choose_spec.2.2.2.2.2.2.2.2.2.2.2.1 rfl ?_
  refine q_if0_s (p2 := 25) rfl (by decide) (by omega) rfl (fun hb => absurd hb (show ¬ (¬ (0 < 1)) by omega)) (fun _ => ?_)
  refine q_load (v := (6, 455, 0)) (p2 := 26) rfl rfl rfl rfl ?_
  refine q_getv (v := (0, 0, 0)) (p2 := 27) rfl (x_KS_455 hK20) (by decide) hK20.1.choose_spec.2.2.2.2.2.2.2.2.2.2.2.2.2.2.2.2.2.1 rfl ?_
  refine q_if0_s (p2 := 28) rfl (by decide) (by omega) rfl (fun hb => absurd hb (show ¬ (¬ (0 = 0)) by omega)) (fun _ => ?_)
  refine q_load (v := (6, 455, 0)) (p2 := 29) rfl rfl rfl rfl ?_
  refine x_n_lt (fun hlt22 => ?_)
  have hm21 := (x_PS_at hm18 (fun j hj hne => by have hj2 := x_some_lt hlt19 hne; exact (frn20 j (by omega))))
  refine q_callrE (xs := [(6, 455, 0)]) (p2 := 30) rfl rfl rfl rfl (x_rcv_s 455 (x_KS_455 hK20)) rfl (k_fetchw hc64 hm21.1.choose_spec hK20 (by omega)) (Nat.le_refl _) (Nat.le_refl _) rfl (fun φ23 hR23 => ?_)
  obtain ⟨hK23, frn23⟩ := hR23
  refine q_store (loc2 := [(6, 455, 0), (0, 60, 0), (6, 225, 0), (0, 2, 0), (0, 7, 0)]) (p2 := 31) rfl rfl rfl rfl rfl ?_
  refine q_load (v := (0, 7, 0)) (p2 := 32) rfl rfl rfl rfl ?_
  refine q_const (p2 := 33) rfl rfl ?_
  refine q_icmp_s (p2 := 34) rfl (by decide) (by omega) (by omega) rfl (fun hb => absurd hb (show ¬ (10 < 7) by omega)) (fun _ => ?_)
  refine q_load (v := (6, 455, 0)) (p2 := 35) rfl rfl rfl rfl ?_
  refine q_load (v := (0, 7, 0)) (p2 := 36) rfl rfl rfl rfl ?_
  refine x_n_lt (fun hlt25 => ?_)
  have hm24 := (x_PS_at hm21 (fun j hj hne => by have hj2 := x_some_lt hlt22 hne; exact (frn23 j (by omega))))
  refine q_callvB (xs := [(0, 7, 0), (6, 455, 0)]) (p2 := 37) rfl rfl rfl rfl (x_rcv_s 455 (x_KS_455 hK23)) rfl (k_plain_7w hc65 hm24.1.choose_spec hK23 (by omega) (by omega) hm24.2.1 (x_PS_N hm24) (by omega) (by omega)) rfl (fun φ26 n26 sl26 hn26 hN26 hs26 hT26 hR26 => ?_)
  obtain ⟨v26, hK26, hV26, frn26⟩ := hR26
  rw [if_pos h1] at hV26
  refine x_n_lt (fun hlt27 => ?_)
  have hz28 := x_mv_lt hV26 hlt27
  have hy28 := hV26.1
  refine q_goto rfl ?_
  refine q_iinc (z := 3) (loc2 := [(6, 455, 0), (0, 60, 0), (6, 225, 0), (0, 3, 0), (0, 7, 0)]) (p2 := 49) rfl rfl (by decide) rfl rfl ?_
  refine q_goto rfl ?_
  refine q_load (v := (0, 3, 0)) (p2 := 20) rfl rfl rfl rfl ?_
  refine q_const (p2 := 21) rfl rfl ?_
  refine q_icmp_s (p2 := 22) rfl (by decide) (by omega) (by omega) rfl (fun hb => absurd hb (show ¬ (¬ (3 < 1000000)) by omega)) (fun _ => ?_)
  refine q_load (v := (6, 455, 0)) (p2 := 23) rfl rfl rfl rfl ?_
  refine q_getv (v := (0, 1, 0)) (p2 := 24) rfl (x_KS_455 hK26) (by decide) hK26.1.choose_spec.2.2.2.2.2.2.2.2.2.2.2.1 rfl ?_
  refine q_if0_s (p2 := 25) rfl (by decide) (by omega) rfl (fun hb => absurd hb (show ¬ (¬ (0 < 1)) by omega)) (fun _ => ?_)
  refine q_load (v := (6, 455, 0)) (p2 := 26) rfl rfl rfl rfl ?_
  refine q_getv (v := (0, 0, 0)) (p2 := 27) rfl (x_KS_455 hK26) (by decide) hK26.1.choose_spec.2.2.2.2.2.2.2.2.2.2.2.2.2.2.2.2.2.1 rfl ?_
  refine q_if0_s (p2 := 28) rfl (by decide) (by omega) rfl (fun hb => absurd hb (show ¬ (¬ (0 = 0)) by omega)) (fun _ => ?_)
  refine q_load (v := (6, 455, 0)) (p2 := 29) rfl rfl rfl rfl ?_
  have hm29 := (x_PS_at hm24 (fun j hj hne => by have hj2 := x_some_lt hlt25 hne; exact (frn26 j (by omega) (by omega))))
  refine q_callrE (xs := [(6, 455, 0)]) (p2 := 30) rfl rfl rfl rfl (x_rcv_s 455 (x_KS_455 hK26)) rfl (k_fetchw hc66 hm29.1.choose_spec hK26 (by omega)) (Nat.le_refl _) (Nat.le_refl _) rfl (fun φ30 hR30 => ?_)
  obtain ⟨hK30, frn30⟩ := hR30
  refine q_store (loc2 := [(6, 455, 0), (0, 60, 0), (6, 225, 0), (0, 3, 0), (0, 3, 0)]) (p2 := 31) rfl rfl rfl rfl rfl ?_
  refine q_load (v := (0, 3, 0)) (p2 := 32) rfl rfl rfl rfl ?_
  refine q_const (p2 := 33) rfl rfl ?_
  refine q_icmp_s (p2 := 34) rfl (by decide) (by omega) (by omega) rfl (fun hb => absurd hb (show ¬ (10 < 3) by omega)) (fun _ => ?_)
  refine q_load (v := (6, 455, 0)) (p2 := 35) rfl rfl rfl rfl ?_
  refine q_load (v := (0, 3, 0)) (p2 := 36) rfl rfl rfl rfl ?_
  refine x_n_lt (fun hlt32 => ?_)
  have hm31 := (x_PS_at hm29 (fun j hj hne => by have hj2 := x_some_lt hlt27 hne; exact (frn30 j (by omega))))
  refine q_callvB (xs := [(0, 3, 0), (6, 455, 0)]) (p2 := 37) rfl rfl rfl rfl (x_rcv_s 455 (x_KS_455 hK30)) rfl (k_plain_3w hc67 hm31.1.choose_spec hK30 (by omega) (by omega) (by omega) (by omega)) rfl (fun φ33 n33 sl33 hn33 hN33 hs33 hT33 hR33 => ?_)
  obtain ⟨v33, hK33, hV33, frn33⟩ := hR33
  refine x_n_lt (fun hlt34 => ?_)
  have hz35 := x_mv_lt hV33 hlt34
  have hy35 := hV33.1
  refine q_goto rfl ?_
  refine q_iinc (z := 4) (loc2 := [(6, 455, 0), (0, 60, 0), (6, 225, 0), (0, 4, 0), (0, 3, 0)]) (p2 := 49) rfl rfl (by decide) rfl rfl ?_
  refine q_goto rfl ?_
  refine q_load (v := (0, 4, 0)) (p2 := 20) rfl rfl rfl rfl ?_
  refine q_const (p2 := 21) rfl rfl ?_
  refine q_icmp_s (p2 := 22) rfl (by decide) (by omega) (by omega) rfl (fun hb => absurd hb (show ¬ (¬ (4 < 1000000)) by omega)) (fun _ => ?_)
  refine q_load (v := (6, 455, 0)) (p2 := 23) rfl rfl rfl rfl ?_
  refine q_getv (v := (0, 1, 0)) (p2 := 24) rfl (x_KS_455 hK33) (by decide) hK33.1.choose_spec.2.2.2.2.2.2.2.2.2.2.2.1 rfl ?_
  refine q_if0_s (p2 := 25) rfl (by decide) (by omega) rfl (fun hb => absurd hb (show ¬ (¬ (0 < 1)) by omega)) (fun _ => ?_)
  refine q_load (v := (6, 455, 0)) (p2 := 26) rfl rfl rfl rfl ?_
  refine q_getv (v := (0, 0, 0)) (p2 := 27) rfl (x_KS_455 hK33) (by decide) hK33.1.choose_spec.2.2.2.2.2.2.2.2.2.2.2.2.2.2.2.2.2.1 rfl ?_
  refine q_if0_s (p2 := 28) rfl (by decide) (by omega) rfl (fun hb => absurd hb (show ¬ (¬ (0 = 0)) by omega)) (fun _ => ?_)
  refine q_load (v := (6, 455, 0)) (p2 := 29) rfl rfl rfl rfl ?_
  have hm36 := (x_PS_at hm31 (fun j hj hne => by have hj2 := x_some_lt hlt32 hne; exact (frn33 j (by omega) (by omega))))
  refine q_callrE (xs := [(6, 455, 0)]) (p2 := 30) rfl rfl rfl rfl (x_rcv_s 455 (x_KS_455 hK33)) rfl (k_fetchw hc68 hm36.1.choose_spec hK33 (by omega)) (Nat.le_refl _) (Nat.le_refl _) rfl (fun φ37 hR37 => ?_)
  obtain ⟨hK37, frn37⟩ := hR37
  refine q_store (loc2 := [(6, 455, 0), (0, 60, 0), (6, 225, 0), (0, 4, 0), (0, 1, 0)]) (p2 := 31) rfl rfl rfl rfl rfl ?_
  refine q_load (v := (0, 1, 0)) (p2 := 32) rfl rfl rfl rfl ?_
  refine q_const (p2 := 33) rfl rfl ?_
  refine q_icmp_s (p2 := 34) rfl (by decide) (by omega) (by omega) rfl (fun hb => absurd hb (show ¬ (10 < 1) by omega)) (fun _ => ?_)
  refine q_load (v := (6, 455, 0)) (p2 := 35) rfl rfl rfl rfl ?_
  refine q_load (v := (0, 1, 0)) (p2 := 36) rfl rfl rfl rfl ?_
  refine x_n_lt (fun hlt39 => ?_)
  have hm38 := (x_PS_at hm36 (fun j hj hne => by have hj2 := x_some_lt hlt34 hne; exact (frn37 j (by omega))))
  refine q_callvB (xs := [(0, 1, 0), (6, 455, 0)]) (p2 := 37) rfl rfl rfl rfl (x_rcv_s 455 (x_KS_455 hK37)) rfl (k_plain_1w hc69 hm38.1.choose_spec hK37 (by omega) (by omega) (by omega) (by omega)) rfl (fun φ40 n40 sl40 hn40 hN40 hs40 hT40 hR40 => ?_)
  obtain ⟨hK40, frn40⟩ := hR40
  refine q_goto rfl ?_
  refine q_iinc (z := 5) (loc2 := [(6, 455, 0), (0, 60, 0), (6, 225, 0), (0, 5, 0), (0, 1, 0)]) (p2 := 49) rfl rfl (by decide) rfl rfl ?_
  refine q_goto rfl ?_
  refine q_load (v := (0, 5, 0)) (p2 := 20) rfl rfl rfl rfl ?_
  refine q_const (p2 := 21) rfl rfl ?_
  refine q_icmp_s (p2 := 22) rfl (by decide) (by omega) (by omega) rfl (fun hb => absurd hb (show ¬ (¬ (5 < 1000000)) by omega)) (fun _ => ?_)
  refine q_load (v := (6, 455, 0)) (p2 := 23) rfl rfl rfl rfl ?_
  refine q_getv (v := (0, 1, 0)) (p2 := 24) rfl (x_KS_455 hK40) (by decide) hK40.1.choose_spec.2.2.2.2.2.2.2.2.2.2.2.1 rfl ?_
  refine q_if0_s (p2 := 25) rfl (by decide) (by omega) rfl (fun hb => absurd hb (show ¬ (¬ (0 < 1)) by omega)) (fun _ => ?_)
  refine q_load (v := (6, 455, 0)) (p2 := 26) rfl rfl rfl rfl ?_
  refine q_getv (v := (0, 0, 0)) (p2 := 27) rfl (x_KS_455 hK40) (by decide) hK40.1.choose_spec.2.2.2.2.2.2.2.2.2.2.2.2.2.2.2.2.2.1 rfl ?_
  refine q_if0_s (p2 := 28) rfl (by decide) (by omega) rfl (fun hb => absurd hb (show ¬ (¬ (0 = 0)) by omega)) (fun _ => ?_)
  refine q_load (v := (6, 455, 0)) (p2 := 29) rfl rfl rfl rfl ?_
  refine x_n_lt (fun hlt42 => ?_)
  have hm41 := (x_PS_at hm38 (fun j hj hne => by have hj2 := x_some_lt hlt39 hne; exact (frn40 j (by omega))))
  refine q_callrE (xs := [(6, 455, 0)]) (p2 := 30) rfl rfl rfl rfl (x_rcv_s 455 (x_KS_455 hK40)) rfl (k_fetchw hc70 hm41.1.choose_spec hK40 (by omega)) (Nat.le_refl _) (Nat.le_refl _) rfl (fun φ43 hR43 => ?_)
  obtain ⟨hK43, frn43⟩ := hR43
  refine q_store (loc2 := [(6, 455, 0), (0, 60, 0), (6, 225, 0), (0, 5, 0), (0, 7, 0)]) (p2 := 31) rfl rfl rfl rfl rfl ?_
  refine q_load (v := (0, 7, 0)) (p2 := 32) rfl rfl rfl rfl ?_
  refine q_const (p2 := 33) rfl rfl ?_
  refine q_icmp_s (p2 := 34) rfl (by decide) (by omega) (by omega) rfl (fun hb => absurd hb (show ¬ (10 < 7) by omega)) (fun _ => ?_)
  refine q_load (v := (6, 455, 0)) (p2 := 35) rfl rfl rfl rfl ?_
  refine q_load (v := (0, 7, 0)) (p2 := 36) rfl rfl rfl rfl ?_
  refine x_n_lt (fun hlt45 => ?_)
  have hm44 := (x_PS_at hm41 (fun j hj hne => by have hj2 := x_some_lt hlt42 hne; exact (frn43 j (by omega))))
  refine q_callvB (xs := [(0, 7, 0), (6, 455, 0)]) (p2 := 37) rfl rfl rfl rfl (x_rcv_s 455 (x_KS_455 hK43)) rfl (k_plain_7w hc71 hm44.1.choose_spec hK43 (by omega) (by omega) hm44.2.1 (x_PS_N hm44) (by omega) (by omega)) rfl (fun φ46 n46 sl46 hn46 hN46 hs46 hT46 hR46 => ?_)
  obtain ⟨v46, hK46, hV46, frn46⟩ := hR46
  rw [if_neg h2] at hV46
  refine x_n_lt (fun hlt47 => ?_)
  have hz48 := x_mv_lt hV46 hlt47
  have hy48 := hV46.1
  refine q_goto rfl ?_
  refine q_iinc (z := 6) (loc2 := [(6, 455, 0), (0, 60, 0), (6, 225, 0), (0, 6, 0), (0, 7, 0)]) (p2 := 49) rfl rfl (by decide) rfl rfl ?_
  refine q_goto rfl ?_
  refine q_load (v := (0, 6, 0)) (p2 := 20) rfl rfl rfl rfl ?_
  refine q_const (p2 := 21) rfl rfl ?_
  refine q_icmp_s (p2 := 22) rfl (by decide) (by omega) (by omega) rfl (fun hb => absurd hb (show ¬ (¬ (6 < 1000000)) by omega)) (fun _ => ?_)
  refine q_load (v := (6, 455, 0)) (p2 := 23) rfl rfl rfl rfl ?_
  refine q_getv (v := (0, 1, 0)) (p2 := 24) rfl (x_KS_455 hK46) (by decide) hK46.1.choose_spec.2.2.2.2.2.2.2.2.2.2.2.1 rfl ?_
  refine q_if0_s (p2 := 25) rfl (by decide) (by omega) rfl (fun hb => absurd hb (show ¬ (¬ (0 < 1)) by omega)) (fun _ => ?_)
  refine q_load (v := (6, 455, 0)) (p2 := 26) rfl rfl rfl rfl ?_
  refine q_getv (v := (0, 0, 0)) (p2 := 27) rfl (x_KS_455 hK46) (by decide) hK46.1.choose_spec.2.2.2.2.2.2.2.2.2.2.2.2.2.2.2.2.2.1 rfl ?_
  refine q_if0_s (p2 := 28) rfl (by decide) (by omega) rfl (fun hb => absurd hb (show ¬ (¬ (0 = 0)) by omega)) (fun _ => ?_)
  refine q_load (v := (6, 455, 0)) (p2 := 29) rfl rfl rfl rfl ?_
  have hm49 := (x_PS_at hm44 (fun j hj hne => by have hj2 := x_some_lt hlt45 hne; exact (frn46 j (by omega) (by omega))))
  refine q_callrE (xs := [(6, 455, 0)]) (p2 := 30) rfl rfl rfl rfl (x_rcv_s 455 (x_KS_455 hK46)) rfl (k_fetchw hc72 hm49.1.choose_spec hK46 (by omega)) (Nat.le_refl _) (Nat.le_refl _) rfl (fun φ50 hR50 => ?_)
  obtain ⟨hK50, frn50⟩ := hR50
  refine q_store (loc2 := [(6, 455, 0), (0, 60, 0), (6, 225, 0), (0, 6, 0), (0, 3, 0)]) (p2 := 31) rfl rfl rfl rfl rfl ?_
  refine q_load (v := (0, 3, 0)) (p2 := 32) rfl rfl rfl rfl ?_
  refine q_const (p2 := 33) rfl rfl ?_
  refine q_icmp_s (p2 := 34) rfl (by decide) (by omega) (by omega) rfl (fun hb => absurd hb (show ¬ (10 < 3) by omega)) (fun _ => ?_)
  refine q_load (v := (6, 455, 0)) (p2 := 35) rfl rfl rfl rfl ?_
  refine q_load (v := (0, 3, 0)) (p2 := 36) rfl rfl rfl rfl ?_
  refine x_n_lt (fun hlt52 => ?_)
  have hm51 := (x_PS_at hm49 (fun j hj hne => by have hj2 := x_some_lt hlt47 hne; exact (frn50 j (by omega))))
  refine q_callvB (xs := [(0, 3, 0), (6, 455, 0)]) (p2 := 37) rfl rfl rfl rfl (x_rcv_s 455 (x_KS_455 hK50)) rfl (k_plain_3w hc73 hm51.1.choose_spec hK50 (by omega) (by omega) (by omega) (by omega)) rfl (fun φ53 n53 sl53 hn53 hN53 hs53 hT53 hR53 => ?_)
  obtain ⟨v53, hK53, hV53, frn53⟩ := hR53
  refine x_n_lt (fun hlt54 => ?_)
  have hz55 := x_mv_lt hV53 hlt54
  have hy55 := hV53.1
  refine q_goto rfl ?_
  refine q_iinc (z := 7) (loc2 := [(6, 455, 0), (0, 60, 0), (6, 225, 0), (0, 7, 0), (0, 3, 0)]) (p2 := 49) rfl rfl (by decide) rfl rfl ?_
  refine q_goto rfl ?_
  refine q_load (v := (0, 7, 0)) (p2 := 20) rfl rfl rfl rfl ?_
  refine q_const (p2 := 21) rfl rfl ?_
  refine q_icmp_s (p2 := 22) rfl (by decide) (by omega) (by omega) rfl (fun hb => absurd hb (show ¬ (¬ (7 < 1000000)) by omega)) (fun _ => ?_)
  refine q_load (v := (6, 455, 0)) (p2 := 23) rfl rfl rfl rfl ?_
  refine q_getv (v := (0, 1, 0)) (p2 := 24) rfl (x_KS_455 hK53) (by decide) hK53.1.choose_spec.2.2.2.2.2.2.2.2.2.2.2.1 rfl ?_
  refine q_if0_s (p2 := 25) rfl (by decide) (by omega) rfl (fun hb => absurd hb (show ¬ (¬ (0 < 1)) by omega)) (fun _ => ?_)
  refine q_load (v := (6, 455, 0)) (p2 := 26) rfl rfl rfl rfl ?_
  refine q_getv (v := (0, 0, 0)) (p2 := 27) rfl (x_KS_455 hK53) (by decide) hK53.1.choose_spec.2.2.2.2.2.2.2.2.2.2.2.2.2.2.2.2.2.1 rfl ?_
  refine q_if0_s (p2 := 28) rfl (by decide) (by omega) rfl (fun hb => absurd hb (show ¬ (¬ (0 = 0)) by omega)) (fun _ => ?_)
  refine q_load (v := (6, 455, 0)) (p2 := 29) rfl rfl rfl rfl ?_
  have hm56 := (x_PS_at hm51 (fun j hj hne => by have hj2 := x_some_lt hlt52 hne; exact (frn53 j (by omega) (by omega))))
  refine q_callrE (xs := [(6, 455, 0)]) (p2 := 30) rfl rfl rfl rfl (x_rcv_s 455 (x_KS_455 hK53)) rfl (k_fetchw hc74 hm56.1.choose_spec hK53 (by omega)) (Nat.le_refl _) (Nat.le_refl _) rfl (fun φ57 hR57 => ?_)
  obtain ⟨hK57, frn57⟩ := hR57
  refine q_store (loc2 := [(6, 455, 0), (0, 60, 0), (6, 225, 0), (0, 7, 0), (0, 18, 0)]) (p2 := 31) rfl rfl rfl rfl rfl ?_
  refine q_load (v := (0, 18, 0)) (p2 := 32) rfl rfl rfl rfl ?_
  refine q_const (p2 := 33) rfl rfl ?_
  refine q_icmp_s (p2 := 34) rfl (by decide) (by omega) (by omega) rfl (fun _ => ?_) (fun hb => absurd (show 10 < 18 by omega) hb)
  refine q_load (v := (0, 18, 0)) (p2 := 39) rfl rfl rfl rfl ?_
  refine q_const (p2 := 40) rfl rfl ?_
  refine q_icmp_s (p2 := 41) rfl (by decide) (by omega) (by omega) rfl (fun hb => absurd hb (show ¬ (19 < 18) by omega)) (fun _ => ?_)
  refine q_load (v := (6, 455, 0)) (p2 := 42) rfl rfl rfl rfl ?_
  refine q_load (v := (0, 18, 0)) (p2 := 43) rfl rfl rfl rfl ?_
  refine x_n_lt (fun hlt59 => ?_)
  have hv58 := x_mv_at hV26 (fun j hj hne => by have hj2 := x_some_lt hlt27 hne; exact ((frn57 j (by omega)).trans ((frn53 j (by omega) (by omega)).trans ((frn50 j (by omega)).trans ((frn46 j (by omega) (by omega)).trans ((frn43 j (by omega)).trans ((frn40 j (by omega)).trans ((frn37 j (by omega)).trans ((frn33 j (by omega) (by omega)).trans (frn30 j (by omega)))))))))))
  have hv60 := x_mv_at hV33 (fun j hj hne => by have hj2 := x_some_lt hlt34 hne; exact ((frn57 j (by omega)).trans ((frn53 j (by omega) (by omega)).trans ((frn50 j (by omega)).trans ((frn46 j (by omega) (by omega)).trans ((frn43 j (by omega)).trans ((frn40 j (by omega)).trans (frn37 j (by omega)))))))))
  have hv61 := x_mv_at hV46 (fun j hj hne => by have hj2 := x_some_lt hlt47 hne; exact ((frn57 j (by omega)).trans ((frn53 j (by omega) (by omega)).trans (frn50 j (by omega)))))
  have hv62 := x_mv_at hV53 (fun j hj hne => by have hj2 := x_some_lt hlt54 hne; exact (frn57 j (by omega)))
  have hm63 := (x_PS_at hm56 (fun j hj hne => by have hj2 := x_some_lt hlt54 hne; exact (frn57 j (by omega))))
  refine q_callvB (xs := [(0, 18, 0), (6, 455, 0)]) (p2 := 44) rfl rfl rfl rfl (x_rcv_s 455 (x_KS_455 hK57)) rfl (zc_kop18_50 (a := w1) (b := 0) hm63 hK57 hc75 (by omega) ((x_s_ne (by decide)).trans ((x_s_ne (by decide)).trans ((x_s_ne (by decide)).trans (x_s_eq)))) ((x_s_ne (by decide)).trans ((x_s_ne (by decide)).trans (x_s_eq))) ((x_s_ne (by decide)).trans (x_s_eq)) (x_s_eq) hv58 hv60 hv61 hv62 (by omega) (by omega) (by omega)) rfl (fun φ64 n64 sl64 hn64 hN64 hs64 hT64 hR64 => ?_)
  obtain ⟨v64, hK64, hV64, frn64⟩ := hR64
  refine x_n_lt (fun hlt65 => ?_)
  have hz66 := x_mv_lt hV64 hlt65
  have hy66 := hV64.1
  refine q_goto rfl ?_
  refine q_iinc (z := 8) (loc2 := [(6, 455, 0), (0, 60, 0), (6, 225, 0), (0, 8, 0), (0, 18, 0)]) (p2 := 49) rfl rfl (by decide) rfl rfl ?_
  refine q_goto rfl ?_
  refine q_load (v := (0, 8, 0)) (p2 := 20) rfl rfl rfl rfl ?_
  refine q_const (p2 := 21) rfl rfl ?_
  refine q_icmp_s (p2 := 22) rfl (by decide) (by omega) (by omega) rfl (fun hb => absurd hb (show ¬ (¬ (8 < 1000000)) by omega)) (fun _ => ?_)
  refine q_load (v := (6, 455, 0)) (p2 := 23) rfl rfl rfl rfl ?_
  refine q_getv (v := (0, 1, 0)) (p2 := 24) rfl (x_KS_455 hK64) (by decide) hK64.1.choose_spec.2.2.2.2.2.2.2.2.2.2.2.1 rfl ?_
  refine q_if0_s (p2 := 25) rfl (by decide) (by omega) rfl (fun hb => absurd hb (show ¬ (¬ (0 < 1)) by omega)) (fun _ => ?_)
  refine q_load (v := (6, 455, 0)) (p2 := 26) rfl rfl rfl rfl ?_
  refine q_getv (v := (0, 0, 0)) (p2 := 27) rfl (x_KS_455 hK64) (by decide) hK64.1.choose_spec.2.2.2.2.2.2.2.2.2.2.2.2.2.2.2.2.2.1 rfl ?_
  refine q_if0_s (p2 := 28) rfl (by decide) (by omega) rfl (fun hb => absurd hb (show ¬ (¬ (0 = 0)) by omega)) (fun _ => ?_)
  refine q_load (v := (6, 455, 0)) (p2 := 29) rfl rfl rfl rfl ?_
  have hm67 := (x_PS_at hm63 (fun j hj hne => by have hj2 := x_some_lt hlt59 hne; exact (frn64 j (by omega) (by omega))))
  refine q_callrE (xs := [(6, 455, 0)]) (p2 := 30) rfl rfl rfl rfl (x_rcv_s 455 (x_KS_455 hK64)) rfl (k_fetchw hc76 hm67.1.choose_spec hK64 (by omega)) (Nat.le_refl _) (Nat.le_refl _) rfl (fun φ68 hR68 => ?_)
  obtain ⟨hK68, frn68⟩ := hR68
  refine q_store (loc2 := [(6, 455, 0), (0, 60, 0), (6, 225, 0), (0, 8, 0), (0, 31, 0)]) (p2 := 31) rfl rfl rfl rfl rfl ?_
  refine q_load (v := (0, 31, 0)) (p2 := 32) rfl rfl rfl rfl ?_
  refine q_const (p2 := 33) rfl rfl ?_
  refine q_icmp_s (p2 := 34) rfl (by decide) (by omega) (by omega) rfl (fun _ => ?_) (fun hb => absurd (show 10 < 31 by omega) hb)
  refine q_load (v := (0, 31, 0)) (p2 := 39) rfl rfl rfl rfl ?_
  refine q_const (p2 := 40) rfl rfl ?_
  refine q_icmp_s (p2 := 41) rfl (by decide) (by omega) (by omega) rfl (fun _ => ?_) (fun hb => absurd (show 19 < 31 by omega) hb)
  refine q_load (v := (6, 455, 0)) (p2 := 46) rfl rfl rfl rfl ?_
  refine q_load (v := (0, 31, 0)) (p2 := 47) rfl rfl rfl rfl ?_
  refine x_n_lt (fun hlt70 => ?_)
  have hm69 := (x_PS_at hm67 (fun j hj hne => by have hj2 := x_some_lt hlt65 hne; exact (frn68 j (by omega))))
  have hv71 := x_mv_at hV64 (fun j hj hne => by have hj2 := x_some_lt hlt65 hne; exact (frn68 j (by omega)))
  refine q_callvB (xs := [(0, 31, 0), (6, 455, 0)]) (p2 := 48) rfl rfl rfl rfl (x_rcv_s 455 (x_KS_455 hK68)) rfl (k_lead_31 (top := 0) (fr := 0) hm69.1.choose_spec hK68 (by omega) (by omega) hv71 (Or.inl rfl) (by omega) (by show (0 : Nat) < 4096; decide)) rfl (fun φ72 n72 sl72 hn72 hN72 hs72 hT72 hR72 => ?_)
  obtain ⟨hK72, frn72⟩ := hR72
  refine q_iinc (z := 9) (loc2 := [(6, 455, 0), (0, 60, 0), (6, 225, 0), (0, 9, 0), (0, 31, 0)]) (p2 := 49) rfl rfl (by decide) rfl rfl ?_
  refine q_goto rfl ?_
  refine q_load (v := (0, 9, 0)) (p2 := 20) rfl rfl rfl rfl ?_
  refine q_const (p2 := 21) rfl rfl ?_
  refine q_icmp_s (p2 := 22) rfl (by decide) (by omega) (by omega) rfl (fun hb => absurd hb (show ¬ (¬ (9 < 1000000)) by omega)) (fun _ => ?_)
  refine q_load (v := (6, 455, 0)) (p2 := 23) rfl rfl rfl rfl ?_
  refine q_getv (v := (0, 0, 0)) (p2 := 24) rfl (x_KS_455 hK72) (by decide) hK72.1.choose_spec.2.2.2.2.2.2.2.2.2.2.2.1 rfl ?_
  refine q_if0_s (p2 := 25) rfl (by decide) (by omega) rfl (fun _ => ?_) (fun hb => absurd (show ¬ (0 < 0) by omega) hb)
  refine q_load (v := (6, 455, 0)) (p2 := 51) rfl rfl rfl rfl ?_
  refine q_getv (v := (0, 0, 0)) (p2 := 52) rfl (x_KS_455 hK72) (by decide) hK72.1.choose_spec.2.2.2.2.2.2.2.2.2.2.2.2.2.2.2.2.2.1 rfl ?_
  refine q_if0_s (p2 := 53) rfl (by decide) (by omega) rfl (fun _ => ?_) (fun hb => absurd (show 0 = 0 by omega) hb)
  refine q_load (v := (6, 455, 0)) (p2 := 57) rfl rfl rfl rfl ?_
  refine q_callrE (xs := [(6, 455, 0)]) (p2 := 58) rfl rfl rfl rfl (x_rcv_s 455 (x_KS_455 hK72)) rfl (k_pop (top := 0) hK72 (by omega)) (Nat.le_refl _) (Nat.le_refl _) rfl (fun φ73 hR73 => ?_)
  obtain ⟨hK73, frn73⟩ := hR73
  refine x_n_lt (fun hlt75 => ?_)
  have hv74 := x_mv_at hv71 (fun j hj hne => by have hj2 := x_some_lt hlt70 hne; exact ((frn73 j (by omega)).trans (frn72 j (by omega))))
  exact q_retv (v := (6, v64, 0)) rfl rfl (⟨rfl, ⟨by omega, by omega⟩, ⟨by omega, by omega⟩, v64, rfl, ⟨_, _, _, _, _, _, _, _, _, _, hK73⟩, hv74, fun j hj1 hj2 => ((frn73 j (by omega)).trans ((frn72 j (by omega)).trans ((frn68 j (by omega)).trans ((frn64 j (by omega) (by omega)).trans ((frn57 j (by omega)).trans ((frn53 j (by omega) (by omega)).trans ((frn50 j (by omega)).trans ((frn46 j (by omega) (by omega)).trans ((frn43 j (by omega)).trans ((frn40 j (by omega)).trans ((frn37 j (by omega)).trans ((frn33 j (by omega) (by omega)).trans ((frn30 j (by omega)).trans ((frn26 j (by omega) (by omega)).trans ((frn23 j (by omega)).trans ((frn20 j (by omega)).trans ((frn17 j (by omega)).trans ((frn14 j (by omega)).trans ((frn11 j (by omega)).trans ((frn8 j (by omega)).trans ((fr4 j (by omega)).trans ((fr3 j (by omega)).trans ((fr2 j (by omega)).trans (fr1 j (by omega)))))))))))))))))))))))))⟩)
set_option maxHeartbeats 1000000 in
theorem zc_run_eq_yn {d n sl : Nat} {φ : FH} {A : Nat} {B : Nat} {made : Nat} {sv : Nat} {svm : Nat} {s9 : Nat} {comb : Nat → Nat} {hm : Nat → MV} {top : Nat} {fr : Nat} {pc_ : Nat} {mm : Nat} {mi : Nat} {st : Nat → Nat} {lo : Nat → Nat} {re : Nat → Nat} {rs : Nat → Nat} {fl : Nat → Nat} {se : Nat → Nat} {co : Nat → Nat} {w1 w2 : Nat} {lik : Nat → Nat} (hPS : x_PS φ A B made sv svm s9 comb hm) (hKS : x_KS φ top fr pc_ mm mi st lo re rs fl se co) (hn0 : 486 ≤ n) (hmi : mi + 30 ≤ 20000) (hc60 : co 60 = 1) (hc61 : co 61 = 2) (hc62 : co 62 = 7) (hc63 : co 63 = w1) (hc64 : co 64 = 1) (hc65 : co 65 = 1) (hc66 : co 66 = 7) (hc67 : co 67 = w2) (hc68 : co 68 = 15) (hc69 : co 69 = 64) (hc70 : co 70 = 31) (hw1 : w1 < 512) (hw2 : w2 < 512) (h1 : w1 < made ∧ comb w1 ≠ 0) (h2 : ¬ (w2 < made ∧ comb w2 ≠ 0)) (hL : x_row φ A lik) (hA : A < 232) : x_f x_P (d + 6) 56 [(6, 455, 0), (0, 60, 0), (6, 225, 0), (11, 0, 0), (11, 0, 0)] φ n sl (x_bR n sl 3 21 (fun zw φ2 => ∃ v, zw = (6, v, 0) ∧ x_KJ φ2 (mi + 3) co ∧ x_mv φ2 v ((3, 1, 0, 0, [])) ∧ ∀ j, j < n → (j < 455 ∨ 466 ≤ j) → φ2 j = φ j)) := by
  refine x_f_of rfl ?_
  refine x_n_lt (fun hlt0 => ?_)
  refine q_load (v := (6, 455, 0)) (p2 := 1) rfl rfl rfl rfl ?_
  refine q_const (p2 := 2) rfl rfl ?_
  refine q_putfE (v := (0, 0, 0)) (p2 := 3) rfl (x_KS_455 hKS) (by decide) rfl rfl (fun φ1 f1 hh1 hg1 ho1 fr1 => ?_)
  have hs1 := x_KS_put_18 hKS hh1 hg1 ho1 fr1
  refine q_load (v := (6, 455, 0)) (p2 := 4) rfl rfl rfl rfl ?_
  refine q_const (p2 := 5) rfl rfl ?_
  refine q_putfE (v := (0, 0, 0)) (p2 := 6) rfl (x_KS_455 hs1) (by decide) rfl rfl (fun φ2 f2 hh2 hg2 ho2 fr2 => ?_)
  have hs2 := x_KS_put_16 hs1 hh2 hg2 ho2 fr2
  refine q_load (v := (6, 455, 0)) (p2 := 7) rfl rfl rfl rfl ?_
  refine q_const (p2 := 8) rfl rfl ?_
  refine q_putfE (v := (0, 0, 0)) (p2 := 9) rfl (x_KS_455 hs2) (by decide) rfl rfl (fun φ3 f3 hh3 hg3 ho3 fr3 => ?_)
  have hs3 := x_KS_put_4 hs2 hh3 hg3 ho3 fr3
  refine q_load (v := (6, 455, 0)) (p2 := 10) rfl rfl rfl rfl ?_
  refine q_const (p2 := 11) rfl rfl ?_
  refine q_putfE (v := (0, 0, 0)) (p2 := 12) rfl (x_KS_455 hs3) (by decide) rfl rfl (fun φ4 f4 hh4 hg4 ho4 fr4 => ?_)
  have hs4 := x_KS_put_10 hs3 hh4 hg4 ho4 fr4
  refine q_load (v := (6, 455, 0)) (p2 := 13) rfl rfl rfl rfl ?_
  refine q_load (v := (0, 60, 0)) (p2 := 14) rfl rfl rfl rfl ?_
  refine q_const (p2 := 15) rfl rfl ?_
  refine q_load (v := (6, 225, 0)) (p2 := 16) rfl rfl rfl rfl ?_
  refine x_n_lt (fun hlt6 => ?_)
  have hm5 := (x_PS_at hPS (fun j hj hne => by have hj2 := x_some_lt hlt0 hne; exact ((fr4 j (by omega)).trans ((fr3 j (by omega)).trans ((fr2 j (by omega)).trans (fr1 j (by omega)))))))
  have hv7 := x_mv_at (x_PS_N hPS) (fun j hj hne => by have hj2 := x_some_lt hlt0 hne; exact ((fr4 j (by omega)).trans ((fr3 j (by omega)).trans ((fr2 j (by omega)).trans (fr1 j (by omega))))))
  refine q_callvE (xs := [(6, 225, 0), (0, 4294967293, 0), (0, 60, 0), (6, 455, 0)]) (p2 := 17) rfl rfl rfl rfl (x_rcv_s 455 (x_KS_455 hs4)) rfl (k_open hs4 (x_PS_N hm5) hv7 (by omega)) (Nat.le_refl _) (Nat.le_refl _) rfl (fun φ8 hR8 => ?_)
  obtain ⟨hK8, frn8⟩ := hR8
  refine q_const (p2 := 18) rfl rfl ?_
  refine q_store (loc2 := [(6, 455, 0), (0, 60, 0), (6, 225, 0), (0, 0, 0), (11, 0, 0)]) (p2 := 19) rfl rfl rfl rfl rfl ?_
  refine q_load (v := (0, 0, 0)) (p2 := 20) rfl rfl rfl rfl ?_
  refine q_const (p2 := 21) rfl rfl ?_
  refine q_icmp_s (p2 := 22) rfl (by decide) (by omega) (by omega) rfl (fun hb => absurd hb (show ¬ (¬ (0 < 1000000)) by omega)) (fun _ => ?_)
  refine q_load (v := (6, 455, 0)) (p2 := 23) rfl rfl rfl rfl ?_
  refine q_getv (v := (0, 1, 0)) (p2 := 24) rfl (x_KS_455 hK8) (by decide) hK8.1.choose_spec.2.2.2.2.2.2.2.2.2.2.2.1 rfl ?_
  refine q_if0_s (p2 := 25) rfl (by decide) (by omega) rfl (fun hb => absurd hb (show ¬ (¬ (0 < 1)) by omega)) (fun _ => ?_)
  refine q_load (v := (6, 455, 0)) (p2 := 26) rfl rfl rfl rfl ?_
  refine q_getv (v := (0, 0, 0)) (p2 := 27) rfl (x_KS_455 hK8) (by decide) hK8.1.choose_spec.2.2.2.2.2.2.2.2.2.2.2.2.2.2.2.2.2.1 rfl ?_
  refine q_if0_s (p2 := 28) rfl (by decide) (by omega) rfl (fun hb => absurd hb (show ¬ (¬ (0 = 0)) by omega)) (fun _ => ?_)
  refine q_load (v := (6, 455, 0)) (p2 := 29) rfl rfl rfl rfl ?_
  refine x_n_lt (fun hlt10 => ?_)
  have hm9 := (x_PS_at hm5 (fun j hj hne => by have hj2 := x_some_lt hlt6 hne; exact (frn8 j (by omega))))
  refine q_callrE (xs := [(6, 455, 0)]) (p2 := 30) rfl rfl rfl rfl (x_rcv_s 455 (x_KS_455 hK8)) rfl (k_fetchw hc60 hm9.1.choose_spec hK8 (by omega)) (Nat.le_refl _) (Nat.le_refl _) rfl (fun φ11 hR11 => ?_)
  obtain ⟨hK11, frn11⟩ := hR11
  refine q_store (loc2 := [(6, 455, 0), (0, 60, 0), (6, 225, 0), (0, 0, 0), (0, 1, 0)]) (p2 := 31) rfl rfl rfl rfl rfl ?_
  refine q_load (v := (0, 1, 0)) (p2 := 32) rfl rfl rfl rfl ?_
  refine q_const (p2 := 33) rfl rfl ?_
  refine q_icmp_s (p2 := 34) rfl (by decide) (by omega) (by omega) rfl (fun hb => absurd hb (show ¬ (10 < 1) by omega)) (fun _ => ?_)
  refine q_load (v := (6, 455, 0)) (p2 := 35) rfl rfl rfl rfl ?_
  refine q_load (v := (0, 1, 0)) (p2 := 36) rfl rfl rfl rfl ?_
  refine x_n_lt (fun hlt13 => ?_)
  have hm12 := (x_PS_at hm9 (fun j hj hne => by have hj2 := x_some_lt hlt10 hne; exact (frn11 j (by omega))))
  refine q_callvB (xs := [(0, 1, 0), (6, 455, 0)]) (p2 := 37) rfl rfl rfl rfl (x_rcv_s 455 (x_KS_455 hK11)) rfl (k_plain_1w hc61 hm12.1.choose_spec hK11 (by omega) (by omega) (by omega) (by omega)) rfl (fun φ14 n14 sl14 hn14 hN14 hs14 hT14 hR14 => ?_)
  obtain ⟨hK14, frn14⟩ := hR14
  refine q_goto rfl ?_
  refine q_iinc (z := 1) (loc2 := [(6, 455, 0), (0, 60, 0), (6, 225, 0), (0, 1, 0), (0, 1, 0)]) (p2 := 49) rfl rfl (by decide) rfl rfl ?_
  refine q_goto rfl ?_
  refine q_load (v := (0, 1, 0)) (p2 := 20) rfl rfl rfl rfl ?_
  refine q_const (p2 := 21) rfl rfl ?_
  refine q_icmp_s (p2 := 22) rfl (by decide) (by omega) (by omega) rfl (fun hb => absurd hb (show ¬ (¬ (1 < 1000000)) by omega)) (fun _ => ?_)
  refine q_load (v := (6, 455, 0)) (p2 := 23) rfl rfl rfl rfl ?_
  refine q_getv (v := (0, 1, 0)) (p2 := 24) rfl (x_KS_455 hK14) (by decide) hK14.1.choose_spec.2.2.2.2.2.2.2.2.2.2.2.1 rfl ?_
  refine q_if0_s (p2 := 25) rfl (by decide) (by omega) rfl (fun hb => absurd hb (show ¬ (¬ (0 < 1)) by omega)) (fun _ => ?_)
  refine q_load (v := (6, 455, 0)) (p2 := 26) rfl rfl rfl rfl ?_
  refine q_getv (v := (0, 0, 0)) (p2 := 27) rfl (x_KS_455 hK14) (by decide) hK14.1.choose_spec.2.2.2.2.2.2.2.2.2.2.2.2.2.2.2.2.2.1 rfl ?_
  refine q_if0_s (p2 := 28) rfl (by decide) (by omega) rfl (fun hb => absurd hb (show ¬ (¬ (0 = 0)) by omega)) (fun _ => ?_)
  refine q_load (v := (6, 455, 0)) (p2 := 29) rfl rfl rfl rfl ?_
  refine x_n_lt (fun hlt16 => ?_)
  have hm15 := (x_PS_at hm12 (fun j hj hne => by have hj2 := x_some_lt hlt13 hne; exact (frn14 j (by omega))))
  refine q_callrE (xs := [(6, 455, 0)]) (p2 := 30) rfl rfl rfl rfl (x_rcv_s 455 (x_KS_455 hK14)) rfl (k_fetchw hc62 hm15.1.choose_spec hK14 (by omega)) (Nat.le_refl _) (Nat.le_refl _) rfl (fun φ17 hR17 => ?_)
  obtain ⟨hK17, frn17⟩ := hR17
  refine q_store (loc2 := [(6, 455, 0), (0, 60, 0), (6, 225, 0), (0, 1, 0), (0, 7, 0)]) (p2 := 31) rfl rfl rfl rfl rfl ?_
  refine q_load (v := (0, 7, 0)) (p2 := 32) rfl rfl rfl rfl ?_
  refine q_const (p2 := 33) rfl rfl ?_
  refine q_icmp_s (p2 := 34) rfl (by decide) (by omega) (by omega) rfl (fun hb => absurd hb (show ¬ (10 < 7) by omega)) (fun _ => ?_)
  refine q_load (v := (6, 455, 0)) (p2 := 35) rfl rfl rfl rfl ?_
  refine q_load (v := (0, 7, 0)) (p2 := 36) rfl rfl rfl rfl ?_
  refine x_n_lt (fun hlt19 => ?_)
  have hm18 := (x_PS_at hm15 (fun j hj hne => by have hj2 := x_some_lt hlt16 hne; exact (frn17 j (by omega))))
  refine q_callvB (xs := [(0, 7, 0), (6, 455, 0)]) (p2 := 37) rfl rfl rfl rfl (x_rcv_s 455 (x_KS_455 hK17)) rfl (k_plain_7w hc63 hm18.1.choose_spec hK17 (by omega) (by omega) hm18.2.1 (x_PS_N hm18) (by omega) (by omega)) rfl (fun φ20 n20 sl20 hn20 hN20 hs20 hT20 hR20 => ?_)
  obtain ⟨v20, hK20, hV20, frn20⟩ := hR20
  rw [if_pos h1] at hV20
  refine x_n_lt (fun hlt21 => ?_)
  have hz22 := x_mv_lt hV20 hlt21
  have hy22 := hV20.1
  refine q_goto rfl ?_
  refine q_iinc (z := 2) (loc2 := [(6, 455, 0), (0, 60, 0), (6, 225, 0), (0, 2, 0), (0, 7, 0)]) (p2 := 49) rfl rfl (by decide) rfl rfl ?_
  refine q_goto rfl ?_
  refine q_load (v := (0, 2, 0)) (p2 := 20) rfl rfl rfl rfl ?_
  refine q_const (p2 := 21) rfl rfl ?_
  refine q_icmp_s (p2 := 22) rfl (by decide) (by omega) (by omega) rfl (fun hb => absurd hb (show ¬ (¬ (2 < 1000000)) by omega)) (fun _ => ?_)
  refine q_load (v := (6, 455, 0)) (p2 := 23) rfl rfl rfl rfl ?_
  refine q_getv (v := (0, 1, 0)) (p2 := 24) rfl (x_KS_455 hK20) (by decide) hK20.1.choose_spec.2.2.2.2.2.2.2.2.2.2.2.1 rfl ?_
  refine q_if0_s (p2 := 25) rfl (by decide) (by omega) rfl (fun hb => absurd hb (show ¬ (¬ (0 < 1)) by omega)) (fun _ => ?_)
  refine q_load (v := (6, 455, 0)) (p2 := 26) rfl rfl rfl rfl ?_
  refine q_getv (v := (0, 0, 0)) (p2 := 27) rfl (x_KS_455 hK20) (by decide) hK20.1.choose_spec.2.2.2.2.2.2.2.2.2.2.2.2.2.2.2.2.2.1 rfl ?_
  refine q_if0_s (p2 := 28) rfl (by decide) (by omega) rfl (fun hb => absurd hb (show ¬ (¬ (0 = 0)) by omega)) (fun _ => ?_)
  refine q_load (v := (6, 455, 0)) (p2 := 29) rfl rfl rfl rfl ?_
  have hm23 := (x_PS_at hm18 (fun j hj hne => by have hj2 := x_some_lt hlt19 hne; exact (frn20 j (by omega) (by omega))))
  refine q_callrE (xs := [(6, 455, 0)]) (p2 := 30) rfl rfl rfl rfl (x_rcv_s 455 (x_KS_455 hK20)) rfl (k_fetchw hc64 hm23.1.choose_spec hK20 (by omega)) (Nat.le_refl _) (Nat.le_refl _) rfl (fun φ24 hR24 => ?_)
  obtain ⟨hK24, frn24⟩ := hR24
  refine q_store (loc2 := [(6, 455, 0), (0, 60, 0), (6, 225, 0), (0, 2, 0), (0, 1, 0)]) (p2 := 31) rfl rfl rfl rfl rfl ?_
  refine q_load (v := (0, 1, 0)) (p2 := 32) rfl rfl rfl rfl ?_
  refine q_const (p2 := 33) rfl rfl ?_
  refine q_icmp_s (p2 := 34) rfl (by decide) (by omega) (by omega) rfl (fun hb => absurd hb (show ¬ (10 < 1) by omega)) (fun _ => ?_)
  refine q_load (v := (6, 455, 0)) (p2 := 35) rfl rfl rfl rfl ?_
  refine q_load (v := (0, 1, 0)) (p2 := 36) rfl rfl rfl rfl ?_
  refine x_n_lt (fun hlt26 => ?_)
  have hm25 := (x_PS_at hm23 (fun j hj hne => by have hj2 := x_some_lt hlt21 hne; exact (frn24 j (by omega))))
  refine q_callvB (xs := [(0, 1, 0), (6, 455, 0)]) (p2 := 37) rfl rfl rfl rfl (x_rcv_s 455 (x_KS_455 hK24)) rfl (k_plain_1w hc65 hm25.1.choose_spec hK24 (by omega) (by omega) (by omega) (by omega)) rfl (fun φ27 n27 sl27 hn27 hN27 hs27 hT27 hR27 => ?_)
  obtain ⟨hK27, frn27⟩ := hR27
  refine q_goto rfl ?_
  refine q_iinc (z := 3) (loc2 := [(6, 455, 0), (0, 60, 0), (6, 225, 0), (0, 3, 0), (0, 1, 0)]) (p2 := 49) rfl rfl (by decide) rfl rfl ?_
  refine q_goto rfl ?_
  refine q_load (v := (0, 3, 0)) (p2 := 20) rfl rfl rfl rfl ?_
  refine q_const (p2 := 21) rfl rfl ?_
  refine q_icmp_s (p2 := 22) rfl (by decide) (by omega) (by omega) rfl (fun hb => absurd hb (show ¬ (¬ (3 < 1000000)) by omega)) (fun _ => ?_)
  refine q_load (v := (6, 455, 0)) (p2 := 23) rfl rfl rfl rfl ?_
  refine q_getv (v := (0, 1, 0)) (p2 := 24) rfl (x_KS_455 hK27) (by decide) hK27.1.choose_spec.2.2.2.2.2.2.2.2.2.2.2.1 rfl ?_
  refine q_if0_s (p2 := 25) rfl (by decide) (by omega) rfl (fun hb => absurd hb (show ¬ (¬ (0 < 1)) by omega)) (fun _ => ?_)
  refine q_load (v := (6, 455, 0)) (p2 := 26) rfl rfl rfl rfl ?_
  refine q_getv (v := (0, 0, 0)) (p2 := 27) rfl (x_KS_455 hK27) (by decide) hK27.1.choose_spec.2.2.2.2.2.2.2.2.2.2.2.2.2.2.2.2.2.1 rfl ?_
  refine q_if0_s (p2 := 28) rfl (by decide) (by omega) rfl (fun hb => absurd hb (show ¬ (¬ (0 = 0)) by omega)) (fun _ => ?_)
  refine q_load (v := (6, 455, 0)) (p2 := 29) rfl rfl rfl rfl ?_
  refine x_n_lt (fun hlt29 => ?_)
  have hm28 := (x_PS_at hm25 (fun j hj hne => by have hj2 := x_some_lt hlt26 hne; exact (frn27 j (by omega))))
  refine q_callrE (xs := [(6, 455, 0)]) (p2 := 30) rfl rfl rfl rfl (x_rcv_s 455 (x_KS_455 hK27)) rfl (k_fetchw hc66 hm28.1.choose_spec hK27 (by omega)) (Nat.le_refl _) (Nat.le_refl _) rfl (fun φ30 hR30 => ?_)
  obtain ⟨hK30, frn30⟩ := hR30
  refine q_store (loc2 := [(6, 455, 0), (0, 60, 0), (6, 225, 0), (0, 3, 0), (0, 7, 0)]) (p2 := 31) rfl rfl rfl rfl rfl ?_
  refine q_load (v := (0, 7, 0)) (p2 := 32) rfl rfl rfl rfl ?_
  refine q_const (p2 := 33) rfl rfl ?_
  refine q_icmp_s (p2 := 34) rfl (by decide) (by omega) (by omega) rfl (fun hb => absurd hb (show ¬ (10 < 7) by omega)) (fun _ => ?_)
  refine q_load (v := (6, 455, 0)) (p2 := 35) rfl rfl rfl rfl ?_
  refine q_load (v := (0, 7, 0)) (p2 := 36) rfl rfl rfl rfl ?_
  refine x_n_lt (fun hlt32 => ?_)
  have hm31 := (x_PS_at hm28 (fun j hj hne => by have hj2 := x_some_lt hlt29 hne; exact (frn30 j (by omega))))
  refine q_callvB (xs := [(0, 7, 0), (6, 455, 0)]) (p2 := 37) rfl rfl rfl rfl (x_rcv_s 455 (x_KS_455 hK30)) rfl (k_plain_7w hc67 hm31.1.choose_spec hK30 (by omega) (by omega) hm31.2.1 (x_PS_N hm31) (by omega) (by omega)) rfl (fun φ33 n33 sl33 hn33 hN33 hs33 hT33 hR33 => ?_)
  obtain ⟨v33, hK33, hV33, frn33⟩ := hR33
  rw [if_neg h2] at hV33
  refine x_n_lt (fun hlt34 => ?_)
  have hz35 := x_mv_lt hV33 hlt34
  have hy35 := hV33.1
  refine q_goto rfl ?_
  refine q_iinc (z := 4) (loc2 := [(6, 455, 0), (0, 60, 0), (6, 225, 0), (0, 4, 0), (0, 7, 0)]) (p2 := 49) rfl rfl (by decide) rfl rfl ?_
  refine q_goto rfl ?_
  refine q_load (v := (0, 4, 0)) (p2 := 20) rfl rfl rfl rfl ?_
  refine q_const (p2 := 21) rfl rfl ?_
  refine q_icmp_s (p2 := 22) rfl (by decide) (by omega) (by omega) rfl (fun hb => absurd hb (show ¬ (¬ (4 < 1000000)) by omega)) (fun _ => ?_)
  refine q_load (v := (6, 455, 0)) (p2 := 23) rfl rfl rfl rfl ?_
  refine q_getv (v := (0, 1, 0)) (p2 := 24) rfl (x_KS_455 hK33) (by decide) hK33.1.choose_spec.2.2.2.2.2.2.2.2.2.2.2.1 rfl ?_
  refine q_if0_s (p2 := 25) rfl (by decide) (by omega) rfl (fun hb => absurd hb (show ¬ (¬ (0 < 1)) by omega)) (fun _ => ?_)
  refine q_load (v := (6, 455, 0)) (p2 := 26) rfl rfl rfl rfl ?_
  refine q_getv (v := (0, 0, 0)) (p2 := 27) rfl (x_KS_455 hK33) (by decide) hK33.1.choose_spec.2.2.2.2.2.2.2.2.2.2.2.2.2.2.2.2.2.1 rfl ?_
  refine q_if0_s (p2 := 28) rfl (by decide) (by omega) rfl (fun hb => absurd hb (show ¬ (¬ (0 = 0)) by omega)) (fun _ => ?_)
  refine q_load (v := (6, 455, 0)) (p2 := 29) rfl rfl rfl rfl ?_
  have hm36 := (x_PS_at hm31 (fun j hj hne => by have hj2 := x_some_lt hlt32 hne; exact (frn33 j (by omega) (by omega))))
  refine q_callrE (xs := [(6, 455, 0)]) (p2 := 30) rfl rfl rfl rfl (x_rcv_s 455 (x_KS_455 hK33)) rfl (k_fetchw hc68 hm36.1.choose_spec hK33 (by omega)) (Nat.le_refl _) (Nat.le_refl _) rfl (fun φ37 hR37 => ?_)
  obtain ⟨hK37, frn37⟩ := hR37
  refine q_store (loc2 := [(6, 455, 0), (0, 60, 0), (6, 225, 0), (0, 4, 0), (0, 15, 0)]) (p2 := 31) rfl rfl rfl rfl rfl ?_
  refine q_load (v := (0, 15, 0)) (p2 := 32) rfl rfl rfl rfl ?_
  refine q_const (p2 := 33) rfl rfl ?_
  refine q_icmp_s (p2 := 34) rfl (by decide) (by omega) (by omega) rfl (fun _ => ?_) (fun hb => absurd (show 10 < 15 by omega) hb)
  refine q_load (v := (0, 15, 0)) (p2 := 39) rfl rfl rfl rfl ?_
  refine q_const (p2 := 40) rfl rfl ?_
  refine q_icmp_s (p2 := 41) rfl (by decide) (by omega) (by omega) rfl (fun hb => absurd hb (show ¬ (19 < 15) by omega)) (fun _ => ?_)
  refine q_load (v := (6, 455, 0)) (p2 := 42) rfl rfl rfl rfl ?_
  refine q_load (v := (0, 15, 0)) (p2 := 43) rfl rfl rfl rfl ?_
  refine x_n_lt (fun hlt39 => ?_)
  have hm38 := (x_PS_at hm36 (fun j hj hne => by have hj2 := x_some_lt hlt34 hne; exact (frn37 j (by omega))))
  have hv40 := x_mv_at hV33 (fun j hj hne => by have hj2 := x_some_lt hlt34 hne; exact (frn37 j (by omega)))
  have hv41 := x_mv_at hV20 (fun j hj hne => by have hj2 := x_some_lt hlt21 hne; exact ((frn37 j (by omega)).trans ((frn33 j (by omega) (by omega)).trans ((frn30 j (by omega)).trans ((frn27 j (by omega)).trans (frn24 j (by omega)))))))
  refine q_callvB (xs := [(0, 15, 0), (6, 455, 0)]) (p2 := 44) rfl rfl rfl rfl (x_rcv_s 455 (x_KS_455 hK37)) rfl (k_op_15_64 (top := 0) hm38.1.choose_spec hK37 (by omega) (by omega) (by omega) (x_row_at2 hL ((frn37 A (by omega)).trans ((frn33 A (by omega) (by omega)).trans ((frn30 A (by omega)).trans ((frn27 A (by omega)).trans ((frn24 A (by omega)).trans ((frn20 A (by omega) (by omega)).trans ((frn17 A (by omega)).trans ((frn14 A (by omega)).trans ((frn11 A (by omega)).trans ((frn8 A (by omega)).trans ((fr4 A (by omega)).trans ((fr3 A (by omega)).trans ((fr2 A (by omega)).trans (fr1 A (by omega)))))))))))))))) hv41 hv40 hc69 ⟨fun h => absurd h (by show ¬ (5 = 6); decide), by show (5 : Nat) ≠ 2; decide⟩ ⟨fun h => absurd h (by show ¬ (0 = 6); decide), by show (0 : Nat) ≠ 2; decide⟩ (Or.inr rfl) (Or.inl rfl) (by omega)) rfl (fun φ42 n42 sl42 hn42 hN42 hs42 hT42 hR42 => ?_)
  obtain ⟨v42, hK42, hV42, frn42⟩ := hR42
  rw [if_pos (Or.inr rfl)] at hV42
  refine x_n_lt (fun hlt43 => ?_)
  have hz44 := x_mv_lt hV42 hlt43
  have hy44 := hV42.1
  refine q_goto rfl ?_
  refine q_iinc (z := 5) (loc2 := [(6, 455, 0), (0, 60, 0), (6, 225, 0), (0, 5, 0), (0, 15, 0)]) (p2 := 49) rfl rfl (by decide) rfl rfl ?_
  refine q_goto rfl ?_
  refine q_load (v := (0, 5, 0)) (p2 := 20) rfl rfl rfl rfl ?_
  refine q_const (p2 := 21) rfl rfl ?_
  refine q_icmp_s (p2 := 22) rfl (by decide) (by omega) (by omega) rfl (fun hb => absurd hb (show ¬ (¬ (5 < 1000000)) by omega)) (fun _ => ?_)
  refine q_load (v := (6, 455, 0)) (p2 := 23) rfl rfl rfl rfl ?_
  refine q_getv (v := (0, 1, 0)) (p2 := 24) rfl (x_KS_455 hK42) (by decide) hK42.1.choose_spec.2.2.2.2.2.2.2.2.2.2.2.1 rfl ?_
  refine q_if0_s (p2 := 25) rfl (by decide) (by omega) rfl (fun hb => absurd hb (show ¬ (¬ (0 < 1)) by omega)) (fun _ => ?_)
  refine q_load (v := (6, 455, 0)) (p2 := 26) rfl rfl rfl rfl ?_
  refine q_getv (v := (0, 0, 0)) (p2 := 27) rfl (x_KS_455 hK42) (by decide) hK42.1.choose_spec.2.2.2.2.2.2.2.2.2.2.2.2.2.2.2.2.2.1 rfl ?_
  refine q_if0_s (p2 := 28) rfl (by decide) (by omega) rfl (fun hb => absurd hb (show ¬ (¬ (0 = 0)) by omega)) (fun _ => ?_)
  refine q_load (v := (6, 455, 0)) (p2 := 29) rfl rfl rfl rfl ?_
  have hm45 := (x_PS_at hm38 (fun j hj hne => by have hj2 := x_some_lt hlt39 hne; exact (frn42 j (by omega) (by omega))))
  refine q_callrE (xs := [(6, 455, 0)]) (p2 := 30) rfl rfl rfl rfl (x_rcv_s 455 (x_KS_455 hK42)) rfl (k_fetchw hc70 hm45.1.choose_spec hK42 (by omega)) (Nat.le_refl _) (Nat.le_refl _) rfl (fun φ46 hR46 => ?_)
  obtain ⟨hK46, frn46⟩ := hR46
  refine q_store (loc2 := [(6, 455, 0), (0, 60, 0), (6, 225, 0), (0, 5, 0), (0, 31, 0)]) (p2 := 31) rfl rfl rfl rfl rfl ?_
  refine q_load (v := (0, 31, 0)) (p2 := 32) rfl rfl rfl rfl ?_
  refine q_const (p2 := 33) rfl rfl ?_
  refine q_icmp_s (p2 := 34) rfl (by decide) (by omega) (by omega) rfl (fun _ => ?_) (fun hb => absurd (show 10 < 31 by omega) hb)
  refine q_load (v := (0, 31, 0)) (p2 := 39) rfl rfl rfl rfl ?_
  refine q_const (p2 := 40) rfl rfl ?_
  refine q_icmp_s (p2 := 41) rfl (by decide) (by omega) (by omega) rfl (fun _ => ?_) (fun hb => absurd (show 19 < 31 by omega) hb)
  refine q_load (v := (6, 455, 0)) (p2 := 46) rfl rfl rfl rfl ?_
  refine q_load (v := (0, 31, 0)) (p2 := 47) rfl rfl rfl rfl ?_
  refine x_n_lt (fun hlt48 => ?_)
  have hm47 := (x_PS_at hm45 (fun j hj hne => by have hj2 := x_some_lt hlt43 hne; exact (frn46 j (by omega))))
  have hv49 := x_mv_at hV42 (fun j hj hne => by have hj2 := x_some_lt hlt43 hne; exact (frn46 j (by omega)))
  refine q_callvB (xs := [(0, 31, 0), (6, 455, 0)]) (p2 := 48) rfl rfl rfl rfl (x_rcv_s 455 (x_KS_455 hK46)) rfl (k_lead_31 (top := 0) (fr := 0) hm47.1.choose_spec hK46 (by omega) (by omega) hv49 (Or.inl rfl) (by omega) (by show (0 : Nat) < 4096; decide)) rfl (fun φ50 n50 sl50 hn50 hN50 hs50 hT50 hR50 => ?_)
  obtain ⟨hK50, frn50⟩ := hR50
  refine q_iinc (z := 6) (loc2 := [(6, 455, 0), (0, 60, 0), (6, 225, 0), (0, 6, 0), (0, 31, 0)]) (p2 := 49) rfl rfl (by decide) rfl rfl ?_
  refine q_goto rfl ?_
  refine q_load (v := (0, 6, 0)) (p2 := 20) rfl rfl rfl rfl ?_
  refine q_const (p2 := 21) rfl rfl ?_
  refine q_icmp_s (p2 := 22) rfl (by decide) (by omega) (by omega) rfl (fun hb => absurd hb (show ¬ (¬ (6 < 1000000)) by omega)) (fun _ => ?_)
  refine q_load (v := (6, 455, 0)) (p2 := 23) rfl rfl rfl rfl ?_
  refine q_getv (v := (0, 0, 0)) (p2 := 24) rfl (x_KS_455 hK50) (by decide) hK50.1.choose_spec.2.2.2.2.2.2.2.2.2.2.2.1 rfl ?_
  refine q_if0_s (p2 := 25) rfl (by decide) (by omega) rfl (fun _ => ?_) (fun hb => absurd (show ¬ (0 < 0) by omega) hb)
  refine q_load (v := (6, 455, 0)) (p2 := 51) rfl rfl rfl rfl ?_
  refine q_getv (v := (0, 0, 0)) (p2 := 52) rfl (x_KS_455 hK50) (by decide) hK50.1.choose_spec.2.2.2.2.2.2.2.2.2.2.2.2.2.2.2.2.2.1 rfl ?_
  refine q_if0_s (p2 := 53) rfl (by decide) (by omega) rfl (fun _ => ?_) (fun hb => absurd (show 0 = 0 by omega) hb)
  refine q_load (v := (6, 455, 0)) (p2 := 57) rfl rfl rfl rfl ?_
  refine q_callrE (xs := [(6, 455, 0)]) (p2 := 58) rfl rfl rfl rfl (x_rcv_s 455 (x_KS_455 hK50)) rfl (k_pop (top := 0) hK50 (by omega)) (Nat.le_refl _) (Nat.le_refl _) rfl (fun φ51 hR51 => ?_)
  obtain ⟨hK51, frn51⟩ := hR51
  refine x_n_lt (fun hlt53 => ?_)
  have hv52 := x_mv_at hv49 (fun j hj hne => by have hj2 := x_some_lt hlt48 hne; exact ((frn51 j (by omega)).trans (frn50 j (by omega))))
  exact q_retv (v := (6, v42, 0)) rfl rfl (⟨rfl, ⟨by omega, by omega⟩, ⟨by omega, by omega⟩, v42, rfl, ⟨_, _, _, _, _, _, _, _, _, _, hK51⟩, hv52, fun j hj1 hj2 => ((frn51 j (by omega)).trans ((frn50 j (by omega)).trans ((frn46 j (by omega)).trans ((frn42 j (by omega) (by omega)).trans ((frn37 j (by omega)).trans ((frn33 j (by omega) (by omega)).trans ((frn30 j (by omega)).trans ((frn27 j (by omega)).trans ((frn24 j (by omega)).trans ((frn20 j (by omega) (by omega)).trans ((frn17 j (by omega)).trans ((frn14 j (by omega)).trans ((frn11 j (by omega)).trans ((frn8 j (by omega)).trans ((fr4 j (by omega)).trans ((fr3 j (by omega)).trans ((fr2 j (by omega)).trans (fr1 j (by omega)))))))))))))))))))⟩)
set_option maxHeartbeats 1000000 in
theorem zc_run_hash_n {d n sl : Nat} {φ : FH} {A : Nat} {B : Nat} {made : Nat} {sv : Nat} {svm : Nat} {s9 : Nat} {comb : Nat → Nat} {hm : Nat → MV} {top : Nat} {fr : Nat} {pc_ : Nat} {mm : Nat} {mi : Nat} {st : Nat → Nat} {lo : Nat → Nat} {re : Nat → Nat} {rs : Nat → Nat} {fl : Nat → Nat} {se : Nat → Nat} {co : Nat → Nat} {w1 : Nat} (hPS : x_PS φ A B made sv svm s9 comb hm) (hKS : x_KS φ top fr pc_ mm mi st lo re rs fl se co) (hn0 : 486 ≤ n) (hmi : mi + 30 ≤ 20000) (hc60 : co 60 = 1) (hc61 : co 61 = 1) (hc62 : co 62 = 7) (hc63 : co 63 = w1) (hc64 : co 64 = 31) (hw1 : w1 < 512) (h1 : ¬ (w1 < made ∧ comb w1 ≠ 0)) : x_f x_P (d + 6) 56 [(6, 455, 0), (0, 60, 0), (6, 225, 0), (11, 0, 0), (11, 0, 0)] φ n sl (x_bR n sl 1 7 (fun zw φ2 => ∃ v, zw = (6, v, 0) ∧ x_KJ φ2 (mi + 1) co ∧ x_mv φ2 v (MV0) ∧ ∀ j, j < n → (j < 455 ∨ 466 ≤ j) → φ2 j = φ j)) := by
  refine x_f_of rfl ?_
  refine x_n_lt (fun hlt0 => ?_)
  refine q_load (v := (6, 455, 0)) (p2 := 1) rfl rfl rfl rfl ?_
  refine q_const (p2 := 2) rfl rfl ?_
  refine q_putfE (v := (0, 0, 0)) (p2 := 3) rfl (x_KS_455 hKS) (by decide) rfl rfl (fun φ1 f1 hh1 hg1 ho1 fr1 => ?_)
  have hs1 := x_KS_put_18 hKS hh1 hg1 ho1 fr1
  refine q_load (v := (6, 455, 0)) (p2 := 4) rfl rfl rfl rfl ?_
  refine q_const (p2 := 5) rfl rfl ?_
  refine q_putfE (v := (0, 0, 0)) (p2 := 6) rfl (x_KS_455 hs1) (by decide) rfl rfl (fun φ2 f2 hh2 hg2 ho2 fr2 => ?_)
  have hs2 := x_KS_put_16 hs1 hh2 hg2 ho2 fr2
  refine q_load (v := (6, 455, 0)) (p2 := 7) rfl rfl rfl rfl ?_
  refine q_const (p2 := 8) rfl rfl ?_
  refine q_putfE (v := (0, 0, 0)) (p2 := 9) rfl (x_KS_455 hs2) (by decide) rfl rfl (fun φ3 f3 hh3 hg3 ho3 fr3 => ?_)
  have hs3 := x_KS_put_4 hs2 hh3 hg3 ho3 fr3
  refine q_load (v := (6, 455, 0)) (p2 := 10) rfl rfl rfl rfl ?_
  refine q_const (p2 := 11) rfl rfl ?_
  refine q_putfE (v := (0, 0, 0)) (p2 := 12) rfl (x_KS_455 hs3) (by decide) rfl rfl (fun φ4 f4 hh4 hg4 ho4 fr4 => ?_)
  have hs4 := x_KS_put_10 hs3 hh4 hg4 ho4 fr4
  refine q_load (v := (6, 455, 0)) (p2 := 13) rfl rfl rfl rfl ?_
  refine q_load (v := (0, 60, 0)) (p2 := 14) rfl rfl rfl rfl ?_
  refine q_const (p2 := 15) rfl rfl ?_
  refine q_load (v := (6, 225, 0)) (p2 := 16) rfl rfl rfl rfl ?_
  refine x_n_lt (fun hlt6 => ?_)
  have hm5 := (x_PS_at hPS (fun j hj hne => by have hj2 := x_some_lt hlt0 hne; exact ((fr4 j (by omega)).trans ((fr3 j (by omega)).trans ((fr2 j (by omega)).trans (fr1 j (by omega)))))))
  have hv7 := x_mv_at (x_PS_N hPS) (fun j hj hne => by have hj2 := x_some_lt hlt0 hne; exact ((fr4 j (by omega)).trans ((fr3 j (by omega)).trans ((fr2 j (by omega)).trans (fr1 j (by omega))))))
  refine q_callvE (xs := [(6, 225, 0), (0, 4294967293, 0), (0, 60, 0), (6, 455, 0)]) (p2 := 17) rfl rfl rfl rfl (x_rcv_s 455 (x_KS_455 hs4)) rfl (k_open hs4 (x_PS_N hm5) hv7 (by omega)) (Nat.le_refl _) (Nat.le_refl _) rfl (fun φ8 hR8 => ?_)
  obtain ⟨hK8, frn8⟩ := hR8
  refine q_const (p2 := 18) rfl rfl ?_
  refine q_store (loc2 := [(6, 455, 0), (0, 60, 0), (6, 225, 0), (0, 0, 0), (11, 0, 0)]) (p2 := 19) rfl rfl rfl rfl rfl ?_
  refine q_load (v := (0, 0, 0)) (p2 := 20) rfl rfl rfl rfl ?_
  refine q_const (p2 := 21) rfl rfl ?_
  refine q_icmp_s (p2 := 22) rfl (by decide) (by omega) (by omega) rfl (fun hb => absurd hb (show ¬ (¬ (0 < 1000000)) by omega)) (fun _ => ?_)
  refine q_load (v := (6, 455, 0)) (p2 := 23) rfl rfl rfl rfl ?_
  refine q_getv (v := (0, 1, 0)) (p2 := 24) rfl (x_KS_455 hK8) (by decide) hK8.1.choose_spec.2.2.2.2.2.2.2.2.2.2.2.1 rfl ?_
  refine q_if0_s (p2 := 25) rfl (by decide) (by omega) rfl (fun hb => absurd hb (show ¬ (¬ (0 < 1)) by omega)) (fun _ => ?_)
  refine q_load (v := (6, 455, 0)) (p2 := 26) rfl rfl rfl rfl ?_
  refine q_getv (v := (0, 0, 0)) (p2 := 27) rfl (x_KS_455 hK8) (by decide) hK8.1.choose_spec.2.2.2.2.2.2.2.2.2.2.2.2.2.2.2.2.2.1 rfl ?_
  refine q_if0_s (p2 := 28) rfl (by decide) (by omega) rfl (fun hb => absurd hb (show ¬ (¬ (0 = 0)) by omega)) (fun _ => ?_)
  refine q_load (v := (6, 455, 0)) (p2 := 29) rfl rfl rfl rfl ?_
  refine x_n_lt (fun hlt10 => ?_)
  have hm9 := (x_PS_at hm5 (fun j hj hne => by have hj2 := x_some_lt hlt6 hne; exact (frn8 j (by omega))))
  refine q_callrE (xs := [(6, 455, 0)]) (p2 := 30) rfl rfl rfl rfl (x_rcv_s 455 (x_KS_455 hK8)) rfl (k_fetchw hc60 hm9.1.choose_spec hK8 (by omega)) (Nat.le_refl _) (Nat.le_refl _) rfl (fun φ11 hR11 => ?_)
  obtain ⟨hK11, frn11⟩ := hR11
  refine q_store (loc2 := [(6, 455, 0), (0, 60, 0), (6, 225, 0), (0, 0, 0), (0, 1, 0)]) (p2 := 31) rfl rfl rfl rfl rfl ?_
  refine q_load (v := (0, 1, 0)) (p2 := 32) rfl rfl rfl rfl ?_
  refine q_const (p2 := 33) rfl rfl ?_
  refine q_icmp_s (p2 := 34) rfl (by decide) (by omega) (by omega) rfl (fun hb => absurd hb (show ¬ (10 < 1) by omega)) (fun _ => ?_)
  refine q_load (v := (6, 455, 0)) (p2 := 35) rfl rfl rfl rfl ?_
  refine q_load (v := (0, 1, 0)) (p2 := 36) rfl rfl rfl rfl ?_
  refine x_n_lt (fun hlt13 => ?_)
  have hm12 := (x_PS_at hm9 (fun j hj hne => by have hj2 := x_some_lt hlt10 hne; exact (frn11 j (by omega))))
  refine q_callvB (xs := [(0, 1, 0), (6, 455, 0)]) (p2 := 37) rfl rfl rfl rfl (x_rcv_s 455 (x_KS_455 hK11)) rfl (k_plain_1w hc61 hm12.1.choose_spec hK11 (by omega) (by omega) (by omega) (by omega)) rfl (fun φ14 n14 sl14 hn14 hN14 hs14 hT14 hR14 => ?_)
  obtain ⟨hK14, frn14⟩ := hR14
  refine q_goto rfl ?_
  refine q_iinc (z := 1) (loc2 := [(6, 455, 0), (0, 60, 0), (6, 225, 0), (0, 1, 0), (0, 1, 0)]) (p2 := 49) rfl rfl (by decide) rfl rfl ?_
  refine q_goto rfl ?_
  refine q_load (v := (0, 1, 0)) (p2 := 20) rfl rfl rfl rfl ?_
  refine q_const (p2 := 21) rfl rfl ?_
  refine q_icmp_s (p2 := 22) rfl (by decide) (by omega) (by omega) rfl (fun hb => absurd hb (show ¬ (¬ (1 < 1000000)) by omega)) (fun _ => ?_)
  refine q_load (v := (6, 455, 0)) (p2 := 23) rfl rfl rfl rfl ?_
  refine q_getv (v := (0, 1, 0)) (p2 := 24) rfl (x_KS_455 hK14) (by decide) hK14.1.choose_spec.2.2.2.2.2.2.2.2.2.2.2.1 rfl ?_
  refine q_if0_s (p2 := 25) rfl (by decide) (by omega) rfl (fun hb => absurd hb (show ¬ (¬ (0 < 1)) by omega)) (fun _ => ?_)
  refine q_load (v := (6, 455, 0)) (p2 := 26) rfl rfl rfl rfl ?_
  refine q_getv (v := (0, 0, 0)) (p2 := 27) rfl (x_KS_455 hK14) (by decide) hK14.1.choose_spec.2.2.2.2.2.2.2.2.2.2.2.2.2.2.2.2.2.1 rfl ?_
  refine q_if0_s (p2 := 28) rfl (by decide) (by omega) rfl (fun hb => absurd hb (show ¬ (¬ (0 = 0)) by omega)) (fun _ => ?_)
  refine q_load (v := (6, 455, 0)) (p2 := 29) rfl rfl rfl rfl ?_
  refine x_n_lt (fun hlt16 => ?_)
  have hm15 := (x_PS_at hm12 (fun j hj hne => by have hj2 := x_some_lt hlt13 hne; exact (frn14 j (by omega))))
  refine q_callrE (xs := [(6, 455, 0)]) (p2 := 30) rfl rfl rfl rfl (x_rcv_s 455 (x_KS_455 hK14)) rfl (k_fetchw hc62 hm15.1.choose_spec hK14 (by omega)) (Nat.le_refl _) (Nat.le_refl _) rfl (fun φ17 hR17 => ?_)
  obtain ⟨hK17, frn17⟩ := hR17
  refine q_store (loc2 := [(6, 455, 0), (0, 60, 0), (6, 225, 0), (0, 1, 0), (0, 7, 0)]) (p2 := 31) rfl rfl rfl rfl rfl ?_
  refine q_load (v := (0, 7, 0)) (p2 := 32) rfl rfl rfl rfl ?_
  refine q_const (p2 := 33) rfl rfl ?_
  refine q_icmp_s (p2 := 34) rfl (by decide) (by omega) (by omega) rfl (fun hb => absurd hb (show ¬ (10 < 7) by omega)) (fun _ => ?_)
  refine q_load (v := (6, 455, 0)) (p2 := 35) rfl rfl rfl rfl ?_
  refine q_load (v := (0, 7, 0)) (p2 := 36) rfl rfl rfl rfl ?_
  refine x_n_lt (fun hlt19 => ?_)
  have hm18 := (x_PS_at hm15 (fun j hj hne => by have hj2 := x_some_lt hlt16 hne; exact (frn17 j (by omega))))
  refine q_callvB (xs := [(0, 7, 0), (6, 455, 0)]) (p2 := 37) rfl rfl rfl rfl (x_rcv_s 455 (x_KS_455 hK17)) rfl (k_plain_7w hc63 hm18.1.choose_spec hK17 (by omega) (by omega) hm18.2.1 (x_PS_N hm18) (by omega) (by omega)) rfl (fun φ20 n20 sl20 hn20 hN20 hs20 hT20 hR20 => ?_)
  obtain ⟨v20, hK20, hV20, frn20⟩ := hR20
  rw [if_neg h1] at hV20
  refine x_n_lt (fun hlt21 => ?_)
  have hz22 := x_mv_lt hV20 hlt21
  have hy22 := hV20.1
  refine q_goto rfl ?_
  refine q_iinc (z := 2) (loc2 := [(6, 455, 0), (0, 60, 0), (6, 225, 0), (0, 2, 0), (0, 7, 0)]) (p2 := 49) rfl rfl (by decide) rfl rfl ?_
  refine q_goto rfl ?_
  refine q_load (v := (0, 2, 0)) (p2 := 20) rfl rfl rfl rfl ?_
  refine q_const (p2 := 21) rfl rfl ?_
  refine q_icmp_s (p2 := 22) rfl (by decide) (by omega) (by omega) rfl (fun hb => absurd hb (show ¬ (¬ (2 < 1000000)) by omega)) (fun _ => ?_)
  refine q_load (v := (6, 455, 0)) (p2 := 23) rfl rfl rfl rfl ?_
  refine q_getv (v := (0, 1, 0)) (p2 := 24) rfl (x_KS_455 hK20) (by decide) hK20.1.choose_spec.2.2.2.2.2.2.2.2.2.2.2.1 rfl ?_
  refine q_if0_s (p2 := 25) rfl (by decide) (by omega) rfl (fun hb => absurd hb (show ¬ (¬ (0 < 1)) by omega)) (fun _ => ?_)
  refine q_load (v := (6, 455, 0)) (p2 := 26) rfl rfl rfl rfl ?_
  refine q_getv (v := (0, 0, 0)) (p2 := 27) rfl (x_KS_455 hK20) (by decide) hK20.1.choose_spec.2.2.2.2.2.2.2.2.2.2.2.2.2.2.2.2.2.1 rfl ?_
  refine q_if0_s (p2 := 28) rfl (by decide) (by omega) rfl (fun hb => absurd hb (show ¬ (¬ (0 = 0)) by omega)) (fun _ => ?_)
  refine q_load (v := (6, 455, 0)) (p2 := 29) rfl rfl rfl rfl ?_
  have hm23 := (x_PS_at hm18 (fun j hj hne => by have hj2 := x_some_lt hlt19 hne; exact (frn20 j (by omega) (by omega))))
  refine q_callrE (xs := [(6, 455, 0)]) (p2 := 30) rfl rfl rfl rfl (x_rcv_s 455 (x_KS_455 hK20)) rfl (k_fetchw hc64 hm23.1.choose_spec hK20 (by omega)) (Nat.le_refl _) (Nat.le_refl _) rfl (fun φ24 hR24 => ?_)
  obtain ⟨hK24, frn24⟩ := hR24
  refine q_store (loc2 := [(6, 455, 0), (0, 60, 0), (6, 225, 0), (0, 2, 0), (0, 31, 0)]) (p2 := 31) rfl rfl rfl rfl rfl ?_
  refine q_load (v := (0, 31, 0)) (p2 := 32) rfl rfl rfl rfl ?_
  refine q_const (p2 := 33) rfl rfl ?_
  refine q_icmp_s (p2 := 34) rfl (by decide) (by omega) (by omega) rfl (fun _ => ?_) (fun hb => absurd (show 10 < 31 by omega) hb)
  refine q_load (v := (0, 31, 0)) (p2 := 39) rfl rfl rfl rfl ?_
  refine q_const (p2 := 40) rfl rfl ?_
  refine q_icmp_s (p2 := 41) rfl (by decide) (by omega) (by omega) rfl (fun _ => ?_) (fun hb => absurd (show 19 < 31 by omega) hb)
  refine q_load (v := (6, 455, 0)) (p2 := 46) rfl rfl rfl rfl ?_
  refine q_load (v := (0, 31, 0)) (p2 := 47) rfl rfl rfl rfl ?_
  refine x_n_lt (fun hlt26 => ?_)
  have hm25 := (x_PS_at hm23 (fun j hj hne => by have hj2 := x_some_lt hlt21 hne; exact (frn24 j (by omega))))
  have hv27 := x_mv_at hV20 (fun j hj hne => by have hj2 := x_some_lt hlt21 hne; exact (frn24 j (by omega)))
  refine q_callvB (xs := [(0, 31, 0), (6, 455, 0)]) (p2 := 48) rfl rfl rfl rfl (x_rcv_s 455 (x_KS_455 hK24)) rfl (k_lead_31 (top := 0) (fr := 0) hm25.1.choose_spec hK24 (by omega) (by omega) hv27 (Or.inl rfl) (by omega) (by show (0 : Nat) < 4096; decide)) rfl (fun φ28 n28 sl28 hn28 hN28 hs28 hT28 hR28 => ?_)
  obtain ⟨hK28, frn28⟩ := hR28
  refine q_iinc (z := 3) (loc2 := [(6, 455, 0), (0, 60, 0), (6, 225, 0), (0, 3, 0), (0, 31, 0)]) (p2 := 49) rfl rfl (by decide) rfl rfl ?_
  refine q_goto rfl ?_
  refine q_load (v := (0, 3, 0)) (p2 := 20) rfl rfl rfl rfl ?_
  refine q_const (p2 := 21) rfl rfl ?_
  refine q_icmp_s (p2 := 22) rfl (by decide) (by omega) (by omega) rfl (fun hb => absurd hb (show ¬ (¬ (3 < 1000000)) by omega)) (fun _ => ?_)
  refine q_load (v := (6, 455, 0)) (p2 := 23) rfl rfl rfl rfl ?_
  refine q_getv (v := (0, 0, 0)) (p2 := 24) rfl (x_KS_455 hK28) (by decide) hK28.1.choose_spec.2.2.2.2.2.2.2.2.2.2.2.1 rfl ?_
  refine q_if0_s (p2 := 25) rfl (by decide) (by omega) rfl (fun _ => ?_) (fun hb => absurd (show ¬ (0 < 0) by omega) hb)
  refine q_load (v := (6, 455, 0)) (p2 := 51) rfl rfl rfl rfl ?_
  refine q_getv (v := (0, 0, 0)) (p2 := 52) rfl (x_KS_455 hK28) (by decide) hK28.1.choose_spec.2.2.2.2.2.2.2.2.2.2.2.2.2.2.2.2.2.1 rfl ?_
  refine q_if0_s (p2 := 53) rfl (by decide) (by omega) rfl (fun _ => ?_) (fun hb => absurd (show 0 = 0 by omega) hb)
  refine q_load (v := (6, 455, 0)) (p2 := 57) rfl rfl rfl rfl ?_
  refine q_callrE (xs := [(6, 455, 0)]) (p2 := 58) rfl rfl rfl rfl (x_rcv_s 455 (x_KS_455 hK28)) rfl (k_pop (top := 0) hK28 (by omega)) (Nat.le_refl _) (Nat.le_refl _) rfl (fun φ29 hR29 => ?_)
  obtain ⟨hK29, frn29⟩ := hR29
  refine x_n_lt (fun hlt31 => ?_)
  have hv30 := x_mv_at hv27 (fun j hj hne => by have hj2 := x_some_lt hlt26 hne; exact ((frn29 j (by omega)).trans (frn28 j (by omega))))
  exact q_retv (v := (6, v20, 0)) rfl rfl (⟨rfl, ⟨by omega, by omega⟩, ⟨by omega, by omega⟩, v20, rfl, ⟨_, _, _, _, _, _, _, _, _, _, hK29⟩, hv30, fun j hj1 hj2 => ((frn29 j (by omega)).trans ((frn28 j (by omega)).trans ((frn24 j (by omega)).trans ((frn20 j (by omega) (by omega)).trans ((frn17 j (by omega)).trans ((frn14 j (by omega)).trans ((frn11 j (by omega)).trans ((frn8 j (by omega)).trans ((fr4 j (by omega)).trans ((fr3 j (by omega)).trans ((fr2 j (by omega)).trans (fr1 j (by omega)))))))))))))⟩)
set_option maxHeartbeats 1000000 in
theorem zc_run_used_n {d n sl : Nat} {φ : FH} {A : Nat} {B : Nat} {made : Nat} {sv : Nat} {svm : Nat} {s9 : Nat} {comb : Nat → Nat} {hm : Nat → MV} {top : Nat} {fr : Nat} {pc_ : Nat} {mm : Nat} {mi : Nat} {st : Nat → Nat} {lo : Nat → Nat} {re : Nat → Nat} {rs : Nat → Nat} {fl : Nat → Nat} {se : Nat → Nat} {co : Nat → Nat} {w1 : Nat} (hPS : x_PS φ A B made sv svm s9 comb hm) (hKS : x_KS φ top fr pc_ mm mi st lo re rs fl se co) (hn0 : 486 ≤ n) (hmi : mi + 30 ≤ 20000) (hc60 : co 60 = 1) (hc61 : co 61 = 1) (hc62 : co 62 = 1) (hc63 : co 63 = 1) (hc64 : co 64 = 7) (hc65 : co 65 = w1) (hc66 : co 66 = 19) (hc67 : co 67 = 9) (hc68 : co 68 = 31) (hw1 : w1 < 512) (h1 : ¬ (w1 < made ∧ comb w1 ≠ 0)) : x_f x_P (d + 6) 56 [(6, 455, 0), (0, 60, 0), (6, 225, 0), (11, 0, 0), (11, 0, 0)] φ n sl (x_bR n sl 4 62 (fun zw φ2 => ∃ v, zw = (6, v, 0) ∧ x_KJ φ2 (mi + 2) co ∧ x_mv φ2 v (MV0) ∧ ∀ j, j < n → (j < 455 ∨ 466 ≤ j) → φ2 j = φ j)) := by
  refine x_f_of rfl ?_
  refine x_n_lt (fun hlt0 => ?_)
  refine q_load (v := (6, 455, 0)) (p2 := 1) rfl rfl rfl rfl ?_
  refine q_const (p2 := 2) rfl rfl ?_
  refine q_putfE (v := (0, 0, 0)) (p2 := 3) rfl (x_KS_455 hKS) (by decide) rfl rfl (fun φ1 f1 hh1 hg1 ho1 fr1 => ?_)
  have hs1 := x_KS_put_18 hKS hh1 hg1 ho1 fr1
  refine q_load (v := (6, 455, 0)) (p2 := 4) rfl rfl rfl rfl ?_
  refine q_const (p2 := 5) rfl rfl ?_
  refine q_putfE (v := (0, 0, 0)) (p2 := 6) rfl (x_KS_455 hs1) (by decide) rfl rfl (fun φ2 f2 hh2 hg2 ho2 fr2 => ?_)
  have hs2 := x_KS_put_16 hs1 hh2 hg2 ho2 fr2
  refine q_load (v := (6, 455, 0)) (p2 := 7) rfl rfl rfl rfl ?_
  refine q_const (p2 := 8) rfl rfl ?_
  refine q_putfE (v := (0, 0, 0)) (p2 := 9) rfl (x_KS_455 hs2) (by decide) rfl rfl (fun φ3 f3 hh3 hg3 ho3 fr3 => ?_)
  have hs3 := x_KS_put_4 hs2 hh3 hg3 ho3 fr3
  refine q_load (v := (6, 455, 0)) (p2 := 10) rfl rfl rfl rfl ?_
  refine q_const (p2 := 11) rfl rfl ?_
  refine q_putfE (v := (0, 0, 0)) (p2 := 12) rfl (x_KS_455 hs3) (by decide) rfl rfl (fun φ4 f4 hh4 hg4 ho4 fr4 => ?_)
  have hs4 := x_KS_put_10 hs3 hh4 hg4 ho4 fr4
  refine q_load (v := (6, 455, 0)) (p2 := 13) rfl rfl rfl rfl ?_
  refine q_load (v := (0, 60, 0)) (p2 := 14) rfl rfl rfl rfl ?_
  refine q_const (p2 := 15) rfl rfl ?_
  refine q_load (v := (6, 225, 0)) (p2 := 16) rfl rfl rfl rfl ?_
  refine x_n_lt (fun hlt6 => ?_)
  have hm5 := (x_PS_at hPS (fun j hj hne => by have hj2 := x_some_lt hlt0 hne; exact ((fr4 j (by omega)).trans ((fr3 j (by omega)).trans ((fr2 j (by omega)).trans (fr1 j (by omega)))))))
  have hv7 := x_mv_at (x_PS_N hPS) (fun j hj hne => by have hj2 := x_some_lt hlt0 hne; exact ((fr4 j (by omega)).trans ((fr3 j (by omega)).trans ((fr2 j (by omega)).trans (fr1 j (by omega))))))
  refine q_callvE (xs := [(6, 225, 0), (0, 4294967293, 0), (0, 60, 0), (6, 455, 0)]) (p2 := 17) rfl rfl rfl rfl (x_rcv_s 455 (x_KS_455 hs4)) rfl (k_open hs4 (x_PS_N hm5) hv7 (by omega)) (Nat.le_refl _) (Nat.le_refl _) rfl (fun φ8 hR8 => ?_)
  obtain ⟨hK8, frn8⟩ := hR8
  refine q_const (p2 := 18) rfl rfl ?_
  refine q_store (loc2 := [(6, 455, 0), (0, 60, 0), (6, 225, 0), (0, 0, 0), (11, 0, 0)]) (p2 := 19) rfl rfl rfl rfl rfl ?_
  refine q_load (v := (0, 0, 0)) (p2 := 20) rfl rfl rfl rfl ?_
  refine q_const (p2 := 21) rfl rfl ?_
  refine q_icmp_s (p2 := 22) rfl (by decide) (by omega) (by omega) rfl (fun hb => absurd hb (show ¬ (¬ (0 < 1000000)) by omega)) (fun _ => ?_)
  refine q_load (v := (6, 455, 0)) (p2 := 23) rfl rfl rfl rfl ?_
  refine q_getv (v := (0, 1, 0)) (p2 := 24) rfl (x_KS_455 hK8) (by decide) hK8.1.choose_spec.2.2.2.2.2.2.2.2.2.2.2.1 rfl ?_
  refine q_if0_s (p2 := 25) rfl (by decide) (by omega) rfl (fun hb => absurd hb (show ¬ (¬ (0 < 1)) by omega)) (fun _ => ?_)
  refine q_load (v := (6, 455, 0)) (p2 := 26) rfl rfl rfl rfl ?_
  refine q_getv (v := (0, 0, 0)) (p2 := 27) rfl (x_KS_455 hK8) (by decide) hK8.1.choose_spec.2.2.2.2.2.2.2.2.2.2.2.2.2.2.2.2.2.1 rfl ?_
  refine q_if0_s (p2 := 28) rfl (by decide) (by omega) rfl (fun hb => absurd hb (show ¬ (¬ (0 = 0)) by omega)) (fun _ => ?_)
  refine q_load (v := (6, 455, 0)) (p2 := 29) rfl rfl rfl rfl ?_
  refine x_n_lt (fun hlt10 => ?_)
  have hm9 := (x_PS_at hm5 (fun j hj hne => by have hj2 := x_some_lt hlt6 hne; exact (frn8 j (by omega))))
  refine q_callrE (xs := [(6, 455, 0)]) (p2 := 30) rfl rfl rfl rfl (x_rcv_s 455 (x_KS_455 hK8)) rfl (k_fetchw hc60 hm9.1.choose_spec hK8 (by omega)) (Nat.le_refl _) (Nat.le_refl _) rfl (fun φ11 hR11 => ?_)
  obtain ⟨hK11, frn11⟩ := hR11
  refine q_store (loc2 := [(6, 455, 0), (0, 60, 0), (6, 225, 0), (0, 0, 0), (0, 1, 0)]) (p2 := 31) rfl rfl rfl rfl rfl ?_
  refine q_load (v := (0, 1, 0)) (p2 := 32) rfl rfl rfl rfl ?_
  refine q_const (p2 := 33) rfl rfl ?_
  refine q_icmp_s (p2 := 34) rfl (by decide) (by omega) (by omega) rfl (fun hb => absurd hb (show ¬ (10 < 1) by omega)) (fun _ => ?_)
  refine q_load (v := (6, 455, 0)) (p2 := 35) rfl rfl rfl rfl ?_
  refine q_load (v := (0, 1, 0)) (p2 := 36) rfl rfl rfl rfl ?_
  refine x_n_lt (fun hlt13 => ?_)
  have hm12 := (x_PS_at hm9 (fun j hj hne => by have hj2 := x_some_lt hlt10 hne; exact (frn11 j (by omega))))
  refine q_callvB (xs := [(0, 1, 0), (6, 455, 0)]) (p2 := 37) rfl rfl rfl rfl (x_rcv_s 455 (x_KS_455 hK11)) rfl (k_plain_1w hc61 hm12.1.choose_spec hK11 (by omega) (by omega) (by omega) (by omega)) rfl (fun φ14 n14 sl14 hn14 hN14 hs14 hT14 hR14 => ?_)
  obtain ⟨hK14, frn14⟩ := hR14
  refine q_goto rfl ?_
  refine q_iinc (z := 1) (loc2 := [(6, 455, 0), (0, 60, 0), (6, 225, 0), (0, 1, 0), (0, 1, 0)]) (p2 := 49) rfl rfl (by decide) rfl rfl ?_
  refine q_goto rfl ?_
  refine q_load (v := (0, 1, 0)) (p2 := 20) rfl rfl rfl rfl ?_
  refine q_const (p2 := 21) rfl rfl ?_
  refine q_icmp_s (p2 := 22) rfl (by decide) (by omega) (by omega) rfl (fun hb => absurd hb (show ¬ (¬ (1 < 1000000)) by omega)) (fun _ => ?_)
  refine q_load (v := (6, 455, 0)) (p2 := 23) rfl rfl rfl rfl ?_
  refine q_getv (v := (0, 1, 0)) (p2 := 24) rfl (x_KS_455 hK14) (by decide) hK14.1.choose_spec.2.2.2.2.2.2.2.2.2.2.2.1 rfl ?_
  refine q_if0_s (p2 := 25) rfl (by decide) (by omega) rfl (fun hb => absurd hb (show ¬ (¬ (0 < 1)) by omega)) (fun _ => ?_)
  refine q_load (v := (6, 455, 0)) (p2 := 26) rfl rfl rfl rfl ?_
  refine q_getv (v := (0, 0, 0)) (p2 := 27) rfl (x_KS_455 hK14) (by decide) hK14.1.choose_spec.2.2.2.2.2.2.2.2.2.2.2.2.2.2.2.2.2.1 rfl ?_
  refine q_if0_s (p2 := 28) rfl (by decide) (by omega) rfl (fun hb => absurd hb (show ¬ (¬ (0 = 0)) by omega)) (fun _ => ?_)
  refine q_load (v := (6, 455, 0)) (p2 := 29) rfl rfl rfl rfl ?_
  refine x_n_lt (fun hlt16 => ?_)
  have hm15 := (x_PS_at hm12 (fun j hj hne => by have hj2 := x_some_lt hlt13 hne; exact (frn14 j (by omega))))
  refine q_callrE (xs := [(6, 455, 0)]) (p2 := 30) rfl rfl rfl rfl (x_rcv_s 455 (x_KS_455 hK14)) rfl (k_fetchw hc62 hm15.1.choose_spec hK14 (by omega)) (Nat.le_refl _) (Nat.le_refl _) rfl (fun φ17 hR17 => ?_)
  obtain ⟨hK17, frn17⟩ := hR17
  refine q_store (loc2 := [(6, 455, 0), (0, 60, 0), (6, 225, 0), (0, 1, 0), (0, 1, 0)]) (p2 := 31) rfl rfl rfl rfl rfl ?_
  refine q_load (v := (0, 1, 0)) (p2 := 32) rfl rfl rfl rfl ?_
  refine q_const (p2 := 33) rfl rfl ?_
  refine q_icmp_s (p2 := 34) rfl (by decide) (by omega) (by omega) rfl (fun hb => absurd hb (show ¬ (10 < 1) by omega)) (fun _ => ?_)
  refine q_load (v := (6, 455, 0)) (p2 := 35) rfl rfl rfl rfl ?_
  refine q_load (v := (0, 1, 0)) (p2 := 36) rfl rfl rfl rfl ?_
  refine x_n_lt (fun hlt19 => ?_)
  have hm18 := (x_PS_at hm15 (fun j hj hne => by have hj2 := x_some_lt hlt16 hne; exact (frn17 j (by omega))))
  refine q_callvB (xs := [(0, 1, 0), (6, 455, 0)]) (p2 := 37) rfl rfl rfl rfl (x_rcv_s 455 (x_KS_455 hK17)) rfl (k_plain_1w hc63 hm18.1.choose_spec hK17 (by omega) (by omega) (by omega) (by omega)) rfl (fun φ20 n20 sl20 hn20 hN20 hs20 hT20 hR20 => ?_)
  obtain ⟨hK20, frn20⟩ := hR20
  refine q_goto rfl ?_
  refine q_iinc (z := 2) (loc2 := [(6, 455, 0), (0, 60, 0), (6, 225, 0), (0, 2, 0), (0, 1, 0)]) (p2 := 49) rfl rfl (by decide) rfl rfl ?_
  refine q_goto rfl ?_
  refine q_load (v := (0, 2, 0)) (p2 := 20) rfl rfl rfl rfl ?_
  refine q_const (p2 := 21) rfl rfl ?_
  refine q_icmp_s (p2 := 22) rfl (by decide) (by omega) (by omega) rfl (fun hb => absurd hb (show ¬ (¬ (2 < 1000000)) by omega)) (fun _ => ?_)
  refine q_load (v := (6, 455, 0)) (p2 := 23) rfl rfl rfl rfl ?_
  refine q_getv (v := (0, 1, 0)) (p2 := 24) rfl (x_KS_455 hK20) (by decide) hK20.1.choose_spec.2.2.2.2.2.2.2.2.2.2.2.1 rfl ?_
  refine q_if0_s (p2 := 25) rfl (by decide) (by omega) rfl (fun hb => absurd hb (show ¬ (¬ (0 < 1)) by omega)) (fun _ => ?_)
  refine q_load (v := (6, 455, 0)) (p2 := 26) rfl rfl rfl rfl ?_
  refine q_getv (v := (0, 0, 0)) (p2 := 27) rfl (x_KS_455 hK20) (by decide) hK20.1.choose_spec.2.2.2.2.2.2.2.2.2.2.2.2.2.2.2.2.2.1 rfl ?_
  refine q_if0_s (p2 := 28) rfl (by decide) (by omega) rfl (fun hb => absurd hb (show ¬ (¬ (0 = 0)) by omega)) (fun _ => ?_)
  refine q_load (v := (6, 455, 0)) (p2 := 29) rfl rfl rfl rfl ?_
  refine x_n_lt (fun hlt22 => ?_)
  have hm21 := (x_PS_at hm18 (fun j hj hne => by have hj2 := x_some_lt hlt19 hne; exact (frn20 j (by omega))))
  refine q_callrE (xs := [(6, 455, 0)]) (p2 := 30) rfl rfl rfl rfl (x_rcv_s 455 (x_KS_455 hK20)) rfl (k_fetchw hc64 hm21.1.choose_spec hK20 (by omega)) (Nat.le_refl _) (Nat.le_refl _) rfl (fun φ23 hR23 => ?_)
  obtain ⟨hK23, frn23⟩ := hR23
  refine q_store (loc2 := [(6, 455, 0), (0, 60, 0), (6, 225, 0), (0, 2, 0), (0, 7, 0)]) (p2 := 31) rfl rfl rfl rfl rfl ?_
  refine q_load (v := (0, 7, 0)) (p2 := 32) rfl rfl rfl rfl ?_
  refine q_const (p2 := 33) rfl rfl ?_
  refine q_icmp_s (p2 := 34) rfl (by decide) (by omega) (by omega) rfl (fun hb => absurd hb (show ¬ (10 < 7) by omega)) (fun _ => ?_)
  refine q_load (v := (6, 455, 0)) (p2 := 35) rfl rfl rfl rfl ?_
  refine q_load (v := (0, 7, 0)) (p2 := 36) rfl rfl rfl rfl ?_
  refine x_n_lt (fun hlt25 => ?_)
  have hm24 := (x_PS_at hm21 (fun j hj hne => by have hj2 := x_some_lt hlt22 hne; exact (frn23 j (by omega))))
  refine q_callvB (xs := [(0, 7, 0), (6, 455, 0)]) (p2 := 37) rfl rfl rfl rfl (x_rcv_s 455 (x_KS_455 hK23)) rfl (k_plain_7w hc65 hm24.1.choose_spec hK23 (by omega) (by omega) hm24.2.1 (x_PS_N hm24) (by omega) (by omega)) rfl (fun φ26 n26 sl26 hn26 hN26 hs26 hT26 hR26 => ?_)
  obtain ⟨v26, hK26, hV26, frn26⟩ := hR26
  rw [if_neg h1] at hV26
  refine x_n_lt (fun hlt27 => ?_)
  have hz28 := x_mv_lt hV26 hlt27
  have hy28 := hV26.1
  refine q_goto rfl ?_
  refine q_iinc (z := 3) (loc2 := [(6, 455, 0), (0, 60, 0), (6, 225, 0), (0, 3, 0), (0, 7, 0)]) (p2 := 49) rfl rfl (by decide) rfl rfl ?_
  refine q_goto rfl ?_
  refine q_load (v := (0, 3, 0)) (p2 := 20) rfl rfl rfl rfl ?_
  refine q_const (p2 := 21) rfl rfl ?_
  refine q_icmp_s (p2 := 22) rfl (by decide) (by omega) (by omega) rfl (fun hb => absurd hb (show ¬ (¬ (3 < 1000000)) by omega)) (fun _ => ?_)
  refine q_load (v := (6, 455, 0)) (p2 := 23) rfl rfl rfl rfl ?_
  refine q_getv (v := (0, 1, 0)) (p2 := 24) rfl (x_KS_455 hK26) (by decide) hK26.1.choose_spec.2.2.2.2.2.2.2.2.2.2.2.1 rfl ?_
  refine q_if0_s (p2 := 25) rfl (by decide) (by omega) rfl (fun hb => absurd hb (show ¬ (¬ (0 < 1)) by omega)) (fun _ => ?_)
  refine q_load (v := (6, 455, 0)) (p2 := 26) rfl rfl rfl rfl ?_
  refine q_getv (v := (0, 0, 0)) (p2 := 27) rfl (x_KS_455 hK26) (by decide) hK26.1.choose_spec.2.2.2.2.2.2.2.2.2.2.2.2.2.2.2.2.2.1 rfl ?_
  refine q_if0_s (p2 := 28) rfl (by decide) (by omega) rfl (fun hb => absurd hb (show ¬ (¬ (0 = 0)) by omega)) (fun _ => ?_)
  refine q_load (v := (6, 455, 0)) (p2 := 29) rfl rfl rfl rfl ?_
  have hm29 := (x_PS_at hm24 (fun j hj hne => by have hj2 := x_some_lt hlt25 hne; exact (frn26 j (by omega) (by omega))))
  refine q_callrE (xs := [(6, 455, 0)]) (p2 := 30) rfl rfl rfl rfl (x_rcv_s 455 (x_KS_455 hK26)) rfl (k_fetchw hc66 hm29.1.choose_spec hK26 (by omega)) (Nat.le_refl _) (Nat.le_refl _) rfl (fun φ30 hR30 => ?_)
  obtain ⟨hK30, frn30⟩ := hR30
  refine q_store (loc2 := [(6, 455, 0), (0, 60, 0), (6, 225, 0), (0, 3, 0), (0, 19, 0)]) (p2 := 31) rfl rfl rfl rfl rfl ?_
  refine q_load (v := (0, 19, 0)) (p2 := 32) rfl rfl rfl rfl ?_
  refine q_const (p2 := 33) rfl rfl ?_
  refine q_icmp_s (p2 := 34) rfl (by decide) (by omega) (by omega) rfl (fun _ => ?_) (fun hb => absurd (show 10 < 19 by omega) hb)
  refine q_load (v := (0, 19, 0)) (p2 := 39) rfl rfl rfl rfl ?_
  refine q_const (p2 := 40) rfl rfl ?_
  refine q_icmp_s (p2 := 41) rfl (by decide) (by omega) (by omega) rfl (fun hb => absurd hb (show ¬ (19 < 19) by omega)) (fun _ => ?_)
  refine q_load (v := (6, 455, 0)) (p2 := 42) rfl rfl rfl rfl ?_
  refine q_load (v := (0, 19, 0)) (p2 := 43) rfl rfl rfl rfl ?_
  refine x_n_lt (fun hlt32 => ?_)
  have hm31 := (x_PS_at hm29 (fun j hj hne => by have hj2 := x_some_lt hlt27 hne; exact (frn30 j (by omega))))
  have hv33 := x_mv_at hV26 (fun j hj hne => by have hj2 := x_some_lt hlt27 hne; exact (frn30 j (by omega)))
  refine q_callvB (xs := [(0, 19, 0), (6, 455, 0)]) (p2 := 44) rfl rfl rfl rfl (x_rcv_s 455 (x_KS_455 hK30)) rfl (k_op_19_9 hm31.1.choose_spec hK30 (by omega) (by omega) hm31 (x_PS_N hm31) hv33 hc67 (by omega)) rfl (fun φ34 n34 sl34 hn34 hN34 hs34 hT34 hR34 => ?_)
  obtain ⟨v34, hK34, hV34, frn34⟩ := hR34
  rw [if_neg (by show ¬ (0 = 5); decide)] at hV34
  refine x_n_lt (fun hlt35 => ?_)
  have hz36 := x_mv_lt hV34 hlt35
  have hy36 := hV34.1
  refine q_goto rfl ?_
  refine q_iinc (z := 4) (loc2 := [(6, 455, 0), (0, 60, 0), (6, 225, 0), (0, 4, 0), (0, 19, 0)]) (p2 := 49) rfl rfl (by decide) rfl rfl ?_
  refine q_goto rfl ?_
  refine q_load (v := (0, 4, 0)) (p2 := 20) rfl rfl rfl rfl ?_
  refine q_const (p2 := 21) rfl rfl ?_
  refine q_icmp_s (p2 := 22) rfl (by decide) (by omega) (by omega) rfl (fun hb => absurd hb (show ¬ (¬ (4 < 1000000)) by omega)) (fun _ => ?_)
  refine q_load (v := (6, 455, 0)) (p2 := 23) rfl rfl rfl rfl ?_
  refine q_getv (v := (0, 1, 0)) (p2 := 24) rfl (x_KS_455 hK34) (by decide) hK34.1.choose_spec.2.2.2.2.2.2.2.2.2.2.2.1 rfl ?_
  refine q_if0_s (p2 := 25) rfl (by decide) (by omega) rfl (fun hb => absurd hb (show ¬ (¬ (0 < 1)) by omega)) (fun _ => ?_)
  refine q_load (v := (6, 455, 0)) (p2 := 26) rfl rfl rfl rfl ?_
  refine q_getv (v := (0, 0, 0)) (p2 := 27) rfl (x_KS_455 hK34) (by decide) hK34.1.choose_spec.2.2.2.2.2.2.2.2.2.2.2.2.2.2.2.2.2.1 rfl ?_
  refine q_if0_s (p2 := 28) rfl (by decide) (by omega) rfl (fun hb => absurd hb (show ¬ (¬ (0 = 0)) by omega)) (fun _ => ?_)
  refine q_load (v := (6, 455, 0)) (p2 := 29) rfl rfl rfl rfl ?_
  have hm37 := (x_PS_at hm31 (fun j hj hne => by have hj2 := x_some_lt hlt32 hne; exact (frn34 j (by omega) (by omega))))
  refine q_callrE (xs := [(6, 455, 0)]) (p2 := 30) rfl rfl rfl rfl (x_rcv_s 455 (x_KS_455 hK34)) rfl (k_fetchw hc68 hm37.1.choose_spec hK34 (by omega)) (Nat.le_refl _) (Nat.le_refl _) rfl (fun φ38 hR38 => ?_)
  obtain ⟨hK38, frn38⟩ := hR38
  refine q_store (loc2 := [(6, 455, 0), (0, 60, 0), (6, 225, 0), (0, 4, 0), (0, 31, 0)]) (p2 := 31) rfl rfl rfl rfl rfl ?_
  refine q_load (v := (0, 31, 0)) (p2 := 32) rfl rfl rfl rfl ?_
  refine q_const (p2 := 33) rfl rfl ?_
  refine q_icmp_s (p2 := 34) rfl (by decide) (by omega) (by omega) rfl (fun _ => ?_) (fun hb => absurd (show 10 < 31 by omega) hb)
  refine q_load (v := (0, 31, 0)) (p2 := 39) rfl rfl rfl rfl ?_
  refine q_const (p2 := 40) rfl rfl ?_
  refine q_icmp_s (p2 := 41) rfl (by decide) (by omega) (by omega) rfl (fun _ => ?_) (fun hb => absurd (show 19 < 31 by omega) hb)
  refine q_load (v := (6, 455, 0)) (p2 := 46) rfl rfl rfl rfl ?_
  refine q_load (v := (0, 31, 0)) (p2 := 47) rfl rfl rfl rfl ?_
  refine x_n_lt (fun hlt40 => ?_)
  have hm39 := (x_PS_at hm37 (fun j hj hne => by have hj2 := x_some_lt hlt35 hne; exact (frn38 j (by omega))))
  have hv41 := x_mv_at hV34 (fun j hj hne => by have hj2 := x_some_lt hlt35 hne; exact (frn38 j (by omega)))
  refine q_callvB (xs := [(0, 31, 0), (6, 455, 0)]) (p2 := 48) rfl rfl rfl rfl (x_rcv_s 455 (x_KS_455 hK38)) rfl (k_lead_31 (top := 0) (fr := 0) hm39.1.choose_spec hK38 (by omega) (by omega) hv41 (Or.inl rfl) (by omega) (by show (0 : Nat) < 4096; decide)) rfl (fun φ42 n42 sl42 hn42 hN42 hs42 hT42 hR42 => ?_)
  obtain ⟨hK42, frn42⟩ := hR42
  refine q_iinc (z := 5) (loc2 := [(6, 455, 0), (0, 60, 0), (6, 225, 0), (0, 5, 0), (0, 31, 0)]) (p2 := 49) rfl rfl (by decide) rfl rfl ?_
  refine q_goto rfl ?_
  refine q_load (v := (0, 5, 0)) (p2 := 20) rfl rfl rfl rfl ?_
  refine q_const (p2 := 21) rfl rfl ?_
  refine q_icmp_s (p2 := 22) rfl (by decide) (by omega) (by omega) rfl (fun hb => absurd hb (show ¬ (¬ (5 < 1000000)) by omega)) (fun _ => ?_)
  refine q_load (v := (6, 455, 0)) (p2 := 23) rfl rfl rfl rfl ?_
  refine q_getv (v := (0, 0, 0)) (p2 := 24) rfl (x_KS_455 hK42) (by decide) hK42.1.choose_spec.2.2.2.2.2.2.2.2.2.2.2.1 rfl ?_
  refine q_if0_s (p2 := 25) rfl (by decide) (by omega) rfl (fun _ => ?_) (fun hb => absurd (show ¬ (0 < 0) by omega) hb)
  refine q_load (v := (6, 455, 0)) (p2 := 51) rfl rfl rfl rfl ?_
  refine q_getv (v := (0, 0, 0)) (p2 := 52) rfl (x_KS_455 hK42) (by decide) hK42.1.choose_spec.2.2.2.2.2.2.2.2.2.2.2.2.2.2.2.2.2.1 rfl ?_
  refine q_if0_s (p2 := 53) rfl (by decide) (by omega) rfl (fun _ => ?_) (fun hb => absurd (show 0 = 0 by omega) hb)
  refine q_load (v := (6, 455, 0)) (p2 := 57) rfl rfl rfl rfl ?_
  refine q_callrE (xs := [(6, 455, 0)]) (p2 := 58) rfl rfl rfl rfl (x_rcv_s 455 (x_KS_455 hK42)) rfl (k_pop (top := 0) hK42 (by omega)) (Nat.le_refl _) (Nat.le_refl _) rfl (fun φ43 hR43 => ?_)
  obtain ⟨hK43, frn43⟩ := hR43
  refine x_n_lt (fun hlt45 => ?_)
  have hv44 := x_mv_at hv41 (fun j hj hne => by have hj2 := x_some_lt hlt40 hne; exact ((frn43 j (by omega)).trans (frn42 j (by omega))))
  exact q_retv (v := (6, v34, 0)) rfl rfl (⟨rfl, ⟨by omega, by omega⟩, ⟨by omega, by omega⟩, v34, rfl, ⟨_, _, _, _, _, _, _, _, _, _, hK43⟩, hv44, fun j hj1 hj2 => ((frn43 j (by omega)).trans ((frn42 j (by omega)).trans ((frn38 j (by omega)).trans ((frn34 j (by omega) (by omega)).trans ((frn30 j (by omega)).trans ((frn26 j (by omega) (by omega)).trans ((frn23 j (by omega)).trans ((frn20 j (by omega)).trans ((frn17 j (by omega)).trans ((frn14 j (by omega)).trans ((frn11 j (by omega)).trans ((frn8 j (by omega)).trans ((fr4 j (by omega)).trans ((fr3 j (by omega)).trans ((fr2 j (by omega)).trans (fr1 j (by omega)))))))))))))))))⟩)
set_option maxHeartbeats 1000000 in
theorem zc_run_list_ny {d n sl : Nat} {φ : FH} {A : Nat} {B : Nat} {made : Nat} {sv : Nat} {svm : Nat} {s9 : Nat} {comb : Nat → Nat} {hm : Nat → MV} {top : Nat} {fr : Nat} {pc_ : Nat} {mm : Nat} {mi : Nat} {st : Nat → Nat} {lo : Nat → Nat} {re : Nat → Nat} {rs : Nat → Nat} {fl : Nat → Nat} {se : Nat → Nat} {co : Nat → Nat} {w1 w2 : Nat} (hPS : x_PS φ A B made sv svm s9 comb hm) (hKS : x_KS φ top fr pc_ mm mi st lo re rs fl se co) (hn0 : 486 ≤ n) (hmi : mi + 30 ≤ 20000) (hc60 : co 60 = 1) (hc61 : co 61 = 1) (hc62 : co 62 = 1) (hc63 : co 63 = 1) (hc64 : co 64 = 7) (hc65 : co 65 = w1) (hc66 : co 66 = 3) (hc67 : co 67 = 1) (hc68 : co 68 = 1) (hc69 : co 69 = 1) (hc70 : co 70 = 7) (hc71 : co 71 = w2) (hc72 : co 72 = 3) (hc73 : co 73 = 1) (hc74 : co 74 = 18) (hc75 : co 75 = 2) (hc76 : co 76 = 31) (hw1 : w1 < 512) (hw2 : w2 < 512) (h1 : ¬ (w1 < made ∧ comb w1 ≠ 0)) (h2 : w2 < made ∧ comb w2 ≠ 0) : x_f x_P (d + 6) 56 [(6, 455, 0), (0, 60, 0), (6, 225, 0), (11, 0, 0), (11, 0, 0)] φ n sl (x_bR n sl 5 52 (fun zw φ2 => ∃ v, zw = (6, v, 0) ∧ x_KJ φ2 (mi + 3) co ∧ x_mv φ2 v (MV0) ∧ ∀ j, j < n → (j < 455 ∨ 466 ≤ j) → φ2 j = φ j)) := by
  refine x_f_of rfl ?_
  refine x_n_lt (fun hlt0 => ?_)
  refine q_load (v := (6, 455, 0)) (p2 := 1) rfl rfl rfl rfl ?_
  refine q_const (p2 := 2) rfl rfl ?_
  refine q_putfE (v := (0, 0, 0)) (p2 := 3) rfl (x_KS_455 hKS) (by decide) rfl rfl (fun φ1 f1 hh1 hg1 ho1 fr1 => ?_)
  have hs1 := x_KS_put_18 hKS hh1 hg1 ho1 fr1
  refine q_load (v := (6, 455, 0)) (p2 := 4) rfl rfl rfl rfl ?_
  refine q_const (p2 := 5) rfl rfl ?_
  refine q_putfE (v := (0, 0, 0)) (p2 := 6) rfl (x_KS_455 hs1) (by decide) rfl rfl (fun φ2 f2 hh2 hg2 ho2 fr2 => ?_)
  have hs2 := x_KS_put_16 hs1 hh2 hg2 ho2 fr2
  refine q_load (v := (6, 455, 0)) (p2 := 7) rfl rfl rfl rfl ?_
  refine q_const (p2 := 8) rfl rfl ?_
  refine q_putfE (v := (0, 0, 0)) (p2 := 9) rfl (x_KS_455 hs2) (by decide) rfl rfl (fun φ3 f3 hh3 hg3 ho3 fr3 => ?_)
  have hs3 := x_KS_put_4 hs2 hh3 hg3 ho3 fr3
  refine q_load (v := (6, 455, 0)) (p2 := 10) rfl rfl rfl rfl ?_
  refine q_const (p2 := 11) rfl rfl ?_
  refine q_putfE (v := (0, 0, 0)) (p2 := 12) rfl (x_KS_455 hs3) (by decide) rfl rfl (fun φ4 f4 hh4 hg4 ho4 fr4 => ?_)
  have hs4 := x_KS_put_10 hs3 hh4 hg4 ho4 fr4
  refine q_load (v := (6, 455, 0)) (p2 := 13) rfl rfl rfl rfl ?_
  refine q_load (v := (0, 60, 0)) (p2 := 14) rfl rfl rfl rfl ?_
  refine q_const (p2 := 15) rfl rfl ?_
  refine q_load (v := (6, 225, 0)) (p2 := 16) rfl rfl rfl rfl ?_
  refine x_n_lt (fun hlt6 => ?_)
  have hm5 := (x_PS_at hPS (fun j hj hne => by have hj2 := x_some_lt hlt0 hne; exact ((fr4 j (by omega)).trans ((fr3 j (by omega)).trans ((fr2 j (by omega)).trans (fr1 j (by omega)))))))
  have hv7 := x_mv_at (x_PS_N hPS) (fun j hj hne => by have hj2 := x_some_lt hlt0 hne; exact ((fr4 j (by omega)).trans ((fr3 j (by omega)).trans ((fr2 j (by omega)).trans (fr1 j (by omega))))))
  refine q_callvE (xs := [(6, 225, 0), (0, 4294967293, 0), (0, 60, 0), (6, 455, 0)]) (p2 := 17) rfl rfl rfl rfl (x_rcv_s 455 (x_KS_455 hs4)) rfl (k_open hs4 (x_PS_N hm5) hv7 (by omega)) (Nat.le_refl _) (Nat.le_refl _) rfl (fun φ8 hR8 => ?_)
  obtain ⟨hK8, frn8⟩ := hR8
  refine q_const (p2 := 18) rfl rfl ?_
  refine q_store (loc2 := [(6, 455, 0), (0, 60, 0), (6, 225, 0), (0, 0, 0), (11, 0, 0)]) (p2 := 19) rfl rfl rfl rfl rfl ?_
  refine q_load (v := (0, 0, 0)) (p2 := 20) rfl rfl rfl rfl ?_
  refine q_const (p2 := 21) rfl rfl ?_
  refine q_icmp_s (p2 := 22) rfl (by decide) (by omega) (by omega) rfl (fun hb => absurd hb (show ¬ (¬ (0 < 1000000)) by omega)) (fun _ => ?_)
  refine q_load (v := (6, 455, 0)) (p2 := 23) rfl rfl rfl rfl ?_
  refine q_getv (v := (0, 1, 0)) (p2 := 24) rfl (x_KS_455 hK8) (by decide) hK8.1.choose_spec.2.2.2.2.2.2.2.2.2.2.2.1 rfl ?_
  refine q_if0_s (p2 := 25) rfl (by decide) (by omega) rfl (fun hb => absurd hb (show ¬ (¬ (0 < 1)) by omega)) (fun _ => ?_)
  refine q_load (v := (6, 455, 0)) (p2 := 26) rfl rfl rfl rfl ?_
  refine q_getv (v := (0, 0, 0)) (p2 := 27) rfl (x_KS_455 hK8) (by decide) hK8.1.choose_spec.2.2.2.2.2.2.2.2.2.2.2.2.2.2.2.2.2.1 rfl ?_
  refine q_if0_s (p2 := 28) rfl (by decide) (by omega) rfl (fun hb => absurd hb (show ¬ (¬ (0 = 0)) by omega)) (fun _ => ?_)
  refine q_load (v := (6, 455, 0)) (p2 := 29) rfl rfl rfl rfl ?_
  refine x_n_lt (fun hlt10 => ?_)
  have hm9 := (x_PS_at hm5 (fun j hj hne => by have hj2 := x_some_lt hlt6 hne; exact (frn8 j (by omega))))
  refine q_callrE (xs := [(6, 455, 0)]) (p2 := 30) rfl rfl rfl rfl (x_rcv_s 455 (x_KS_455 hK8)) rfl (k_fetchw hc60 hm9.1.choose_spec hK8 (by omega)) (Nat.le_refl _) (Nat.le_refl _) rfl (fun φ11 hR11 => ?_)
  obtain ⟨hK11, frn11⟩ := hR11
  refine q_store (loc2 := [(6, 455, 0), (0, 60, 0), (6, 225, 0), (0, 0, 0), (0, 1, 0)]) (p2 := 31) rfl rfl rfl rfl rfl ?_
  refine q_load (v := (0, 1, 0)) (p2 := 32) rfl rfl rfl rfl ?_
  refine q_const (p2 := 33) rfl rfl ?_
  refine q_icmp_s (p2 := 34) rfl (by decide) (by omega) (by omega) rfl (fun hb => absurd hb (show ¬ (10 < 1) by omega)) (fun _ => ?_)
  refine q_load (v := (6, 455, 0)) (p2 := 35) rfl rfl rfl rfl ?_
  refine q_load (v := (0, 1, 0)) (p2 := 36) rfl rfl rfl rfl ?_
  refine x_n_lt (fun hlt13 => ?_)
  have hm12 := (x_PS_at hm9 (fun j hj hne => by have hj2 := x_some_lt hlt10 hne; exact (frn11 j (by omega))))
  refine q_callvB (xs := [(0, 1, 0), (6, 455, 0)]) (p2 := 37) rfl rfl rfl rfl (x_rcv_s 455 (x_KS_455 hK11)) rfl (k_plain_1w hc61 hm12.1.choose_spec hK11 (by omega) (by omega) (by omega) (by omega)) rfl (fun φ14 n14 sl14 hn14 hN14 hs14 hT14 hR14 => ?_)
  obtain ⟨hK14, frn14⟩ := hR14
  refine q_goto rfl ?_
  refine q_iinc (z := 1) (loc2 := [(6, 455, 0), (0, 60, 0), (6, 225, 0), (0, 1, 0), (0, 1, 0)]) (p2 := 49) rfl rfl (by decide) rfl rfl ?_
  refine q_goto rfl ?_
  refine q_load (v := (0, 1, 0)) (p2 := 20) rfl rfl rfl rfl ?_
  refine q_const (p2 := 21) rfl rfl ?_
  refine q_icmp_s (p2 := 22) rfl (by decide) (by omega) (by omega) rfl (fun hb => absurd hb (show ¬ (¬ (1 < 1000000)) by omega)) (fun _ => ?_)
  refine q_load (v := (6, 455, 0)) (p2 := 23) rfl rfl rfl rfl ?_
  refine q_getv (v := (0, 1, 0)) (p2 := 24) rfl (x_KS_455 hK14) (by decide) hK14.1.choose_spec.2.2.2.2.2.2.2.2.2.2.2.1 rfl ?_
  refine q_if0_s (p2 := 25) rfl (by decide) (by omega) rfl (fun hb => absurd hb (show ¬ (¬ (0 < 1)) by omega)) (fun _ => ?_)
  refine q_load (v := (6, 455, 0)) (p2 := 26) rfl rfl rfl rfl ?_
  refine q_getv (v := (0, 0, 0)) (p2 := 27) rfl (x_KS_455 hK14) (by decide) hK14.1.choose_spec.2.2.2.2.2.2.2.2.2.2.2.2.2.2.2.2.2.1 rfl ?_
  refine q_if0_s (p2 := 28) rfl (by decide) (by omega) rfl (fun hb => absurd hb (show ¬ (¬ (0 = 0)) by omega)) (fun _ => ?_)
  refine q_load (v := (6, 455, 0)) (p2 := 29) rfl rfl rfl rfl ?_
  refine x_n_lt (fun hlt16 => ?_)
  have hm15 := (x_PS_at hm12 (fun j hj hne => by have hj2 := x_some_lt hlt13 hne; exact (frn14 j (by omega))))
  refine q_callrE (xs := [(6, 455, 0)]) (p2 := 30) rfl rfl rfl rfl (x_rcv_s 455 (x_KS_455 hK14)) rfl (k_fetchw hc62 hm15.1.choose_spec hK14 (by omega)) (Nat.le_refl _) (Nat.le_refl _) rfl (fun φ17 hR17 => ?_)
  obtain ⟨hK17, frn17⟩ := hR17
  refine q_store (loc2 := [(6, 455, 0), (0, 60, 0), (6, 225, 0), (0, 1, 0), (0, 1, 0)]) (p2 := 31) rfl rfl rfl rfl rfl ?_
  refine q_load (v := (0, 1, 0)) (p2 := 32) rfl rfl rfl rfl ?_
  refine q_const (p2 := 33) rfl rfl ?_
  refine q_icmp_s (p2 := 34) rfl (by decide) (by omega) (by omega) rfl (fun hb => absurd hb (show ¬ (10 < 1) by omega)) (fun _ => ?_)
  refine q_load (v := (6, 455, 0)) (p2 := 35) rfl rfl rfl rfl ?_
  refine q_load (v := (0, 1, 0)) (p2 := 36) rfl rfl rfl rfl ?_
  refine x_n_lt (fun hlt19 => ?_)
  have hm18 := (x_PS_at hm15 (fun j hj hne => by have hj2 := x_some_lt hlt16 hne; exact (frn17 j (by omega))))
  refine q_callvB (xs := [(0, 1, 0), (6, 455, 0)]) (p2 := 37) rfl rfl rfl rfl (x_rcv_s 455 (x_KS_455 hK17)) rfl (k_plain_1w hc63 hm18.1.choose_spec hK17 (by omega) (by omega) (by omega) (by omega)) rfl (fun φ20 n20 sl20 hn20 hN20 hs20 hT20 hR20 => ?_)
  obtain ⟨hK20, frn20⟩ := hR20
  refine q_goto rfl ?_
  refine q_iinc (z := 2) (loc2 := [(6, 455, 0), (0, 60, 0), (6, 225, 0), (0, 2, 0), (0, 1, 0)]) (p2 := 49) rfl rfl (by decide) rfl rfl ?_
  refine q_goto rfl ?_
  refine q_load (v := (0, 2, 0)) (p2 := 20) rfl rfl rfl rfl ?_
  refine q_const (p2 := 21) rfl rfl ?_
  refine q_icmp_s (p2 := 22) rfl (by decide) (by omega) (by omega) rfl (fun hb => absurd hb (show ¬ (¬ (2 < 1000000)) by omega)) (fun _ => ?_)
  refine q_load (v := (6, 455, 0)) (p2 := 23) rfl rfl rfl rfl ?_
  refine q_getv (v := (0, 1, 0)) (p2 := 24) rfl (x_KS_455 hK20) (by decide) hK20.1.choose_spec.2.2.2.2.2.2.2.2.2.2.2.1 rfl ?_
  refine q_if0_s (p2 := 25) rfl (by decide) (by omega) rfl (fun hb => absurd hb (show ¬ (¬ (0 < 1)) by omega)) (fun _ => ?_)
  refine q_load (v := (6, 455, 0)) (p2 := 26) rfl rfl rfl rfl ?_
  refine q_getv (v := (0, 0, 0)) (p2 := 27) rfl (x_KS_455 hK20) (by decide) hK20.1.choose_spec.2.2.2.2.2.2.2.2.2.2.2.2.2.2.2.2.2.1 rfl ?_
  refine q_if0_s (p2 := 28) rfl (by decide) (by omega) rfl (fun hb => absurd hb (show ¬ (¬ (0 = 0)) by omega)) (fun _ => ?_)
  refine q_load (v := (6, 455, 0)) (p2 := 29) rfl rfl rfl rfl ?_
  refine x_n_lt (fun hlt22 => ?_)
  have hm21 := (x_PS_at hm18 (fun j hj hne => by have hj2 := x_some_lt hlt19 hne; exact (frn20 j (by omega))))
  refine q_callrE (xs := [(6, 455, 0)]) (p2 := 30) rfl rfl rfl rfl (x_rcv_s 455 (x_KS_455 hK20)) rfl (k_fetchw hc64 hm21.1.choose_spec hK20 (by omega)) (Nat.le_refl _) (Nat.le_refl _) rfl (fun φ23 hR23 => ?_)
  obtain ⟨hK23, frn23⟩ := hR23
  refine q_store (loc2 := [(6, 455, 0), (0, 60, 0), (6, 225, 0), (0, 2, 0), (0, 7, 0)]) (p2 := 31) rfl rfl rfl rfl rfl ?_
  refine q_load (v := (0, 7, 0)) (p2 := 32) rfl rfl rfl rfl ?_
  refine q_const (p2 := 33) rfl rfl ?_
  refine q_icmp_s (p2 := 34) rfl (by decide) (by omega) (by omega) rfl (fun hb => absurd hb (show ¬ (10 < 7) by omega)) (fun _ => ?_)
  refine q_load (v := (6, 455, 0)) (p2 := 35) rfl rfl rfl rfl ?_
  refine q_load (v := (0, 7, 0)) (p2 := 36) rfl rfl rfl rfl ?_
  refine x_n_lt (fun hlt25 => ?_)
  have hm24 := (x_PS_at hm21 (fun j hj hne => by have hj2 := x_some_lt hlt22 hne; exact (frn23 j (by omega))))
  refine q_callvB (xs := [(0, 7, 0), (6, 455, 0)]) (p2 := 37) rfl rfl rfl rfl (x_rcv_s 455 (x_KS_455 hK23)) rfl (k_plain_7w hc65 hm24.1.choose_spec hK23 (by omega) (by omega) hm24.2.1 (x_PS_N hm24) (by omega) (by omega)) rfl (fun φ26 n26 sl26 hn26 hN26 hs26 hT26 hR26 => ?_)
  obtain ⟨v26, hK26, hV26, frn26⟩ := hR26
  rw [if_neg h1] at hV26
  refine x_n_lt (fun hlt27 => ?_)
  have hz28 := x_mv_lt hV26 hlt27
  have hy28 := hV26.1
  refine q_goto rfl ?_
  refine q_iinc (z := 3) (loc2 := [(6, 455, 0), (0, 60, 0), (6, 225, 0), (0, 3, 0), (0, 7, 0)]) (p2 := 49) rfl rfl (by decide) rfl rfl ?_
  refine q_goto rfl ?_
  refine q_load (v := (0, 3, 0)) (p2 := 20) rfl rfl rfl rfl ?_
  refine q_const (p2 := 21) rfl rfl ?_
  refine q_icmp_s (p2 := 22) rfl (by decide) (by omega) (by omega) rfl (fun hb => absurd hb (show ¬ (¬ (3 < 1000000)) by omega)) (fun _ => ?_)
  refine q_load (v := (6, 455, 0)) (p2 := 23) rfl rfl rfl rfl ?_
  refine q_getv (v := (0, 1, 0)) (p2 := 24) rfl (x_KS_455 hK26) (by decide) hK26.1.choose_spec.2.2.2.2.2.2.2.2.2.2.2.1 rfl ?_
  refine q_if0_s (p2 := 25) rfl (by decide) (by omega) rfl (fun hb => absurd hb (show ¬ (¬ (0 < 1)) by omega)) (fun _ => ?_)
  refine q_load (v := (6, 455, 0)) (p2 := 26) rfl rfl rfl rfl ?_
  refine q_getv (v := (0, 0, 0)) (p2 := 27) rfl (x_KS_455 hK26) (by decide) hK26.1.choose_spec.2.2.2.2.2.2.2.2.2.2.2.2.2.2.2.2.2.1 rfl ?_
  refine q_if0_s (p2 := 28) rfl (by decide) (by omega) rfl (fun hb => absurd hb (show ¬ (¬ (0 = 0)) by omega)) (fun _ => ?_)
  refine q_load (v := (6, 455, 0)) (p2 := 29) rfl rfl rfl rfl ?_
  have hm29 := (x_PS_at hm24 (fun j hj hne => by have hj2 := x_some_lt hlt25 hne; exact (frn26 j (by omega) (by omega))))
  refine q_callrE (xs := [(6, 455, 0)]) (p2 := 30) rfl rfl rfl rfl (x_rcv_s 455 (x_KS_455 hK26)) rfl (k_fetchw hc66 hm29.1.choose_spec hK26 (by omega)) (Nat.le_refl _) (Nat.le_refl _) rfl (fun φ30 hR30 => ?_)
  obtain ⟨hK30, frn30⟩ := hR30
  refine q_store (loc2 := [(6, 455, 0), (0, 60, 0), (6, 225, 0), (0, 3, 0), (0, 3, 0)]) (p2 := 31) rfl rfl rfl rfl rfl ?_
  refine q_load (v := (0, 3, 0)) (p2 := 32) rfl rfl rfl rfl ?_
  refine q_const (p2 := 33) rfl rfl ?_
  refine q_icmp_s (p2 := 34) rfl (by decide) (by omega) (by omega) rfl (fun hb => absurd hb (show ¬ (10 < 3) by omega)) (fun _ => ?_)
  refine q_load (v := (6, 455, 0)) (p2 := 35) rfl rfl rfl rfl ?_
  refine q_load (v := (0, 3, 0)) (p2 := 36) rfl rfl rfl rfl ?_
  refine x_n_lt (fun hlt32 => ?_)
  have hm31 := (x_PS_at hm29 (fun j hj hne => by have hj2 := x_some_lt hlt27 hne; exact (frn30 j (by omega))))
  refine q_callvB (xs := [(0, 3, 0), (6, 455, 0)]) (p2 := 37) rfl rfl rfl rfl (x_rcv_s 455 (x_KS_455 hK30)) rfl (k_plain_3w hc67 hm31.1.choose_spec hK30 (by omega) (by omega) (by omega) (by omega)) rfl (fun φ33 n33 sl33 hn33 hN33 hs33 hT33 hR33 => ?_)
  obtain ⟨v33, hK33, hV33, frn33⟩ := hR33
  refine x_n_lt (fun hlt34 => ?_)
  have hz35 := x_mv_lt hV33 hlt34
  have hy35 := hV33.1
  refine q_goto rfl ?_
  refine q_iinc (z := 4) (loc2 := [(6, 455, 0), (0, 60, 0), (6, 225, 0), (0, 4, 0), (0, 3, 0)]) (p2 := 49) rfl rfl (by decide) rfl rfl ?_
  refine q_goto rfl ?_
  refine q_load (v := (0, 4, 0)) (p2 := 20) rfl rfl rfl rfl ?_
  refine q_const (p2 := 21) rfl rfl ?_
  refine q_icmp_s (p2 := 22) rfl (by decide) (by omega) (by omega) rfl (fun hb => absurd hb (show ¬ (¬ (4 < 1000000)) by omega)) (fun _ => ?_)
  refine q_load (v := (6, 455, 0)) (p2 := 23) rfl rfl rfl rfl ?_
  refine q_getv (v := (0, 1, 0)) (p2 := 24) rfl (x_KS_455 hK33) (by decide) hK33.1.choose_spec.2.2.2.2.2.2.2.2.2.2.2.1 rfl ?_
  refine q_if0_s (p2 := 25) rfl (by decide) (by omega) rfl (fun hb => absurd hb (show ¬ (¬ (0 < 1)) by omega)) (fun _ => ?_)
  refine q_load (v := (6, 455, 0)) (p2 := 26) rfl rfl rfl rfl ?_
  refine q_getv (v := (0, 0, 0)) (p2 := 27) rfl (x_KS_455 hK33) (by decide) hK33.1.choose_spec.2.2.2.2.2.2.2.2.2.2.2.2.2.2.2.2.2.1 rfl ?_
  refine q_if0_s (p2 := 28) rfl (by decide) (by omega) rfl (fun hb => absurd hb (show ¬ (¬ (0 = 0)) by omega)) (fun _ => ?_)
  refine q_load (v := (6, 455, 0)) (p2 := 29) rfl rfl rfl rfl ?_
  have hm36 := (x_PS_at hm31 (fun j hj hne => by have hj2 := x_some_lt hlt32 hne; exact (frn33 j (by omega) (by omega))))
  refine q_callrE (xs := [(6, 455, 0)]) (p2 := 30) rfl rfl rfl rfl (x_rcv_s 455 (x_KS_455 hK33)) rfl (k_fetchw hc68 hm36.1.choose_spec hK33 (by omega)) (Nat.le_refl _) (Nat.le_refl _) rfl (fun φ37 hR37 => ?_)
  obtain ⟨hK37, frn37⟩ := hR37
  refine q_store (loc2 := [(6, 455, 0), (0, 60, 0), (6, 225, 0), (0, 4, 0), (0, 1, 0)]) (p2 := 31) rfl rfl rfl rfl rfl ?_
  refine q_load (v := (0, 1, 0)) (p2 := 32) rfl rfl rfl rfl ?_
  refine q_const (p2 := 33) rfl rfl ?_
  refine q_icmp_s (p2 := 34) rfl (by decide) (by omega) (by omega) rfl (fun hb => absurd hb (show ¬ (10 < 1) by omega)) (fun _ => ?_)
  refine q_load (v := (6, 455, 0)) (p2 := 35) rfl rfl rfl rfl ?_
  refine q_load (v := (0, 1, 0)) (p2 := 36) rfl rfl rfl rfl ?_
  refine x_n_lt (fun hlt39 => ?_)
  have hm38 := (x_PS_at hm36 (fun j hj hne => by have hj2 := x_some_lt hlt34 hne; exact (frn37 j (by omega))))
  refine q_callvB (xs := [(0, 1, 0), (6, 455, 0)]) (p2 := 37) rfl rfl rfl rfl (x_rcv_s 455 (x_KS_455 hK37)) rfl (k_plain_1w hc69 hm38.1.choose_spec hK37 (by omega) (by omega) (by omega) (by omega)) rfl (fun φ40 n40 sl40 hn40 hN40 hs40 hT40 hR40 => ?_)
  obtain ⟨hK40, frn40⟩ := hR40
  refine q_goto rfl ?_
  refine q_iinc (z := 5) (loc2 := [(6, 455, 0), (0, 60, 0), (6, 225, 0), (0, 5, 0), (0, 1, 0)]) (p2 := 49) rfl rfl (by decide) rfl rfl ?_
  refine q_goto rfl ?_
  refine q_load (v := (0, 5, 0)) (p2 := 20) rfl rfl rfl rfl ?_
  refine q_const (p2 := 21) rfl rfl ?_
  refine q_icmp_s (p2 := 22) rfl (by decide) (by omega) (by omega) rfl (fun hb => absurd hb (show ¬ (¬ (5 < 1000000)) by omega)) (fun _ => ?_)
  refine q_load (v := (6, 455, 0)) (p2 := 23) rfl rfl rfl rfl ?_
  refine q_getv (v := (0, 1, 0)) (p2 := 24) rfl (x_KS_455 hK40) (by decide) hK40.1.choose_spec.2.2.2.2.2.2.2.2.2.2.2.1 rfl ?_
  refine q_if0_s (p2 := 25) rfl (by decide) (by omega) rfl (fun hb => absurd hb (show ¬ (¬ (0 < 1)) by omega)) (fun _ => ?_)
  refine q_load (v := (6, 455, 0)) (p2 := 26) rfl rfl rfl rfl ?_
  refine q_getv (v := (0, 0, 0)) (p2 := 27) rfl (x_KS_455 hK40) (by decide) hK40.1.choose_spec.2.2.2.2.2.2.2.2.2.2.2.2.2.2.2.2.2.1 rfl ?_
  refine q_if0_s (p2 := 28) rfl (by decide) (by omega) rfl (fun hb => absurd hb (show ¬ (¬ (0 = 0)) by omega)) (fun _ => ?_)
  refine q_load (v := (6, 455, 0)) (p2 := 29) rfl rfl rfl rfl ?_
  refine x_n_lt (fun hlt42 => ?_)
  have hm41 := (x_PS_at hm38 (fun j hj hne => by have hj2 := x_some_lt hlt39 hne; exact (frn40 j (by omega))))
  refine q_callrE (xs := [(6, 455, 0)]) (p2 := 30) rfl rfl rfl rfl (x_rcv_s 455 (x_KS_455 hK40)) rfl (k_fetchw hc70 hm41.1.choose_spec hK40 (by omega)) (Nat.le_refl _) (Nat.le_refl _) rfl (fun φ43 hR43 => ?_)
  obtain ⟨hK43, frn43⟩ := hR43
  refine q_store (loc2 := [(6, 455, 0), (0, 60, 0), (6, 225, 0), (0, 5, 0), (0, 7, 0)]) (p2 := 31) rfl rfl rfl rfl rfl ?_
  refine q_load (v := (0, 7, 0)) (p2 := 32) rfl rfl rfl rfl ?_
  refine q_const (p2 := 33) rfl rfl ?_
  refine q_icmp_s (p2 := 34) rfl (by decide) (by omega) (by omega) rfl (fun hb => absurd hb (show ¬ (10 < 7) by omega)) (fun _ => ?_)
  refine q_load (v := (6, 455, 0)) (p2 := 35) rfl rfl rfl rfl ?_
  refine q_load (v := (0, 7, 0)) (p2 := 36) rfl rfl rfl rfl ?_
  refine x_n_lt (fun hlt45 => ?_)
  have hm44 := (x_PS_at hm41 (fun j hj hne => by have hj2 := x_some_lt hlt42 hne; exact (frn43 j (by omega))))
  refine q_callvB (xs := [(0, 7, 0), (6, 455, 0)]) (p2 := 37) rfl rfl rfl rfl (x_rcv_s 455 (x_KS_455 hK43)) rfl (k_plain_7w hc71 hm44.1.choose_spec hK43 (by omega) (by omega) hm44.2.1 (x_PS_N hm44) (by omega) (by omega)) rfl (fun φ46 n46 sl46 hn46 hN46 hs46 hT46 hR46 => ?_)
  obtain ⟨v46, hK46, hV46, frn46⟩ := hR46
  rw [if_pos h2] at hV46
  refine x_n_lt (fun hlt47 => ?_)
  have hz48 := x_mv_lt hV46 hlt47
  have hy48 := hV46.1
  refine q_goto rfl ?_
  refine q_iinc (z := 6) (loc2 := [(6, 455, 0), (0, 60, 0), (6, 225, 0), (0, 6, 0), (0, 7, 0)]) (p2 := 49) rfl rfl (by decide) rfl rfl ?_
  refine q_goto rfl ?_
  refine q_load (v := (0, 6, 0)) (p2 := 20) rfl rfl rfl rfl ?_
  refine q_const (p2 := 21) rfl rfl ?_
  refine q_icmp_s (p2 := 22) rfl (by decide) (by omega) (by omega) rfl (fun hb => absurd hb (show ¬ (¬ (6 < 1000000)) by omega)) (fun _ => ?_)
  refine q_load (v := (6, 455, 0)) (p2 := 23) rfl rfl rfl rfl ?_
  refine q_getv (v := (0, 1, 0)) (p2 := 24) rfl (x_KS_455 hK46) (by decide) hK46.1.choose_spec.2.2.2.2.2.2.2.2.2.2.2.1 rfl ?_
  refine q_if0_s (p2 := 25) rfl (by decide) (by omega) rfl (fun hb => absurd hb (show ¬ (¬ (0 < 1)) by omega)) (fun _ => ?_)
  refine q_load (v := (6, 455, 0)) (p2 := 26) rfl rfl rfl rfl ?_
  refine q_getv (v := (0, 0, 0)) (p2 := 27) rfl (x_KS_455 hK46) (by decide) hK46.1.choose_spec.2.2.2.2.2.2.2.2.2.2.2.2.2.2.2.2.2.1 rfl ?_
  refine q_if0_s (p2 := 28) rfl (by decide) (by omega) rfl (fun hb => absurd hb (show ¬ (¬ (0 = 0)) by omega)) (fun _ => ?_)
  refine q_load (v := (6, 455, 0)) (p2 := 29) rfl rfl rfl rfl ?_
  have hm49 := (x_PS_at hm44 (fun j hj hne => by have hj2 := x_some_lt hlt45 hne; exact (frn46 j (by omega) (by omega))))
  refine q_callrE (xs := [(6, 455, 0)]) (p2 := 30) rfl rfl rfl rfl (x_rcv_s 455 (x_KS_455 hK46)) rfl (k_fetchw hc72 hm49.1.choose_spec hK46 (by omega)) (Nat.le_refl _) (Nat.le_refl _) rfl (fun φ50 hR50 => ?_)
  obtain ⟨hK50, frn50⟩ := hR50
  refine q_store (loc2 := [(6, 455, 0), (0, 60, 0), (6, 225, 0), (0, 6, 0), (0, 3, 0)]) (p2 := 31) rfl rfl rfl rfl rfl ?_
  refine q_load (v := (0, 3, 0)) (p2 := 32) rfl rfl rfl rfl ?_
  refine q_const (p2 := 33) rfl rfl ?_
  refine q_icmp_s (p2 := 34) rfl (by decide) (by omega) (by omega) rfl (fun hb => absurd hb (show ¬ (10 < 3) by omega)) (fun _ => ?_)
  refine q_load (v := (6, 455, 0)) (p2 := 35) rfl rfl rfl rfl ?_
  refine q_load (v := (0, 3, 0)) (p2 := 36) rfl rfl rfl rfl ?_
  refine x_n_lt (fun hlt52 => ?_)
  have hm51 := (x_PS_at hm49 (fun j hj hne => by have hj2 := x_some_lt hlt47 hne; exact (frn50 j (by omega))))
  refine q_callvB (xs := [(0, 3, 0), (6, 455, 0)]) (p2 := 37) rfl rfl rfl rfl (x_rcv_s 455 (x_KS_455 hK50)) rfl (k_plain_3w hc73 hm51.1.choose_spec hK50 (by omega) (by omega) (by omega) (by omega)) rfl (fun φ53 n53 sl53 hn53 hN53 hs53 hT53 hR53 => ?_)
  obtain ⟨v53, hK53, hV53, frn53⟩ := hR53
  refine x_n_lt (fun hlt54 => ?_)
  have hz55 := x_mv_lt hV53 hlt54
  have hy55 := hV53.1
  refine q_goto rfl ?_
  refine q_iinc (z := 7) (loc2 := [(6, 455, 0), (0, 60, 0), (6, 225, 0), (0, 7, 0), (0, 3, 0)]) (p2 := 49) rfl rfl (by decide) rfl rfl ?_
  refine q_goto rfl ?_
  refine q_load (v := (0, 7, 0)) (p2 := 20) rfl rfl rfl rfl ?_
  refine q_const (p2 := 21) rfl rfl ?_
  refine q_icmp_s (p2 := 22) rfl (by decide) (by omega) (by omega) rfl (fun hb => absurd hb (show ¬ (¬ (7 < 1000000)) by omega)) (fun _ => ?_)
  refine q_load (v := (6, 455, 0)) (p2 := 23) rfl rfl rfl rfl ?_
  refine q_getv (v := (0, 1, 0)) (p2 := 24) rfl (x_KS_455 hK53) (by decide) hK53.1.choose_spec.2.2.2.2.2.2.2.2.2.2.2.1 rfl ?_
  refine q_if0_s (p2 := 25) rfl (by decide) (by omega) rfl (fun hb => absurd hb (show ¬ (¬ (0 < 1)) by omega)) (fun _ => ?_)
  refine q_load (v := (6, 455, 0)) (p2 := 26) rfl rfl rfl rfl ?_
  refine q_getv (v := (0, 0, 0)) (p2 := 27) rfl (x_KS_455 hK53) (by decide) hK53.1.choose_spec.2.2.2.2.2.2.2.2.2.2.2.2.2.2.2.2.2.1 rfl ?_
  refine q_if0_s (p2 := 28) rfl (by decide) (by omega) rfl (fun hb => absurd hb (show ¬ (¬ (0 = 0)) by omega)) (fun _ => ?_)
  refine q_load (v := (6, 455, 0)) (p2 := 29) rfl rfl rfl rfl ?_
  have hm56 := (x_PS_at hm51 (fun j hj hne => by have hj2 := x_some_lt hlt52 hne; exact (frn53 j (by omega) (by omega))))
  refine q_callrE (xs := [(6, 455, 0)]) (p2 := 30) rfl rfl rfl rfl (x_rcv_s 455 (x_KS_455 hK53)) rfl (k_fetchw hc74 hm56.1.choose_spec hK53 (by omega)) (Nat.le_refl _) (Nat.le_refl _) rfl (fun φ57 hR57 => ?_)
  obtain ⟨hK57, frn57⟩ := hR57
  refine q_store (loc2 := [(6, 455, 0), (0, 60, 0), (6, 225, 0), (0, 7, 0), (0, 18, 0)]) (p2 := 31) rfl rfl rfl rfl rfl ?_
  refine q_load (v := (0, 18, 0)) (p2 := 32) rfl rfl rfl rfl ?_
  refine q_const (p2 := 33) rfl rfl ?_
  refine q_icmp_s (p2 := 34) rfl (by decide) (by omega) (by omega) rfl (fun _ => ?_) (fun hb => absurd (show 10 < 18 by omega) hb)
  refine q_load (v := (0, 18, 0)) (p2 := 39) rfl rfl rfl rfl ?_
  refine q_const (p2 := 40) rfl rfl ?_
  refine q_icmp_s (p2 := 41) rfl (by decide) (by omega) (by omega) rfl (fun hb => absurd hb (show ¬ (19 < 18) by omega)) (fun _ => ?_)
  refine q_load (v := (6, 455, 0)) (p2 := 42) rfl rfl rfl rfl ?_
  refine q_load (v := (0, 18, 0)) (p2 := 43) rfl rfl rfl rfl ?_
  refine x_n_lt (fun hlt59 => ?_)
  have hv58 := x_mv_at hV26 (fun j hj hne => by have hj2 := x_some_lt hlt27 hne; exact ((frn57 j (by omega)).trans ((frn53 j (by omega) (by omega)).trans ((frn50 j (by omega)).trans ((frn46 j (by omega) (by omega)).trans ((frn43 j (by omega)).trans ((frn40 j (by omega)).trans ((frn37 j (by omega)).trans ((frn33 j (by omega) (by omega)).trans (frn30 j (by omega)))))))))))
  have hv60 := x_mv_at hV33 (fun j hj hne => by have hj2 := x_some_lt hlt34 hne; exact ((frn57 j (by omega)).trans ((frn53 j (by omega) (by omega)).trans ((frn50 j (by omega)).trans ((frn46 j (by omega) (by omega)).trans ((frn43 j (by omega)).trans ((frn40 j (by omega)).trans (frn37 j (by omega)))))))))
  have hv61 := x_mv_at hV46 (fun j hj hne => by have hj2 := x_some_lt hlt47 hne; exact ((frn57 j (by omega)).trans ((frn53 j (by omega) (by omega)).trans (frn50 j (by omega)))))
  have hv62 := x_mv_at hV53 (fun j hj hne => by have hj2 := x_some_lt hlt54 hne; exact (frn57 j (by omega)))
  have hm63 := (x_PS_at hm56 (fun j hj hne => by have hj2 := x_some_lt hlt54 hne; exact (frn57 j (by omega))))
  refine q_callvB (xs := [(0, 18, 0), (6, 455, 0)]) (p2 := 44) rfl rfl rfl rfl (x_rcv_s 455 (x_KS_455 hK57)) rfl (zc_kop18_05 (a := 0) (b := w2) hm63 hK57 hc75 (by omega) ((x_s_ne (by decide)).trans ((x_s_ne (by decide)).trans ((x_s_ne (by decide)).trans (x_s_eq)))) ((x_s_ne (by decide)).trans ((x_s_ne (by decide)).trans (x_s_eq))) ((x_s_ne (by decide)).trans (x_s_eq)) (x_s_eq) hv58 hv60 hv61 hv62 (by omega) (by omega) (by omega)) rfl (fun φ64 n64 sl64 hn64 hN64 hs64 hT64 hR64 => ?_)
  obtain ⟨v64, hK64, hV64, frn64⟩ := hR64
  refine x_n_lt (fun hlt65 => ?_)
  have hz66 := x_mv_lt hV64 hlt65
  have hy66 := hV64.1
  refine q_goto rfl ?_
  refine q_iinc (z := 8) (loc2 := [(6, 455, 0), (0, 60, 0), (6, 225, 0), (0, 8, 0), (0, 18, 0)]) (p2 := 49) rfl rfl (by decide) rfl rfl ?_
  refine q_goto rfl ?_
  refine q_load (v := (0, 8, 0)) (p2 := 20) rfl rfl rfl rfl ?_
  refine q_const (p2 := 21) rfl rfl ?_
  refine q_icmp_s (p2 := 22) rfl (by decide) (by omega) (by omega) rfl (fun hb => absurd hb (show ¬ (¬ (8 < 1000000)) by omega)) (fun _ => ?_)
  refine q_load (v := (6, 455, 0)) (p2 := 23) rfl rfl rfl rfl ?_
  refine q_getv (v := (0, 1, 0)) (p2 := 24) rfl (x_KS_455 hK64) (by decide) hK64.1.choose_spec.2.2.2.2.2.2.2.2.2.2.2.1 rfl ?_
  refine q_if0_s (p2 := 25) rfl (by decide) (by omega) rfl (fun hb => absurd hb (show ¬ (¬ (0 < 1)) by omega)) (fun _ => ?_)
  refine q_load (v := (6, 455, 0)) (p2 := 26) rfl rfl rfl rfl ?_
  refine q_getv (v := (0, 0, 0)) (p2 := 27) rfl (x_KS_455 hK64) (by decide) hK64.1.choose_spec.2.2.2.2.2.2.2.2.2.2.2.2.2.2.2.2.2.1 rfl ?_
  refine q_if0_s (p2 := 28) rfl (by decide) (by omega) rfl (fun hb => absurd hb (show ¬ (¬ (0 = 0)) by omega)) (fun _ => ?_)
  refine q_load (v := (6, 455, 0)) (p2 := 29) rfl rfl rfl rfl ?_
  have hm67 := (x_PS_at hm63 (fun j hj hne => by have hj2 := x_some_lt hlt59 hne; exact (frn64 j (by omega) (by omega))))
  refine q_callrE (xs := [(6, 455, 0)]) (p2 := 30) rfl rfl rfl rfl (x_rcv_s 455 (x_KS_455 hK64)) rfl (k_fetchw hc76 hm67.1.choose_spec hK64 (by omega)) (Nat.le_refl _) (Nat.le_refl _) rfl (fun φ68 hR68 => ?_)
  obtain ⟨hK68, frn68⟩ := hR68
  refine q_store (loc2 := [(6, 455, 0), (0, 60, 0), (6, 225, 0), (0, 8, 0), (0, 31, 0)]) (p2 := 31) rfl rfl rfl rfl rfl ?_
  refine q_load (v := (0, 31, 0)) (p2 := 32) rfl rfl rfl rfl ?_
  refine q_const (p2 := 33) rfl rfl ?_
  refine q_icmp_s (p2 := 34) rfl (by decide) (by omega) (by omega) rfl (fun _ => ?_) (fun hb => absurd (show 10 < 31 by omega) hb)
  refine q_load (v := (0, 31, 0)) (p2 := 39) rfl rfl rfl rfl ?_
  refine q_const (p2 := 40) rfl rfl ?_
  refine q_icmp_s (p2 := 41) rfl (by decide) (by omega) (by omega) rfl (fun _ => ?_) (fun hb => absurd (show 19 < 31 by omega) hb)
  refine q_load (v := (6, 455, 0)) (p2 := 46) rfl rfl rfl rfl ?_
  refine q_load (v := (0, 31, 0)) (p2 := 47) rfl rfl rfl rfl ?_
  refine x_n_lt (fun hlt70 => ?_)
  have hm69 := (x_PS_at hm67 (fun j hj hne => by have hj2 := x_some_lt hlt65 hne; exact (frn68 j (by omega))))
  have hv71 := x_mv_at hV64 (fun j hj hne => by have hj2 := x_some_lt hlt65 hne; exact (frn68 j (by omega)))
  refine q_callvB (xs := [(0, 31, 0), (6, 455, 0)]) (p2 := 48) rfl rfl rfl rfl (x_rcv_s 455 (x_KS_455 hK68)) rfl (k_lead_31 (top := 0) (fr := 0) hm69.1.choose_spec hK68 (by omega) (by omega) hv71 (Or.inl rfl) (by omega) (by show (0 : Nat) < 4096; decide)) rfl (fun φ72 n72 sl72 hn72 hN72 hs72 hT72 hR72 => ?_)
  obtain ⟨hK72, frn72⟩ := hR72
  refine q_iinc (z := 9) (loc2 := [(6, 455, 0), (0, 60, 0), (6, 225, 0), (0, 9, 0), (0, 31, 0)]) (p2 := 49) rfl rfl (by decide) rfl rfl ?_
  refine q_goto rfl ?_
  refine q_load (v := (0, 9, 0)) (p2 := 20) rfl rfl rfl rfl ?_
  refine q_const (p2 := 21) rfl rfl ?_
  refine q_icmp_s (p2 := 22) rfl (by decide) (by omega) (by omega) rfl (fun hb => absurd hb (show ¬ (¬ (9 < 1000000)) by omega)) (fun _ => ?_)
  refine q_load (v := (6, 455, 0)) (p2 := 23) rfl rfl rfl rfl ?_
  refine q_getv (v := (0, 0, 0)) (p2 := 24) rfl (x_KS_455 hK72) (by decide) hK72.1.choose_spec.2.2.2.2.2.2.2.2.2.2.2.1 rfl ?_
  refine q_if0_s (p2 := 25) rfl (by decide) (by omega) rfl (fun _ => ?_) (fun hb => absurd (show ¬ (0 < 0) by omega) hb)
  refine q_load (v := (6, 455, 0)) (p2 := 51) rfl rfl rfl rfl ?_
  refine q_getv (v := (0, 0, 0)) (p2 := 52) rfl (x_KS_455 hK72) (by decide) hK72.1.choose_spec.2.2.2.2.2.2.2.2.2.2.2.2.2.2.2.2.2.1 rfl ?_
  refine q_if0_s (p2 := 53) rfl (by decide) (by omega) rfl (fun _ => ?_) (fun hb => absurd (show 0 = 0 by omega) hb)
  refine q_load (v := (6, 455, 0)) (p2 := 57) rfl rfl rfl rfl ?_
  refine q_callrE (xs := [(6, 455, 0)]) (p2 := 58) rfl rfl rfl rfl (x_rcv_s 455 (x_KS_455 hK72)) rfl (k_pop (top := 0) hK72 (by omega)) (Nat.le_refl _) (Nat.le_refl _) rfl (fun φ73 hR73 => ?_)
  obtain ⟨hK73, frn73⟩ := hR73
  refine x_n_lt (fun hlt75 => ?_)
  have hv74 := x_mv_at hv71 (fun j hj hne => by have hj2 := x_some_lt hlt70 hne; exact ((frn73 j (by omega)).trans (frn72 j (by omega))))
  exact q_retv (v := (6, v64, 0)) rfl rfl (⟨rfl, ⟨by omega, by omega⟩, ⟨by omega, by omega⟩, v64, rfl, ⟨_, _, _, _, _, _, _, _, _, _, hK73⟩, hv74, fun j hj1 hj2 => ((frn73 j (by omega)).trans ((frn72 j (by omega)).trans ((frn68 j (by omega)).trans ((frn64 j (by omega) (by omega)).trans ((frn57 j (by omega)).trans ((frn53 j (by omega) (by omega)).trans ((frn50 j (by omega)).trans ((frn46 j (by omega) (by omega)).trans ((frn43 j (by omega)).trans ((frn40 j (by omega)).trans ((frn37 j (by omega)).trans ((frn33 j (by omega) (by omega)).trans ((frn30 j (by omega)).trans ((frn26 j (by omega) (by omega)).trans ((frn23 j (by omega)).trans ((frn20 j (by omega)).trans ((frn17 j (by omega)).trans ((frn14 j (by omega)).trans ((frn11 j (by omega)).trans ((frn8 j (by omega)).trans ((fr4 j (by omega)).trans ((fr3 j (by omega)).trans ((fr2 j (by omega)).trans (fr1 j (by omega)))))))))))))))))))))))))⟩)
set_option maxHeartbeats 1000000 in
theorem zc_run_eq_ny {d n sl : Nat} {φ : FH} {A : Nat} {B : Nat} {made : Nat} {sv : Nat} {svm : Nat} {s9 : Nat} {comb : Nat → Nat} {hm : Nat → MV} {top : Nat} {fr : Nat} {pc_ : Nat} {mm : Nat} {mi : Nat} {st : Nat → Nat} {lo : Nat → Nat} {re : Nat → Nat} {rs : Nat → Nat} {fl : Nat → Nat} {se : Nat → Nat} {co : Nat → Nat} {w1 w2 : Nat} {lik : Nat → Nat} (hPS : x_PS φ A B made sv svm s9 comb hm) (hKS : x_KS φ top fr pc_ mm mi st lo re rs fl se co) (hn0 : 486 ≤ n) (hmi : mi + 30 ≤ 20000) (hc60 : co 60 = 1) (hc61 : co 61 = 2) (hc62 : co 62 = 7) (hc63 : co 63 = w1) (hc64 : co 64 = 1) (hc65 : co 65 = 1) (hc66 : co 66 = 7) (hc67 : co 67 = w2) (hc68 : co 68 = 15) (hc69 : co 69 = 64) (hc70 : co 70 = 31) (hw1 : w1 < 512) (hw2 : w2 < 512) (h1 : ¬ (w1 < made ∧ comb w1 ≠ 0)) (h2 : w2 < made ∧ comb w2 ≠ 0) (hL : x_row φ A lik) (hA : A < 232) : x_f x_P (d + 6) 56 [(6, 455, 0), (0, 60, 0), (6, 225, 0), (11, 0, 0), (11, 0, 0)] φ n sl (x_bR n sl 3 21 (fun zw φ2 => ∃ v, zw = (6, v, 0) ∧ x_KJ φ2 (mi + 3) co ∧ x_mv φ2 v ((3, 1, 0, 0, [])) ∧ ∀ j, j < n → (j < 455 ∨ 466 ≤ j) → φ2 j = φ j)) := by
  refine x_f_of rfl ?_
  refine x_n_lt (fun hlt0 => ?_)
  refine q_load (v := (6, 455, 0)) (p2 := 1) rfl rfl rfl rfl ?_
  refine q_const (p2 := 2) rfl rfl ?_
  refine q_putfE (v := (0, 0, 0)) (p2 := 3) rfl (x_KS_455 hKS) (by decide) rfl rfl (fun φ1 f1 hh1 hg1 ho1 fr1 => ?_)
  have hs1 := x_KS_put_18 hKS hh1 hg1 ho1 fr1
  refine q_load (v := (6, 455, 0)) (p2 := 4) rfl rfl rfl rfl ?_
  refine q_const (p2 := 5) rfl rfl ?_
  refine q_putfE (v := (0, 0, 0)) (p2 := 6) rfl (x_KS_455 hs1) (by decide) rfl rfl (fun φ2 f2 hh2 hg2 ho2 fr2 => ?_)
  have hs2 := x_KS_put_16 hs1 hh2 hg2 ho2 fr2
  refine q_load (v := (6, 455, 0)) (p2 := 7) rfl rfl rfl rfl ?_
  refine q_const (p2 := 8) rfl rfl ?_
  refine q_putfE (v := (0, 0, 0)) (p2 := 9) rfl (x_KS_455 hs2) (by decide) rfl rfl (fun φ3 f3 hh3 hg3 ho3 fr3 => ?_)
  have hs3 := x_KS_put_4 hs2 hh3 hg3 ho3 fr3
  refine q_load (v := (6, 455, 0)) (p2 := 10) rfl rfl rfl rfl ?_
  refine q_const (p2 := 11) rfl rfl ?_
  refine q_putfE (v := (0, 0, 0)) (p2 := 12) rfl (x_KS_455 hs3) (by decide) rfl rfl (fun φ4 f4 hh4 hg4 ho4 fr4 => ?_)
  have hs4 := x_KS_put_10 hs3 hh4 hg4 ho4 fr4
  refine q_load (v := (6, 455, 0)) (p2 := 13) rfl rfl rfl rfl ?_
  refine q_load (v := (0, 60, 0)) (p2 := 14) rfl rfl rfl rfl ?_
  refine q_const (p2 := 15) rfl rfl ?_
  refine q_load (v := (6, 225, 0)) (p2 := 16) rfl rfl rfl rfl ?_
  refine x_n_lt (fun hlt6 => ?_)
  have hm5 := (x_PS_at hPS (fun j hj hne => by have hj2 := x_some_lt hlt0 hne; exact ((fr4 j (by omega)).trans ((fr3 j (by omega)).trans ((fr2 j (by omega)).trans (fr1 j (by omega)))))))
  have hv7 := x_mv_at (x_PS_N hPS) (fun j hj hne => by have hj2 := x_some_lt hlt0 hne; exact ((fr4 j (by omega)).trans ((fr3 j (by omega)).trans ((fr2 j (by omega)).trans (fr1 j (by omega))))))
  refine q_callvE (xs := [(6, 225, 0), (0, 4294967293, 0), (0, 60, 0), (6, 455, 0)]) (p2 := 17) rfl rfl rfl rfl (x_rcv_s 455 (x_KS_455 hs4)) rfl (k_open hs4 (x_PS_N hm5) hv7 (by omega)) (Nat.le_refl _) (Nat.le_refl _) rfl (fun φ8 hR8 => ?_)
  obtain ⟨hK8, frn8⟩ := hR8
  refine q_const (p2 := 18) rfl rfl ?_
  refine q_store (loc2 := [(6, 455, 0), (0, 60, 0), (6, 225, 0), (0, 0, 0), (11, 0, 0)]) (p2 := 19) rfl rfl rfl rfl rfl ?_
  refine q_load (v := (0, 0, 0)) (p2 := 20) rfl rfl rfl rfl ?_
  refine q_const (p2 := 21) rfl rfl ?_
  refine q_icmp_s (p2 := 22) rfl (by decide) (by omega) (by omega) rfl (fun hb => absurd hb (show ¬ (¬ (0 < 1000000)) by omega)) (fun _ => ?_)
  refine q_load (v := (6, 455, 0)) (p2 := 23) rfl rfl rfl rfl ?_
  refine q_getv (v := (0, 1, 0)) (p2 := 24) rfl (x_KS_455 hK8) (by decide) hK8.1.choose_spec.2.2.2.2.2.2.2.2.2.2.2.1 rfl ?_
  refine q_if0_s (p2 := 25) rfl (by decide) (by omega) rfl (fun hb => absurd hb (show ¬ (¬ (0 < 1)) by omega)) (fun _ => ?_)
  refine q_load (v := (6, 455, 0)) (p2 := 26) rfl rfl rfl rfl ?_
  refine q_getv (v := (0, 0, 0)) (p2 := 27) rfl (x_KS_455 hK8) (by decide) hK8.1.choose_spec.2.2.2.2.2.2.2.2.2.2.2.2.2.2.2.2.2.1 rfl ?_
  refine q_if0_s (p2 := 28) rfl (by decide) (by omega) rfl (fun hb => absurd hb (show ¬ (¬ (0 = 0)) by omega)) (fun _ => ?_)
  refine q_load (v := (6, 455, 0)) (p2 := 29) rfl rfl rfl rfl ?_
  refine x_n_lt (fun hlt10 => ?_)
  have hm9 := (x_PS_at hm5 (fun j hj hne => by have hj2 := x_some_lt hlt6 hne; exact (frn8 j (by omega))))
  refine q_callrE (xs := [(6, 455, 0)]) (p2 := 30) rfl rfl rfl rfl (x_rcv_s 455 (x_KS_455 hK8)) rfl (k_fetchw hc60 hm9.1.choose_spec hK8 (by omega)) (Nat.le_refl _) (Nat.le_refl _) rfl (fun φ11 hR11 => ?_)
  obtain ⟨hK11, frn11⟩ := hR11
  refine q_store (loc2 := [(6, 455, 0), (0, 60, 0), (6, 225, 0), (0, 0, 0), (0, 1, 0)]) (p2 := 31) rfl rfl rfl rfl rfl ?_
  refine q_load (v := (0, 1, 0)) (p2 := 32) rfl rfl rfl rfl ?_
  refine q_const (p2 := 33) rfl rfl ?_
  refine q_icmp_s (p2 := 34) rfl (by decide) (by omega) (by omega) rfl (fun hb => absurd hb (show ¬ (10 < 1) by omega)) (fun _ => ?_)
  refine q_load (v := (6, 455, 0)) (p2 := 35) rfl rfl rfl rfl ?_
  refine q_load (v := (0, 1, 0)) (p2 := 36) rfl rfl rfl rfl ?_
  refine x_n_lt (fun hlt13 => ?_)
  have hm12 := (x_PS_at hm9 (fun j hj hne => by have hj2 := x_some_lt hlt10 hne; exact (frn11 j (by omega))))
  refine q_callvB (xs := [(0, 1, 0), (6, 455, 0)]) (p2 := 37) rfl rfl rfl rfl (x_rcv_s 455 (x_KS_455 hK11)) rfl (k_plain_1w hc61 hm12.1.choose_spec hK11 (by omega) (by omega) (by omega) (by omega)) rfl (fun φ14 n14 sl14 hn14 hN14 hs14 hT14 hR14 => ?_)
  obtain ⟨hK14, frn14⟩ := hR14
  refine q_goto rfl ?_
  refine q_iinc (z := 1) (loc2 := [(6, 455, 0), (0, 60, 0), (6, 225, 0), (0, 1, 0), (0, 1, 0)]) (p2 := 49) rfl rfl (by decide) rfl rfl ?_
  refine q_goto rfl ?_
  refine q_load (v := (0, 1, 0)) (p2 := 20) rfl rfl rfl rfl ?_
  refine q_const (p2 := 21) rfl rfl ?_
  refine q_icmp_s (p2 := 22) rfl (by decide) (by omega) (by omega) rfl (fun hb => absurd hb (show ¬ (¬ (1 < 1000000)) by omega)) (fun _ => ?_)
  refine q_load (v := (6, 455, 0)) (p2 := 23) rfl rfl rfl rfl ?_
  refine q_getv (v := (0, 1, 0)) (p2 := 24) rfl (x_KS_455 hK14) (by decide) hK14.1.choose_spec.2.2.2.2.2.2.2.2.2.2.2.1 rfl ?_
  refine q_if0_s (p2 := 25) rfl (by decide) (by omega) rfl (fun hb => absurd hb (show ¬ (¬ (0 < 1)) by omega)) (fun _ => ?_)
  refine q_load (v := (6, 455, 0)) (p2 := 26) rfl rfl rfl rfl ?_
  refine q_getv (v := (0, 0, 0)) (p2 := 27) rfl (x_KS_455 hK14) (by decide) hK14.1.choose_spec.2.2.2.2.2.2.2.2.2.2.2.2.2.2.2.2.2.1 rfl ?_
  refine q_if0_s (p2 := 28) rfl (by decide) (by omega) rfl (fun hb => absurd hb (show ¬ (¬ (0 = 0)) by omega)) (fun _ => ?_)
  refine q_load (v := (6, 455, 0)) (p2 := 29) rfl rfl rfl rfl ?_
  refine x_n_lt (fun hlt16 => ?_)
  have hm15 := (x_PS_at hm12 (fun j hj hne => by have hj2 := x_some_lt hlt13 hne; exact (frn14 j (by omega))))
  refine q_callrE (xs := [(6, 455, 0)]) (p2 := 30) rfl rfl rfl rfl (x_rcv_s 455 (x_KS_455 hK14)) rfl (k_fetchw hc62 hm15.1.choose_spec hK14 (by omega)) (Nat.le_refl _) (Nat.le_refl _) rfl (fun φ17 hR17 => ?_)
  obtain ⟨hK17, frn17⟩ := hR17
  refine q_store (loc2 := [(6, 455, 0), (0, 60, 0), (6, 225, 0), (0, 1, 0), (0, 7, 0)]) (p2 := 31) rfl rfl rfl rfl rfl ?_
  refine q_load (v := (0, 7, 0)) (p2 := 32) rfl rfl rfl rfl ?_
  refine q_const (p2 := 33) rfl rfl ?_
  refine q_icmp_s (p2 := 34) rfl (by decide) (by omega) (by omega) rfl (fun hb => absurd hb (show ¬ (10 < 7) by omega)) (fun _ => ?_)
  refine q_load (v := (6, 455, 0)) (p2 := 35) rfl rfl rfl rfl ?_
  refine q_load (v := (0, 7, 0)) (p2 := 36) rfl rfl rfl rfl ?_
  refine x_n_lt (fun hlt19 => ?_)
  have hm18 := (x_PS_at hm15 (fun j hj hne => by have hj2 := x_some_lt hlt16 hne; exact (frn17 j (by omega))))
  refine q_callvB (xs := [(0, 7, 0), (6, 455, 0)]) (p2 := 37) rfl rfl rfl rfl (x_rcv_s 455 (x_KS_455 hK17)) rfl (k_plain_7w hc63 hm18.1.choose_spec hK17 (by omega) (by omega) hm18.2.1 (x_PS_N hm18) (by omega) (by omega)) rfl (fun φ20 n20 sl20 hn20 hN20 hs20 hT20 hR20 => ?_)
  obtain ⟨v20, hK20, hV20, frn20⟩ := hR20
  rw [if_neg h1] at hV20
  refine x_n_lt (fun hlt21 => ?_)
  have hz22 := x_mv_lt hV20 hlt21
  have hy22 := hV20.1
  refine q_goto rfl ?_
  refine q_iinc (z := 2) (loc2 := [(6, 455, 0), (0, 60, 0), (6, 225, 0), (0, 2, 0), (0, 7, 0)]) (p2 := 49) rfl rfl (by decide) rfl rfl ?_
  refine q_goto rfl ?_
  refine q_load (v := (0, 2, 0)) (p2 := 20) rfl rfl rfl rfl ?_
  refine q_const (p2 := 21) rfl rfl ?_
  refine q_icmp_s (p2 := 22) rfl (by decide) (by omega) (by omega) rfl (fun hb => absurd hb (show ¬ (¬ (2 < 1000000)) by omega)) (fun _ => ?_)
  refine q_load (v := (6, 455, 0)) (p2 := 23) rfl rfl rfl rfl ?_
  refine q_getv (v := (0, 1, 0)) (p2 := 24) rfl (x_KS_455 hK20) (by decide) hK20.1.choose_spec.2.2.2.2.2.2.2.2.2.2.2.1 rfl ?_
  refine q_if0_s (p2 := 25) rfl (by decide) (by omega) rfl (fun hb => absurd hb (show ¬ (¬ (0 < 1)) by omega)) (fun _ => ?_)
  refine q_load (v := (6, 455, 0)) (p2 := 26) rfl rfl rfl rfl ?_
  refine q_getv (v := (0, 0, 0)) (p2 := 27) rfl (x_KS_455 hK20) (by decide) hK20.1.choose_spec.2.2.2.2.2.2.2.2.2.2.2.2.2.2.2.2.2.1 rfl ?_
  refine q_if0_s (p2 := 28) rfl (by decide) (by omega) rfl (fun hb => absurd hb (show ¬ (¬ (0 = 0)) by omega)) (fun _ => ?_)
  refine q_load (v := (6, 455, 0)) (p2 := 29) rfl rfl rfl rfl ?_
  have hm23 := (x_PS_at hm18 (fun j hj hne => by have hj2 := x_some_lt hlt19 hne; exact (frn20 j (by omega) (by omega))))
  refine q_callrE (xs := [(6, 455, 0)]) (p2 := 30) rfl rfl rfl rfl (x_rcv_s 455 (x_KS_455 hK20)) rfl (k_fetchw hc64 hm23.1.choose_spec hK20 (by omega)) (Nat.le_refl _) (Nat.le_refl _) rfl (fun φ24 hR24 => ?_)
  obtain ⟨hK24, frn24⟩ := hR24
  refine q_store (loc2 := [(6, 455, 0), (0, 60, 0), (6, 225, 0), (0, 2, 0), (0, 1, 0)]) (p2 := 31) rfl rfl rfl rfl rfl ?_
  refine q_load (v := (0, 1, 0)) (p2 := 32) rfl rfl rfl rfl ?_
  refine q_const (p2 := 33) rfl rfl ?_
  refine q_icmp_s (p2 := 34) rfl (by decide) (by omega) (by omega) rfl (fun hb => absurd hb (show ¬ (10 < 1) by omega)) (fun _ => ?_)
  refine q_load (v := (6, 455, 0)) (p2 := 35) rfl rfl rfl rfl ?_
  refine q_load (v := (0, 1, 0)) (p2 := 36) rfl rfl rfl rfl ?_
  refine x_n_lt (fun hlt26 => ?_)
  have hm25 := (x_PS_at hm23 (fun j hj hne => by have hj2 := x_some_lt hlt21 hne; exact (frn24 j (by omega))))
  refine q_callvB (xs := [(0, 1, 0), (6, 455, 0)]) (p2 := 37) rfl rfl rfl rfl (x_rcv_s 455 (x_KS_455 hK24)) rfl (k_plain_1w hc65 hm25.1.choose_spec hK24 (by omega) (by omega) (by omega) (by omega)) rfl (fun φ27 n27 sl27 hn27 hN27 hs27 hT27 hR27 => ?_)
  obtain ⟨hK27, frn27⟩ := hR27
  refine q_goto rfl ?_
  refine q_iinc (z := 3) (loc2 := [(6, 455, 0), (0, 60, 0), (6, 225, 0), (0, 3, 0), (0, 1, 0)]) (p2 := 49) rfl rfl (by decide) rfl rfl ?_
  refine q_goto rfl ?_
  refine q_load (v := (0, 3, 0)) (p2 := 20) rfl rfl rfl rfl ?_
  refine q_const (p2 := 21) rfl rfl ?_
  refine q_icmp_s (p2 := 22) rfl (by decide) (by omega) (by omega) rfl (fun hb => absurd hb (show ¬ (¬ (3 < 1000000)) by omega)) (fun _ => ?_)
  refine q_load (v := (6, 455, 0)) (p2 := 23) rfl rfl rfl rfl ?_
  refine q_getv (v := (0, 1, 0)) (p2 := 24) rfl (x_KS_455 hK27) (by decide) hK27.1.choose_spec.2.2.2.2.2.2.2.2.2.2.2.1 rfl ?_
  refine q_if0_s (p2 := 25) rfl (by decide) (by omega) rfl (fun hb => absurd hb (show ¬ (¬ (0 < 1)) by omega)) (fun _ => ?_)
  refine q_load (v := (6, 455, 0)) (p2 := 26) rfl rfl rfl rfl ?_
  refine q_getv (v := (0, 0, 0)) (p2 := 27) rfl (x_KS_455 hK27) (by decide) hK27.1.choose_spec.2.2.2.2.2.2.2.2.2.2.2.2.2.2.2.2.2.1 rfl ?_
  refine q_if0_s (p2 := 28) rfl (by decide) (by omega) rfl (fun hb => absurd hb (show ¬ (¬ (0 = 0)) by omega)) (fun _ => ?_)
  refine q_load (v := (6, 455, 0)) (p2 := 29) rfl rfl rfl rfl ?_
  refine x_n_lt (fun hlt29 => ?_)
  have hm28 := (x_PS_at hm25 (fun j hj hne => by have hj2 := x_some_lt hlt26 hne; exact (frn27 j (by omega))))
  refine q_callrE (xs := [(6, 455, 0)]) (p2 := 30) rfl rfl rfl rfl (x_rcv_s 455 (x_KS_455 hK27)) rfl (k_fetchw hc66 hm28.1.choose_spec hK27 (by omega)) (Nat.le_refl _) (Nat.le_refl _) rfl (fun φ30 hR30 => ?_)
  obtain ⟨hK30, frn30⟩ := hR30
  refine q_store (loc2 := [(6, 455, 0), (0, 60, 0), (6, 225, 0), (0, 3, 0), (0, 7, 0)]) (p2 := 31) rfl rfl rfl rfl rfl ?_
  refine q_load (v := (0, 7, 0)) (p2 := 32) rfl rfl rfl rfl ?_
  refine q_const (p2 := 33) rfl rfl ?_
  refine q_icmp_s (p2 := 34) rfl (by decide) (by omega) (by omega) rfl (fun hb => absurd hb (show ¬ (10 < 7) by omega)) (fun _ => ?_)
  refine q_load (v := (6, 455, 0)) (p2 := 35) rfl rfl rfl rfl ?_
  refine q_load (v := (0, 7, 0)) (p2 := 36) rfl rfl rfl rfl ?_
  refine x_n_lt (fun hlt32 => ?_)
  have hm31 := (x_PS_at hm28 (fun j hj hne => by have hj2 := x_some_lt hlt29 hne; exact (frn30 j (by omega))))
  refine q_callvB (xs := [(0, 7, 0), (6, 455, 0)]) (p2 := 37) rfl rfl rfl rfl (x_rcv_s 455 (x_KS_455 hK30)) rfl (k_plain_7w hc67 hm31.1.choose_spec hK30 (by omega) (by omega) hm31.2.1 (x_PS_N hm31) (by omega) (by omega)) rfl (fun φ33 n33 sl33 hn33 hN33 hs33 hT33 hR33 => ?_)
  obtain ⟨v33, hK33, hV33, frn33⟩ := hR33
  rw [if_pos h2] at hV33
  refine x_n_lt (fun hlt34 => ?_)
  have hz35 := x_mv_lt hV33 hlt34
  have hy35 := hV33.1
  refine q_goto rfl ?_
  refine q_iinc (z := 4) (loc2 := [(6, 455, 0), (0, 60, 0), (6, 225, 0), (0, 4, 0), (0, 7, 0)]) (p2 := 49) rfl rfl (by decide) rfl rfl ?_
  refine q_goto rfl ?_
  refine q_load (v := (0, 4, 0)) (p2 := 20) rfl rfl rfl rfl ?_
  refine q_const (p2 := 21) rfl rfl ?_
  refine q_icmp_s (p2 := 22) rfl (by decide) (by omega) (by omega) rfl (fun hb => absurd hb (show ¬ (¬ (4 < 1000000)) by omega)) (fun _ => ?_)
  refine q_load (v := (6, 455, 0)) (p2 := 23) rfl rfl rfl rfl ?_
  refine q_getv (v := (0, 1, 0)) (p2 := 24) rfl (x_KS_455 hK33) (by decide) hK33.1.choose_spec.2.2.2.2.2.2.2.2.2.2.2.1 rfl ?_
  refine q_if0_s (p2 := 25) rfl (by decide) (by omega) rfl (fun hb => absurd hb (show ¬ (¬ (0 < 1)) by omega)) (fun _ => ?_)
  refine q_load (v := (6, 455, 0)) (p2 := 26) rfl rfl rfl rfl ?_
  refine q_getv (v := (0, 0, 0)) (p2 := 27) rfl (x_KS_455 hK33) (by decide) hK33.1.choose_spec.2.2.2.2.2.2.2.2.2.2.2.2.2.2.2.2.2.1 rfl ?_
  refine q_if0_s (p2 := 28) rfl (by decide) (by omega) rfl (fun hb => absurd hb (show ¬ (¬ (0 = 0)) by omega)) (fun _ => ?_)
  refine q_load (v := (6, 455, 0)) (p2 := 29) rfl rfl rfl rfl ?_
  have hm36 := (x_PS_at hm31 (fun j hj hne => by have hj2 := x_some_lt hlt32 hne; exact (frn33 j (by omega) (by omega))))
  refine q_callrE (xs := [(6, 455, 0)]) (p2 := 30) rfl rfl rfl rfl (x_rcv_s 455 (x_KS_455 hK33)) rfl (k_fetchw hc68 hm36.1.choose_spec hK33 (by omega)) (Nat.le_refl _) (Nat.le_refl _) rfl (fun φ37 hR37 => ?_)
  obtain ⟨hK37, frn37⟩ := hR37
  refine q_store (loc2 := [(6, 455, 0), (0, 60, 0), (6, 225, 0), (0, 4, 0), (0, 15, 0)]) (p2 := 31) rfl rfl rfl rfl rfl ?_
  refine q_load (v := (0, 15, 0)) (p2 := 32) rfl rfl rfl rfl ?_
  refine q_const (p2 := 33) rfl rfl ?_
  refine q_icmp_s (p2 := 34) rfl (by decide) (by omega) (by omega) rfl (fun _ => ?_) (fun hb => absurd (show 10 < 15 by omega) hb)
  refine q_load (v := (0, 15, 0)) (p2 := 39) rfl rfl rfl rfl ?_
  refine q_const (p2 := 40) rfl rfl ?_
  refine q_icmp_s (p2 := 41) rfl (by decide) (by omega) (by omega) rfl (fun hb => absurd hb (show ¬ (19 < 15) by omega)) (fun _ => ?_)
  refine q_load (v := (6, 455, 0)) (p2 := 42) rfl rfl rfl rfl ?_
  refine q_load (v := (0, 15, 0)) (p2 := 43) rfl rfl rfl rfl ?_
  refine x_n_lt (fun hlt39 => ?_)
  have hm38 := (x_PS_at hm36 (fun j hj hne => by have hj2 := x_some_lt hlt34 hne; exact (frn37 j (by omega))))
  have hv40 := x_mv_at hV33 (fun j hj hne => by have hj2 := x_some_lt hlt34 hne; exact (frn37 j (by omega)))
  have hv41 := x_mv_at hV20 (fun j hj hne => by have hj2 := x_some_lt hlt21 hne; exact ((frn37 j (by omega)).trans ((frn33 j (by omega) (by omega)).trans ((frn30 j (by omega)).trans ((frn27 j (by omega)).trans (frn24 j (by omega)))))))
  refine q_callvB (xs := [(0, 15, 0), (6, 455, 0)]) (p2 := 44) rfl rfl rfl rfl (x_rcv_s 455 (x_KS_455 hK37)) rfl (k_op_15_64 (top := 0) hm38.1.choose_spec hK37 (by omega) (by omega) (by omega) (x_row_at2 hL ((frn37 A (by omega)).trans ((frn33 A (by omega) (by omega)).trans ((frn30 A (by omega)).trans ((frn27 A (by omega)).trans ((frn24 A (by omega)).trans ((frn20 A (by omega) (by omega)).trans ((frn17 A (by omega)).trans ((frn14 A (by omega)).trans ((frn11 A (by omega)).trans ((frn8 A (by omega)).trans ((fr4 A (by omega)).trans ((fr3 A (by omega)).trans ((fr2 A (by omega)).trans (fr1 A (by omega)))))))))))))))) hv41 hv40 hc69 ⟨fun h => absurd h (by show ¬ (0 = 6); decide), by show (0 : Nat) ≠ 2; decide⟩ ⟨fun h => absurd h (by show ¬ (5 = 6); decide), by show (5 : Nat) ≠ 2; decide⟩ (Or.inl rfl) (Or.inr rfl) (by omega)) rfl (fun φ42 n42 sl42 hn42 hN42 hs42 hT42 hR42 => ?_)
  obtain ⟨v42, hK42, hV42, frn42⟩ := hR42
  rw [if_pos (Or.inl rfl)] at hV42
  refine x_n_lt (fun hlt43 => ?_)
  have hz44 := x_mv_lt hV42 hlt43
  have hy44 := hV42.1
  refine q_goto rfl ?_
  refine q_iinc (z := 5) (loc2 := [(6, 455, 0), (0, 60, 0), (6, 225, 0), (0, 5, 0), (0, 15, 0)]) (p2 := 49) rfl rfl (by decide) rfl rfl ?_
  refine q_goto rfl ?_
  refine q_load (v := (0, 5, 0)) (p2 := 20) rfl rfl rfl rfl ?_
  refine q_const (p2 := 21) rfl rfl ?_
  refine q_icmp_s (p2 := 22) rfl (by decide) (by omega) (by omega) rfl (fun hb => absurd hb (show ¬ (¬ (5 < 1000000)) by omega)) (fun _ => ?_)
  refine q_load (v := (6, 455, 0)) (p2 := 23) rfl rfl rfl rfl ?_
  refine q_getv (v := (0, 1, 0)) (p2 := 24) rfl (x_KS_455 hK42) (by decide) hK42.1.choose_spec.2.2.2.2.2.2.2.2.2.2.2.1 rfl ?_
  refine q_if0_s (p2 := 25) rfl (by decide) (by omega) rfl (fun hb => absurd hb (show ¬ (¬ (0 < 1)) by omega)) (fun _ => ?_)
  refine q_load (v := (6, 455, 0)) (p2 := 26) rfl rfl rfl rfl ?_
  refine q_getv (v := (0, 0, 0)) (p2 := 27) rfl (x_KS_455 hK42) (by decide) hK42.1.choose_spec.2.2.2.2.2.2.2.2.2.2.2.2.2.2.2.2.2.1 rfl ?_
  refine q_if0_s (p2 := 28) rfl (by decide) (by omega) rfl (fun hb => absurd hb (show ¬ (¬ (0 = 0)) by omega)) (fun _ => ?_)
  refine q_load (v := (6, 455, 0)) (p2 := 29) rfl rfl rfl rfl ?_
  have hm45 := (x_PS_at hm38 (fun j hj hne => by have hj2 := x_some_lt hlt39 hne; exact (frn42 j (by omega) (by omega))))
  refine q_callrE (xs := [(6, 455, 0)]) (p2 := 30) rfl rfl rfl rfl (x_rcv_s 455 (x_KS_455 hK42)) rfl (k_fetchw hc70 hm45.1.choose_spec hK42 (by omega)) (Nat.le_refl _) (Nat.le_refl _) rfl (fun φ46 hR46 => ?_)
  obtain ⟨hK46, frn46⟩ := hR46
  refine q_store (loc2 := [(6, 455, 0), (0, 60, 0), (6, 225, 0), (0, 5, 0), (0, 31, 0)]) (p2 := 31) rfl rfl rfl rfl rfl ?_
  refine q_load (v := (0, 31, 0)) (p2 := 32) rfl rfl rfl rfl ?_
  refine q_const (p2 := 33) rfl rfl ?_
  refine q_icmp_s (p2 := 34) rfl (by decide) (by omega) (by omega) rfl (fun _ => ?_) (fun hb => absurd (show 10 < 31 by omega) hb)
  refine q_load (v := (0, 31, 0)) (p2 := 39) rfl rfl rfl rfl ?_
  refine q_const (p2 := 40) rfl rfl ?_
  refine q_icmp_s (p2 := 41) rfl (by decide) (by omega) (by omega) rfl (fun _ => ?_) (fun hb => absurd (show 19 < 31 by omega) hb)
  refine q_load (v := (6, 455, 0)) (p2 := 46) rfl rfl rfl rfl ?_
  refine q_load (v := (0, 31, 0)) (p2 := 47) rfl rfl rfl rfl ?_
  refine x_n_lt (fun hlt48 => ?_)
  have hm47 := (x_PS_at hm45 (fun j hj hne => by have hj2 := x_some_lt hlt43 hne; exact (frn46 j (by omega))))
  have hv49 := x_mv_at hV42 (fun j hj hne => by have hj2 := x_some_lt hlt43 hne; exact (frn46 j (by omega)))
  refine q_callvB (xs := [(0, 31, 0), (6, 455, 0)]) (p2 := 48) rfl rfl rfl rfl (x_rcv_s 455 (x_KS_455 hK46)) rfl (k_lead_31 (top := 0) (fr := 0) hm47.1.choose_spec hK46 (by omega) (by omega) hv49 (Or.inl rfl) (by omega) (by show (0 : Nat) < 4096; decide)) rfl (fun φ50 n50 sl50 hn50 hN50 hs50 hT50 hR50 => ?_)
  obtain ⟨hK50, frn50⟩ := hR50
  refine q_iinc (z := 6) (loc2 := [(6, 455, 0), (0, 60, 0), (6, 225, 0), (0, 6, 0), (0, 31, 0)]) (p2 := 49) rfl rfl (by decide) rfl rfl ?_
  refine q_goto rfl ?_
  refine q_load (v := (0, 6, 0)) (p2 := 20) rfl rfl rfl rfl ?_
  refine q_const (p2 := 21) rfl rfl ?_
  refine q_icmp_s (p2 := 22) rfl (by decide) (by omega) (by omega) rfl (fun hb => absurd hb (show ¬ (¬ (6 < 1000000)) by omega)) (fun _ => ?_)
  refine q_load (v := (6, 455, 0)) (p2 := 23) rfl rfl rfl rfl ?_
  refine q_getv (v := (0, 0, 0)) (p2 := 24) rfl (x_KS_455 hK50) (by decide) hK50.1.choose_spec.2.2.2.2.2.2.2.2.2.2.2.1 rfl ?_
  refine q_if0_s (p2 := 25) rfl (by decide) (by omega) rfl (fun _ => ?_) (fun hb => absurd (show ¬ (0 < 0) by omega) hb)
  refine q_load (v := (6, 455, 0)) (p2 := 51) rfl rfl rfl rfl ?_
  refine q_getv (v := (0, 0, 0)) (p2 := 52) rfl (x_KS_455 hK50) (by decide) hK50.1.choose_spec.2.2.2.2.2.2.2.2.2.2.2.2.2.2.2.2.2.1 rfl ?_
  refine q_if0_s (p2 := 53) rfl (by decide) (by omega) rfl (fun _ => ?_) (fun hb => absurd (show 0 = 0 by omega) hb)
  refine q_load (v := (6, 455, 0)) (p2 := 57) rfl rfl rfl rfl ?_
  refine q_callrE (xs := [(6, 455, 0)]) (p2 := 58) rfl rfl rfl rfl (x_rcv_s 455 (x_KS_455 hK50)) rfl (k_pop (top := 0) hK50 (by omega)) (Nat.le_refl _) (Nat.le_refl _) rfl (fun φ51 hR51 => ?_)
  obtain ⟨hK51, frn51⟩ := hR51
  refine x_n_lt (fun hlt53 => ?_)
  have hv52 := x_mv_at hv49 (fun j hj hne => by have hj2 := x_some_lt hlt48 hne; exact ((frn51 j (by omega)).trans (frn50 j (by omega))))
  exact q_retv (v := (6, v42, 0)) rfl rfl (⟨rfl, ⟨by omega, by omega⟩, ⟨by omega, by omega⟩, v42, rfl, ⟨_, _, _, _, _, _, _, _, _, _, hK51⟩, hv52, fun j hj1 hj2 => ((frn51 j (by omega)).trans ((frn50 j (by omega)).trans ((frn46 j (by omega)).trans ((frn42 j (by omega) (by omega)).trans ((frn37 j (by omega)).trans ((frn33 j (by omega) (by omega)).trans ((frn30 j (by omega)).trans ((frn27 j (by omega)).trans ((frn24 j (by omega)).trans ((frn20 j (by omega) (by omega)).trans ((frn17 j (by omega)).trans ((frn14 j (by omega)).trans ((frn11 j (by omega)).trans ((frn8 j (by omega)).trans ((fr4 j (by omega)).trans ((fr3 j (by omega)).trans ((fr2 j (by omega)).trans (fr1 j (by omega)))))))))))))))))))⟩)
set_option maxHeartbeats 1000000 in
theorem zc_run_list_nn {d n sl : Nat} {φ : FH} {A : Nat} {B : Nat} {made : Nat} {sv : Nat} {svm : Nat} {s9 : Nat} {comb : Nat → Nat} {hm : Nat → MV} {top : Nat} {fr : Nat} {pc_ : Nat} {mm : Nat} {mi : Nat} {st : Nat → Nat} {lo : Nat → Nat} {re : Nat → Nat} {rs : Nat → Nat} {fl : Nat → Nat} {se : Nat → Nat} {co : Nat → Nat} {w1 w2 : Nat} (hPS : x_PS φ A B made sv svm s9 comb hm) (hKS : x_KS φ top fr pc_ mm mi st lo re rs fl se co) (hn0 : 486 ≤ n) (hmi : mi + 30 ≤ 20000) (hc60 : co 60 = 1) (hc61 : co 61 = 1) (hc62 : co 62 = 1) (hc63 : co 63 = 1) (hc64 : co 64 = 7) (hc65 : co 65 = w1) (hc66 : co 66 = 3) (hc67 : co 67 = 1) (hc68 : co 68 = 1) (hc69 : co 69 = 1) (hc70 : co 70 = 7) (hc71 : co 71 = w2) (hc72 : co 72 = 3) (hc73 : co 73 = 1) (hc74 : co 74 = 18) (hc75 : co 75 = 2) (hc76 : co 76 = 31) (hw1 : w1 < 512) (hw2 : w2 < 512) (h1 : ¬ (w1 < made ∧ comb w1 ≠ 0)) (h2 : ¬ (w2 < made ∧ comb w2 ≠ 0)) : x_f x_P (d + 6) 56 [(6, 455, 0), (0, 60, 0), (6, 225, 0), (11, 0, 0), (11, 0, 0)] φ n sl (x_bR n sl 5 52 (fun zw φ2 => ∃ v, zw = (6, v, 0) ∧ x_KJ φ2 (mi + 3) co ∧ x_mv φ2 v (MV0) ∧ ∀ j, j < n → (j < 455 ∨ 466 ≤ j) → φ2 j = φ j)) := by
  refine x_f_of rfl ?_
  refine x_n_lt (fun hlt0 => ?_)
  refine q_load (v := (6, 455, 0)) (p2 := 1) rfl rfl rfl rfl ?_
  refine q_const (p2 := 2) rfl rfl ?_
  refine q_putfE (v := (0, 0, 0)) (p2 := 3) rfl (x_KS_455 hKS) (by decide) rfl rfl (fun φ1 f1 hh1 hg1 ho1 fr1 => ?_)
  have hs1 := x_KS_put_18 hKS hh1 hg1 ho1 fr1
  refine q_load (v := (6, 455, 0)) (p2 := 4) rfl rfl rfl rfl ?_
  refine q_const (p2 := 5) rfl rfl ?_
  refine q_putfE (v := (0, 0, 0)) (p2 := 6) rfl (x_KS_455 hs1) (by decide) rfl rfl (fun φ2 f2 hh2 hg2 ho2 fr2 => ?_)
  have hs2 := x_KS_put_16 hs1 hh2 hg2 ho2 fr2
  refine q_load (v := (6, 455, 0)) (p2 := 7) rfl rfl rfl rfl ?_
  refine q_const (p2 := 8) rfl rfl ?_
  refine q_putfE (v := (0, 0, 0)) (p2 := 9) rfl (x_KS_455 hs2) (by decide) rfl rfl (fun φ3 f3 hh3 hg3 ho3 fr3 => ?_)
  have hs3 := x_KS_put_4 hs2 hh3 hg3 ho3 fr3
  refine q_load (v := (6, 455, 0)) (p2 := 10) rfl rfl rfl rfl ?_
  refine q_const (p2 := 11) rfl rfl ?_
  refine q_putfE (v := (0, 0, 0)) (p2 := 12) rfl (x_KS_455 hs3) (by decide) rfl rfl (fun φ4 f4 hh4 hg4 ho4 fr4 => ?_)
  have hs4 := x_KS_put_10 hs3 hh4 hg4 ho4 fr4
  refine q_load (v := (6, 455, 0)) (p2 := 13) rfl rfl rfl rfl ?_
  refine q_load (v := (0, 60, 0)) (p2 := 14) rfl rfl rfl rfl ?_
  refine q_const (p2 := 15) rfl rfl ?_
  refine q_load (v := (6, 225, 0)) (p2 := 16) rfl rfl rfl rfl ?_
  refine x_n_lt (fun hlt6 => ?_)
  have hm5 := (x_PS_at hPS (fun j hj hne => by have hj2 := x_some_lt hlt0 hne; exact ((fr4 j (by omega)).trans ((fr3 j (by omega)).trans ((fr2 j (by omega)).trans (fr1 j (by omega)))))))
  have hv7 := x_mv_at (x_PS_N hPS) (fun j hj hne => by have hj2 := x_some_lt hlt0 hne; exact ((fr4 j (by omega)).trans ((fr3 j (by omega)).trans ((fr2 j (by omega)).trans (fr1 j (by omega))))))
  refine q_callvE (xs := [(6, 225, 0), (0, 4294967293, 0), (0, 60, 0), (6, 455, 0)]) (p2 := 17) rfl rfl rfl rfl (x_rcv_s 455 (x_KS_455 hs4)) rfl (k_open hs4 (x_PS_N hm5) hv7 (by omega)) (Nat.le_refl _) (Nat.le_refl _) rfl (fun φ8 hR8 => ?_)
  obtain ⟨hK8, frn8⟩ := hR8
  refine q_const (p2 := 18) rfl rfl ?_
  refine q_store (loc2 := [(6, 455, 0), (0, 60, 0), (6, 225, 0), (0, 0, 0), (11, 0, 0)]) (p2 := 19) rfl rfl rfl rfl rfl ?_
  refine q_load (v := (0, 0, 0)) (p2 := 20) rfl rfl rfl rfl ?_
  refine q_const (p2 := 21) rfl rfl ?_
  refine q_icmp_s (p2 := 22) rfl (by decide) (by omega) (by omega) rfl (fun hb => absurd hb (show ¬ (¬ (0 < 1000000)) by omega)) (fun _ => ?_)
  refine q_load (v := (6, 455, 0)) (p2 := 23) rfl rfl rfl rfl ?_
  refine q_getv (v := (0, 1, 0)) (p2 := 24) rfl (x_KS_455 hK8) (by decide) hK8.1.choose_spec.2.2.2.2.2.2.2.2.2.2.2.1 rfl ?_
  refine q_if0_s (p2 := 25) rfl (by decide) (by omega) rfl (fun hb => absurd hb (show ¬ (¬ (0 < 1)) by omega)) (fun _ => ?_)
  refine q_load (v := (6, 455, 0)) (p2 := 26) rfl rfl rfl rfl ?_
  refine q_getv (v := (0, 0, 0)) (p2 := 27) rfl (x_KS_455 hK8) (by decide) hK8.1.choose_spec.2.2.2.2.2.2.2.2.2.2.2.2.2.2.2.2.2.1 rfl ?_
  refine q_if0_s (p2 := 28) rfl (by decide) (by omega) rfl (fun hb => absurd hb (show ¬ (¬ (0 = 0)) by omega)) (fun _ => ?_)
  refine q_load (v := (6, 455, 0)) (p2 := 29) rfl rfl rfl rfl ?_
  refine x_n_lt (fun hlt10 => ?_)
  have hm9 := (x_PS_at hm5 (fun j hj hne => by have hj2 := x_some_lt hlt6 hne; exact (frn8 j (by omega))))
  refine q_callrE (xs := [(6, 455, 0)]) (p2 := 30) rfl rfl rfl rfl (x_rcv_s 455 (x_KS_455 hK8)) rfl (k_fetchw hc60 hm9.1.choose_spec hK8 (by omega)) (Nat.le_refl _) (Nat.le_refl _) rfl (fun φ11 hR11 => ?_)
  obtain ⟨hK11, frn11⟩ := hR11
  refine q_store (loc2 := [(6, 455, 0), (0, 60, 0), (6, 225, 0), (0, 0, 0), (0, 1, 0)]) (p2 := 31) rfl rfl rfl rfl rfl ?_
  refine q_load (v := (0, 1, 0)) (p2 := 32) rfl rfl rfl rfl ?_
  refine q_const (p2 := 33) rfl rfl ?_
  refine q_icmp_s (p2 := 34) rfl (by decide) (by omega) (by omega) rfl (fun hb => absurd hb (show ¬ (10 < 1) by omega)) (fun _ => ?_)
  refine q_load (v := (6, 455, 0)) (p2 := 35) rfl rfl rfl rfl ?_
  refine q_load (v := (0, 1, 0)) (p2 := 36) rfl rfl rfl rfl ?_
  refine x_n_lt (fun hlt13 => ?_)
  have hm12 := (x_PS_at hm9 (fun j hj hne => by have hj2 := x_some_lt hlt10 hne; exact (frn11 j (by omega))))
  refine q_callvB (xs := [(0, 1, 0), (6, 455, 0)]) (p2 := 37) rfl rfl rfl rfl (x_rcv_s 455 (x_KS_455 hK11)) rfl (k_plain_1w hc61 hm12.1.choose_spec hK11 (by omega) (by omega) (by omega) (by omega)) rfl (fun φ14 n14 sl14 hn14 hN14 hs14 hT14 hR14 => ?_)
  obtain ⟨hK14, frn14⟩ := hR14
  refine q_goto rfl ?_
  refine q_iinc (z := 1) (loc2 := [(6, 455, 0), (0, 60, 0), (6, 225, 0), (0, 1, 0), (0, 1, 0)]) (p2 := 49) rfl rfl (by decide) rfl rfl ?_
  refine q_goto rfl ?_
  refine q_load (v := (0, 1, 0)) (p2 := 20) rfl rfl rfl rfl ?_
  refine q_const (p2 := 21) rfl rfl ?_
  refine q_icmp_s (p2 := 22) rfl (by decide) (by omega) (by omega) rfl (fun hb => absurd hb (show ¬ (¬ (1 < 1000000)) by omega)) (fun _ => ?_)
  refine q_load (v := (6, 455, 0)) (p2 := 23) rfl rfl rfl rfl ?_
  refine q_getv (v := (0, 1, 0)) (p2 := 24) rfl (x_KS_455 hK14) (by decide) hK14.1.choose_spec.2.2.2.2.2.2.2.2.2.2.2.1 rfl ?_
  refine q_if0_s (p2 := 25) rfl (by decide) (by omega) rfl (fun hb => absurd hb (show ¬ (¬ (0 < 1)) by omega)) (fun _ => ?_)
  refine q_load (v := (6, 455, 0)) (p2 := 26) rfl rfl rfl rfl ?_
  refine q_getv (v := (0, 0, 0)) (p2 := 27) rfl (x_KS_455 hK14) (by decide) hK14.1.choose_spec.2.2.2.2.2.2.2.2.2.2.2.2.2.2.2.2.2.1 rfl ?_
  refine q_if0_s (p2 := 28) rfl (by decide) (by omega) rfl (fun hb => absurd hb (show ¬ (¬ (0 = 0)) by omega)) (fun _ => ?_)
  refine q_load (v := (6, 455, 0)) (p2 := 29) rfl rfl rfl rfl ?_
  refine x_n_lt (fun hlt16 => ?_)
  have hm15 := (x_PS_at hm12 (fun j hj hne => by have hj2 := x_some_lt hlt13 hne; exact (frn14 j (by omega))))
  refine q_callrE (xs := [(6, 455, 0)]) (p2 := 30) rfl rfl rfl rfl (x_rcv_s 455 (x_KS_455 hK14)) rfl (k_fetchw hc62 hm15.1.choose_spec hK14 (by omega)) (Nat.le_refl _) (Nat.le_refl _) rfl (fun φ17 hR17 => ?_)
  obtain ⟨hK17, frn17⟩ := hR17
  refine q_store (loc2 := [(6, 455, 0), (0, 60, 0), (6, 225, 0), (0, 1, 0), (0, 1, 0)]) (p2 := 31) rfl rfl rfl rfl rfl ?_
  refine q_load (v := (0, 1, 0)) (p2 := 32) rfl rfl rfl rfl ?_
  refine q_const (p2 := 33) rfl rfl ?_
  refine q_icmp_s (p2 := 34) rfl (by decide) (by omega) (by omega) rfl (fun hb => absurd hb (show ¬ (10 < 1) by omega)) (fun _ => ?_)
  refine q_load (v := (6, 455, 0)) (p2 := 35) rfl rfl rfl rfl ?_
  refine q_load (v := (0, 1, 0)) (p2 := 36) rfl rfl rfl rfl ?_
  refine x_n_lt (fun hlt19 => ?_)
  have hm18 := (x_PS_at hm15 (fun j hj hne => by have hj2 := x_some_lt hlt16 hne; exact (frn17 j (by omega))))
  refine q_callvB (xs := [(0, 1, 0), (6, 455, 0)]) (p2 := 37) rfl rfl rfl rfl (x_rcv_s 455 (x_KS_455 hK17)) rfl (k_plain_1w hc63 hm18.1.choose_spec hK17 (by omega) (by omega) (by omega) (by omega)) rfl (fun φ20 n20 sl20 hn20 hN20 hs20 hT20 hR20 => ?_)
  obtain ⟨hK20, frn20⟩ := hR20
  refine q_goto rfl ?_
  refine q_iinc (z := 2) (loc2 := [(6, 455, 0), (0, 60, 0), (6, 225, 0), (0, 2, 0), (0, 1, 0)]) (p2 := 49) rfl rfl (by decide) rfl rfl ?_
  refine q_goto rfl ?_
  refine q_load (v := (0, 2, 0)) (p2 := 20) rfl rfl rfl rfl ?_
  refine q_const (p2 := 21) rfl rfl ?_
  refine q_icmp_s (p2 := 22) rfl (by decide) (by omega) (by omega) rfl (fun hb => absurd hb (show ¬ (¬ (2 < 1000000)) by omega)) (fun _ => ?_)
  refine q_load (v := (6, 455, 0)) (p2 := 23) rfl rfl rfl rfl ?_
  refine q_getv (v := (0, 1, 0)) (p2 := 24) rfl (x_KS_455 hK20) (by decide) hK20.1.choose_spec.2.2.2.2.2.2.2.2.2.2.2.1 rfl ?_
  refine q_if0_s (p2 := 25) rfl (by decide) (by omega) rfl (fun hb => absurd hb (show ¬ (¬ (0 < 1)) by omega)) (fun _ => ?_)
  refine q_load (v := (6, 455, 0)) (p2 := 26) rfl rfl rfl rfl ?_
  refine q_getv (v := (0, 0, 0)) (p2 := 27) rfl (x_KS_455 hK20) (by decide) hK20.1.choose_spec.2.2.2.2.2.2.2.2.2.2.2.2.2.2.2.2.2.1 rfl ?_
  refine q_if0_s (p2 := 28) rfl (by decide) (by omega) rfl (fun hb => absurd hb (show ¬ (¬ (0 = 0)) by omega)) (fun _ => ?_)
  refine q_load (v := (6, 455, 0)) (p2 := 29) rfl rfl rfl rfl ?_
  refine x_n_lt (fun hlt22 => ?_)
  have hm21 := (x_PS_at hm18 (fun j hj hne => by have hj2 := x_some_lt hlt19 hne; exact (frn20 j (by omega))))
  refine q_callrE (xs := [(6, 455, 0)]) (p2 := 30) rfl rfl rfl rfl (x_rcv_s 455 (x_KS_455 hK20)) rfl (k_fetchw hc64 hm21.1.choose_spec hK20 (by omega)) (Nat.le_refl _) (Nat.le_refl _) rfl (fun φ23 hR23 => ?_)
  obtain ⟨hK23, frn23⟩ := hR23
  refine q_store (loc2 := [(6, 455, 0), (0, 60, 0), (6, 225, 0), (0, 2, 0), (0, 7, 0)]) (p2 := 31) rfl rfl rfl rfl rfl ?_
  refine q_load (v := (0, 7, 0)) (p2 := 32) rfl rfl rfl rfl ?_
  refine q_const (p2 := 33) rfl rfl ?_
  refine q_icmp_s (p2 := 34) rfl (by decide) (by omega) (by omega) rfl (fun hb => absurd hb (show ¬ (10 < 7) by omega)) (fun _ => ?_)
  refine q_load (v := (6, 455, 0)) (p2 := 35) rfl rfl rfl rfl ?_
  refine q_load (v := (0, 7, 0)) (p2 := 36) rfl rfl rfl rfl ?_
  refine x_n_lt (fun hlt25 => ?_)
  have hm24 := (x_PS_at hm21 (fun j hj hne => by have hj2 := x_some_lt hlt22 hne; exact (frn23 j (by omega))))
  refine q_callvB (xs := [(0, 7, 0), (6, 455, 0)]) (p2 := 37) rfl rfl rfl rfl (x_rcv_s 455 (x_KS_455 hK23)) rfl (k_plain_7w hc65 hm24.1.choose_spec hK23 (by omega) (by omega) hm24.2.1 (x_PS_N hm24) (by omega) (by omega)) rfl (fun φ26 n26 sl26 hn26 hN26 hs26 hT26 hR26 => ?_)
  obtain ⟨v26, hK26, hV26, frn26⟩ := hR26
  rw [if_neg h1] at hV26
  refine x_n_lt (fun hlt27 => ?_)
  have hz28 := x_mv_lt hV26 hlt27
  have hy28 := hV26.1
  refine q_goto rfl ?_
  refine q_iinc (z := 3) (loc2 := [(6, 455, 0), (0, 60, 0), (6, 225, 0), (0, 3, 0), (0, 7, 0)]) (p2 := 49) rfl rfl (by decide) rfl rfl ?_
  refine q_goto rfl ?_
  refine q_load (v := (0, 3, 0)) (p2 := 20) rfl rfl rfl rfl ?_
  refine q_const (p2 := 21) rfl rfl ?_
  refine q_icmp_s (p2 := 22) rfl (by decide) (by omega) (by omega) rfl (fun hb => absurd hb (show ¬ (¬ (3 < 1000000)) by omega)) (fun _ => ?_)
  refine q_load (v := (6, 455, 0)) (p2 := 23) rfl rfl rfl rfl ?_
  refine q_getv (v := (0, 1, 0)) (p2 := 24) rfl (x_KS_455 hK26) (by decide) hK26.1.choose_spec.2.2.2.2.2.2.2.2.2.2.2.1 rfl ?_
  refine q_if0_s (p2 := 25) rfl (by decide) (by omega) rfl (fun hb => absurd hb (show ¬ (¬ (0 < 1)) by omega)) (fun _ => ?_)
  refine q_load (v := (6, 455, 0)) (p2 := 26) rfl rfl rfl rfl ?_
  refine q_getv (v := (0, 0, 0)) (p2 := 27) rfl (x_KS_455 hK26) (by decide) hK26.1.choose_spec.2.2.2.2.2.2.2.2.2.2.2.2.2.2.2.2.2.1 rfl ?_
  refine q_if0_s (p2 := 28) rfl (by decide) (by omega) rfl (fun hb => absurd hb (show ¬ (¬ (0 = 0)) by omega)) (fun _ => ?_)
  refine q_load (v := (6, 455, 0)) (p2 := 29) rfl rfl rfl rfl ?_
  have hm29 := (x_PS_at hm24 (fun j hj hne => by have hj2 := x_some_lt hlt25 hne; exact (frn26 j (by omega) (by omega))))
  refine q_callrE (xs := [(6, 455, 0)]) (p2 := 30) rfl rfl rfl rfl (x_rcv_s 455 (x_KS_455 hK26)) rfl (k_fetchw hc66 hm29.1.choose_spec hK26 (by omega)) (Nat.le_refl _) (Nat.le_refl _) rfl (fun φ30 hR30 => ?_)
  obtain ⟨hK30, frn30⟩ := hR30
  refine q_store (loc2 := [(6, 455, 0), (0, 60, 0), (6, 225, 0), (0, 3, 0), (0, 3, 0)]) (p2 := 31) rfl rfl rfl rfl rfl ?_
  refine q_load (v := (0, 3, 0)) (p2 := 32) rfl rfl rfl rfl ?_
  refine q_const (p2 := 33) rfl rfl ?_
  refine q_icmp_s (p2 := 34) rfl (by decide) (by omega) (by omega) rfl (fun hb => absurd hb (show ¬ (10 < 3) by omega)) (fun _ => ?_)
  refine q_load (v := (6, 455, 0)) (p2 := 35) rfl rfl rfl rfl ?_
  refine q_load (v := (0, 3, 0)) (p2 := 36) rfl rfl rfl rfl ?_
  refine x_n_lt (fun hlt32 => ?_)
  have hm31 := (x_PS_at hm29 (fun j hj hne => by have hj2 := x_some_lt hlt27 hne; exact (frn30 j (by omega))))
  refine q_callvB (xs := [(0, 3, 0), (6, 455, 0)]) (p2 := 37) rfl rfl rfl rfl (x_rcv_s 455 (x_KS_455 hK30)) rfl (k_plain_3w hc67 hm31.1.choose_spec hK30 (by omega) (by omega) (by omega) (by omega)) rfl (fun φ33 n33 sl33 hn33 hN33 hs33 hT33 hR33 => ?_)
  obtain ⟨v33, hK33, hV33, frn33⟩ := hR33
  refine x_n_lt (fun hlt34 => ?_)
  have hz35 := x_mv_lt hV33 hlt34
  have hy35 := hV33.1
  refine q_goto rfl ?_
  refine q_iinc (z := 4) (loc2 := [(6, 455, 0), (0, 60, 0), (6, 225, 0), (0, 4, 0), (0, 3, 0)]) (p2 := 49) rfl rfl (by decide) rfl rfl ?_
  refine q_goto rfl ?_
  refine q_load (v := (0, 4, 0)) (p2 := 20) rfl rfl rfl rfl ?_
  refine q_const (p2 := 21) rfl rfl ?_
  refine q_icmp_s (p2 := 22) rfl (by decide) (by omega) (by omega) rfl (fun hb => absurd hb (show ¬ (¬ (4 < 1000000)) by omega)) (fun _ => ?_)
  refine q_load (v := (6, 455, 0)) (p2 := 23) rfl rfl rfl rfl ?_
  refine q_getv (v := (0, 1, 0)) (p2 := 24) rfl (x_KS_455 hK33) (by decide) hK33.1.choose_spec.2.2.2.2.2.2.2.2.2.2.2.1 rfl ?_
  refine q_if0_s (p2 := 25) rfl (by decide) (by omega) rfl (fun hb => absurd hb (show ¬ (¬ (0 < 1)) by omega)) (fun _ => ?_)
  refine q_load (v := (6, 455, 0)) (p2 := 26) rfl rfl rfl rfl ?_
  refine q_getv (v := (0, 0, 0)) (p2 := 27) rfl (x_KS_455 hK33) (by decide) hK33.1.choose_spec.2.2.2.2.2.2.2.2.2.2.2.2.2.2.2.2.2.1 rfl ?_
  refine q_if0_s (p2 := 28) rfl (by decide) (by omega) rfl (fun hb => absurd hb (show ¬ (¬ (0 = 0)) by omega)) (fun _ => ?_)
  refine q_load (v := (6, 455, 0)) (p2 := 29) rfl rfl rfl rfl ?_
  have hm36 := (x_PS_at hm31 (fun j hj hne => by have hj2 := x_some_lt hlt32 hne; exact (frn33 j (by omega) (by omega))))
  refine q_callrE (xs := [(6, 455, 0)]) (p2 := 30) rfl rfl rfl rfl (x_rcv_s 455 (x_KS_455 hK33)) rfl (k_fetchw hc68 hm36.1.choose_spec hK33 (by omega)) (Nat.le_refl _) (Nat.le_refl _) rfl (fun φ37 hR37 => ?_)
  obtain ⟨hK37, frn37⟩ := hR37
  refine q_store (loc2 := [(6, 455, 0), (0, 60, 0), (6, 225, 0), (0, 4, 0), (0, 1, 0)]) (p2 := 31) rfl rfl rfl rfl rfl ?_
  refine q_load (v := (0, 1, 0)) (p2 := 32) rfl rfl rfl rfl ?_
  refine q_const (p2 := 33) rfl rfl ?_
  refine q_icmp_s (p2 := 34) rfl (by decide) (by omega) (by omega) rfl (fun hb => absurd hb (show ¬ (10 < 1) by omega)) (fun _ => ?_)
  refine q_load (v := (6, 455, 0)) (p2 := 35) rfl rfl rfl rfl ?_
  refine q_load (v := (0, 1, 0)) (p2 := 36) rfl rfl rfl rfl ?_
  refine x_n_lt (fun hlt39 => ?_)
  have hm38 := (x_PS_at hm36 (fun j hj hne => by have hj2 := x_some_lt hlt34 hne; exact (frn37 j (by omega))))
  refine q_callvB (xs := [(0, 1, 0), (6, 455, 0)]) (p2 := 37) rfl rfl rfl rfl (x_rcv_s 455 (x_KS_455 hK37)) rfl (k_plain_1w hc69 hm38.1.choose_spec hK37 (by omega) (by omega) (by omega) (by omega)) rfl (fun φ40 n40 sl40 hn40 hN40 hs40 hT40 hR40 => ?_)
  obtain ⟨hK40, frn40⟩ := hR40
  refine q_goto rfl ?_
  refine q_iinc (z := 5) (loc2 := [(6, 455, 0), (0, 60, 0), (6, 225, 0), (0, 5, 0), (0, 1, 0)]) (p2 := 49) rfl rfl (by decide) rfl rfl ?_
  refine q_goto rfl ?_
  refine q_load (v := (0, 5, 0)) (p2 := 20) rfl rfl rfl rfl ?_
  refine q_const (p2 := 21) rfl rfl ?_
  refine q_icmp_s (p2 := 22) rfl (by decide) (by omega) (by omega) rfl (fun hb => absurd hb (show ¬ (¬ (5 < 1000000)) by omega)) (fun _ => ?_)
  refine q_load (v := (6, 455, 0)) (p2 := 23) rfl rfl rfl rfl ?_
  refine q_getv (v := (0, 1, 0)) (p2 := 24) rfl (x_KS_455 hK40) (by decide) hK40.1.choose_spec.2.2.2.2.2.2.2.2.2.2.2.1 rfl ?_
  refine q_if0_s (p2 := 25) rfl (by decide) (by omega) rfl (fun hb => absurd hb (show ¬ (¬ (0 < 1)) by omega)) (fun _ => ?_)
  refine q_load (v := (6, 455, 0)) (p2 := 26) rfl rfl rfl rfl ?_
  refine q_getv (v := (0, 0, 0)) (p2 := 27) rfl (x_KS_455 hK40) (by decide) hK40.1.choose_spec.2.2.2.2.2.2.2.2.2.2.2.2.2.2.2.2.2.1 rfl ?_
  refine q_if0_s (p2 := 28) rfl (by decide) (by omega) rfl (fun hb => absurd hb (show ¬ (¬ (0 = 0)) by omega)) (fun _ => ?_)
  refine q_load (v := (6, 455, 0)) (p2 := 29) rfl rfl rfl rfl ?_
  refine x_n_lt (fun hlt42 => ?_)
  have hm41 := (x_PS_at hm38 (fun j hj hne => by have hj2 := x_some_lt hlt39 hne; exact (frn40 j (by omega))))
  refine q_callrE (xs := [(6, 455, 0)]) (p2 := 30) rfl rfl rfl rfl (x_rcv_s 455 (x_KS_455 hK40)) rfl (k_fetchw hc70 hm41.1.choose_spec hK40 (by omega)) (Nat.le_refl _) (Nat.le_refl _) rfl (fun φ43 hR43 => ?_)
  obtain ⟨hK43, frn43⟩ := hR43
  refine q_store (loc2 := [(6, 455, 0), (0, 60, 0), (6, 225, 0), (0, 5, 0), (0, 7, 0)]) (p2 := 31) rfl rfl rfl rfl rfl ?_
  refine q_load (v := (0, 7, 0)) (p2 := 32) rfl rfl rfl rfl ?_
  refine q_const (p2 := 33) rfl rfl ?_
  refine q_icmp_s (p2 := 34) rfl (by decide) (by omega) (by omega) rfl (fun hb => absurd hb (show ¬ (10 < 7) by omega)) (fun _ => ?_)
  refine q_load (v := (6, 455, 0)) (p2 := 35) rfl rfl rfl rfl ?_
  refine q_load (v := (0, 7, 0)) (p2 := 36) rfl rfl rfl rfl ?_
  refine x_n_lt (fun hlt45 => ?_)
  have hm44 := (x_PS_at hm41 (fun j hj hne => by have hj2 := x_some_lt hlt42 hne; exact (frn43 j (by omega))))
  refine q_callvB (xs := [(0, 7, 0), (6, 455, 0)]) (p2 := 37) rfl rfl rfl rfl (x_rcv_s 455 (x_KS_455 hK43)) rfl (k_plain_7w hc71 hm44.1.choose_spec hK43 (by omega) (by omega) hm44.2.1 (x_PS_N hm44) (by omega) (by omega)) rfl (fun φ46 n46 sl46 hn46 hN46 hs46 hT46 hR46 => ?_)
  obtain ⟨v46, hK46, hV46, frn46⟩ := hR46
  rw [if_neg h2] at hV46
  refine x_n_lt (fun hlt47 => ?_)
  have hz48 := x_mv_lt hV46 hlt47
  have hy48 := hV46.1
  refine q_goto rfl ?_
  refine q_iinc (z := 6) (loc2 := [(6, 455, 0), (0, 60, 0), (6, 225, 0), (0, 6, 0), (0, 7, 0)]) (p2 := 49) rfl rfl (by decide) rfl rfl ?_
  refine q_goto rfl ?_
  refine q_load (v := (0, 6, 0)) (p2 := 20) rfl rfl rfl rfl ?_
  refine q_const (p2 := 21) rfl rfl ?_
  refine q_icmp_s (p2 := 22) rfl (by decide) (by omega) (by omega) rfl (fun hb => absurd hb (show ¬ (¬ (6 < 1000000)) by omega)) (fun _ => ?_)
  refine q_load (v := (6, 455, 0)) (p2 := 23) rfl rfl rfl rfl ?_
  refine q_getv (v := (0, 1, 0)) (p2 := 24) rfl (x_KS_455 hK46) (by decide) hK46.1.choose_spec.2.2.2.2.2.2.2.2.2.2.2.1 rfl ?_
  refine q_if0_s (p2 := 25) rfl (by decide) (by omega) rfl (fun hb => absurd hb (show ¬ (¬ (0 < 1)) by omega)) (fun _ => ?_)
  refine q_load (v := (6, 455, 0)) (p2 := 26) rfl rfl rfl rfl ?_
  refine q_getv (v := (0, 0, 0)) (p2 := 27) rfl (x_KS_455 hK46) (by decide) hK46.1.choose_spec.2.2.2.2.2.2.2.2.2.2.2.2.2.2.2.2.2.1 rfl ?_
  refine q_if0_s (p2 := 28) rfl (by decide) (by omega) rfl (fun hb => absurd hb (show ¬ (¬ (0 = 0)) by omega)) (fun _ => ?_)
  refine q_load (v := (6, 455, 0)) (p2 := 29) rfl rfl rfl rfl ?_
  have hm49 := (x_PS_at hm44 (fun j hj hne => by have hj2 := x_some_lt hlt45 hne; exact (frn46 j (by omega) (by omega))))
  refine q_callrE (xs := [(6, 455, 0)]) (p2 := 30) rfl rfl rfl rfl (x_rcv_s 455 (x_KS_455 hK46)) rfl (k_fetchw hc72 hm49.1.choose_spec hK46 (by omega)) (Nat.le_refl _) (Nat.le_refl _) rfl (fun φ50 hR50 => ?_)
  obtain ⟨hK50, frn50⟩ := hR50
  refine q_store (loc2 := [(6, 455, 0), (0, 60, 0), (6, 225, 0), (0, 6, 0), (0, 3, 0)]) (p2 := 31) rfl rfl rfl rfl rfl ?_
  refine q_load (v := (0, 3, 0)) (p2 := 32) rfl rfl rfl rfl ?_
  refine q_const (p2 := 33) rfl rfl ?_
  refine q_icmp_s (p2 := 34) rfl (by decide) (by omega) (by omega) rfl (fun hb => absurd hb (show ¬ (10 < 3) by omega)) (fun _ => ?_)
  refine q_load (v := (6, 455, 0)) (p2 := 35) rfl rfl rfl rfl ?_
  refine q_load (v := (0, 3, 0)) (p2 := 36) rfl rfl rfl rfl ?_
  refine x_n_lt (fun hlt52 => ?_)
  have hm51 := (x_PS_at hm49 (fun j hj hne => by have hj2 := x_some_lt hlt47 hne; exact (frn50 j (by omega))))
  refine q_callvB (xs := [(0, 3, 0), (6, 455, 0)]) (p2 := 37) rfl rfl rfl rfl (x_rcv_s 455 (x_KS_455 hK50)) rfl (k_plain_3w hc73 hm51.1.choose_spec hK50 (by omega) (by omega) (by omega) (by omega)) rfl (fun φ53 n53 sl53 hn53 hN53 hs53 hT53 hR53 => ?_)
  obtain ⟨v53, hK53, hV53, frn53⟩ := hR53
  refine x_n_lt (fun hlt54 => ?_)
  have hz55 := x_mv_lt hV53 hlt54
  have hy55 := hV53.1
  refine q_goto rfl ?_
  refine q_iinc (z := 7) (loc2 := [(6, 455, 0), (0, 60, 0), (6, 225, 0), (0, 7, 0), (0, 3, 0)]) (p2 := 49) rfl rfl (by decide) rfl rfl ?_
  refine q_goto rfl ?_
  refine q_load (v := (0, 7, 0)) (p2 := 20) rfl rfl rfl rfl ?_
  refine q_const (p2 := 21) rfl rfl ?_
  refine q_icmp_s (p2 := 22) rfl (by decide) (by omega) (by omega) rfl (fun hb => absurd hb (show ¬ (¬ (7 < 1000000)) by omega)) (fun _ => ?_)
  refine q_load (v := (6, 455, 0)) (p2 := 23) rfl rfl rfl rfl ?_
  refine q_getv (v := (0, 1, 0)) (p2 := 24) rfl (x_KS_455 hK53) (by decide) hK53.1.choose_spec.2.2.2.2.2.2.2.2.2.2.2.1 rfl ?_
  refine q_if0_s (p2 := 25) rfl (by decide) (by omega) rfl (fun hb => absurd hb (show ¬ (¬ (0 < 1)) by omega)) (fun _ => ?_)
  refine q_load (v := (6, 455, 0)) (p2 := 26) rfl rfl rfl rfl ?_
  refine q_getv (v := (0, 0, 0)) (p2 := 27) rfl (x_KS_455 hK53) (by decide) hK53.1.choose_spec.2.2.2.2.2.2.2.2.2.2.2.2.2.2.2.2.2.1 rfl ?_
  refine q_if0_s (p2 := 28) rfl (by decide) (by omega) rfl (fun hb => absurd hb (show ¬ (¬ (0 = 0)) by omega)) (fun _ => ?_)
  refine q_load (v := (6, 455, 0)) (p2 := 29) rfl rfl rfl rfl ?_
  have hm56 := (x_PS_at hm51 (fun j hj hne => by have hj2 := x_some_lt hlt52 hne; exact (frn53 j (by omega) (by omega))))
  refine q_callrE (xs := [(6, 455, 0)]) (p2 := 30) rfl rfl rfl rfl (x_rcv_s 455 (x_KS_455 hK53)) rfl (k_fetchw hc74 hm56.1.choose_spec hK53 (by omega)) (Nat.le_refl _) (Nat.le_refl _) rfl (fun φ57 hR57 => ?_)
  obtain ⟨hK57, frn57⟩ := hR57
  refine q_store (loc2 := [(6, 455, 0), (0, 60, 0), (6, 225, 0), (0, 7, 0), (0, 18, 0)]) (p2 := 31) rfl rfl rfl rfl rfl ?_
  refine q_load (v := (0, 18, 0)) (p2 := 32) rfl rfl rfl rfl ?_
  refine q_const (p2 := 33) rfl rfl ?_
  refine q_icmp_s (p2 := 34) rfl (by decide) (by omega) (by omega) rfl (fun _ => ?_) (fun hb => absurd (show 10 < 18 by omega) hb)
  refine q_load (v := (0, 18, 0)) (p2 := 39) rfl rfl rfl rfl ?_
  refine q_const (p2 := 40) rfl rfl ?_
  refine q_icmp_s (p2 := 41) rfl (by decide) (by omega) (by omega) rfl (fun hb => absurd hb (show ¬ (19 < 18) by omega)) (fun _ => ?_)
  refine q_load (v := (6, 455, 0)) (p2 := 42) rfl rfl rfl rfl ?_
  refine q_load (v := (0, 18, 0)) (p2 := 43) rfl rfl rfl rfl ?_
  refine x_n_lt (fun hlt59 => ?_)
  have hv58 := x_mv_at hV26 (fun j hj hne => by have hj2 := x_some_lt hlt27 hne; exact ((frn57 j (by omega)).trans ((frn53 j (by omega) (by omega)).trans ((frn50 j (by omega)).trans ((frn46 j (by omega) (by omega)).trans ((frn43 j (by omega)).trans ((frn40 j (by omega)).trans ((frn37 j (by omega)).trans ((frn33 j (by omega) (by omega)).trans (frn30 j (by omega)))))))))))
  have hv60 := x_mv_at hV33 (fun j hj hne => by have hj2 := x_some_lt hlt34 hne; exact ((frn57 j (by omega)).trans ((frn53 j (by omega) (by omega)).trans ((frn50 j (by omega)).trans ((frn46 j (by omega) (by omega)).trans ((frn43 j (by omega)).trans ((frn40 j (by omega)).trans (frn37 j (by omega)))))))))
  have hv61 := x_mv_at hV46 (fun j hj hne => by have hj2 := x_some_lt hlt47 hne; exact ((frn57 j (by omega)).trans ((frn53 j (by omega) (by omega)).trans (frn50 j (by omega)))))
  have hv62 := x_mv_at hV53 (fun j hj hne => by have hj2 := x_some_lt hlt54 hne; exact (frn57 j (by omega)))
  have hm63 := (x_PS_at hm56 (fun j hj hne => by have hj2 := x_some_lt hlt54 hne; exact (frn57 j (by omega))))
  refine q_callvB (xs := [(0, 18, 0), (6, 455, 0)]) (p2 := 44) rfl rfl rfl rfl (x_rcv_s 455 (x_KS_455 hK57)) rfl (zc_kop18_00 (a := 0) (b := 0) hm63 hK57 hc75 (by omega) ((x_s_ne (by decide)).trans ((x_s_ne (by decide)).trans ((x_s_ne (by decide)).trans (x_s_eq)))) ((x_s_ne (by decide)).trans ((x_s_ne (by decide)).trans (x_s_eq))) ((x_s_ne (by decide)).trans (x_s_eq)) (x_s_eq) hv58 hv60 hv61 hv62 (by omega) (by omega) (by omega)) rfl (fun φ64 n64 sl64 hn64 hN64 hs64 hT64 hR64 => ?_)
  obtain ⟨v64, hK64, hV64, frn64⟩ := hR64
  refine x_n_lt (fun hlt65 => ?_)
  have hz66 := x_mv_lt hV64 hlt65
  have hy66 := hV64.1
  refine q_goto rfl ?_
  refine q_iinc (z := 8) (loc2 := [(6, 455, 0), (0, 60, 0), (6, 225, 0), (0, 8, 0), (0, 18, 0)]) (p2 := 49) rfl rfl (by decide) rfl rfl ?_
  refine q_goto rfl ?_
  refine q_load (v := (0, 8, 0)) (p2 := 20) rfl rfl rfl rfl ?_
  refine q_const (p2 := 21) rfl rfl ?_
  refine q_icmp_s (p2 := 22) rfl (by decide) (by omega) (by omega) rfl (fun hb => absurd hb (show ¬ (¬ (8 < 1000000)) by omega)) (fun _ => ?_)
  refine q_load (v := (6, 455, 0)) (p2 := 23) rfl rfl rfl rfl ?_
  refine q_getv (v := (0, 1, 0)) (p2 := 24) rfl (x_KS_455 hK64) (by decide) hK64.1.choose_spec.2.2.2.2.2.2.2.2.2.2.2.1 rfl ?_
  refine q_if0_s (p2 := 25) rfl (by decide) (by omega) rfl (fun hb => absurd hb (show ¬ (¬ (0 < 1)) by omega)) (fun _ => ?_)
  refine q_load (v := (6, 455, 0)) (p2 := 26) rfl rfl rfl rfl ?_
  refine q_getv (v := (0, 0, 0)) (p2 := 27) rfl (x_KS_455 hK64) (by decide) hK64.1.choose_spec.2.2.2.2.2.2.2.2.2.2.2.2.2.2.2.2.2.1 rfl ?_
  refine q_if0_s (p2 := 28) rfl (by decide) (by omega) rfl (fun hb => absurd hb (show ¬ (¬ (0 = 0)) by omega)) (fun _ => ?_)
  refine q_load (v := (6, 455, 0)) (p2 := 29) rfl rfl rfl rfl ?_
  have hm67 := (x_PS_at hm63 (fun j hj hne => by have hj2 := x_some_lt hlt59 hne; exact (frn64 j (by omega) (by omega))))
  refine q_callrE (xs := [(6, 455, 0)]) (p2 := 30) rfl rfl rfl rfl (x_rcv_s 455 (x_KS_455 hK64)) rfl (k_fetchw hc76 hm67.1.choose_spec hK64 (by omega)) (Nat.le_refl _) (Nat.le_refl _) rfl (fun φ68 hR68 => ?_)
  obtain ⟨hK68, frn68⟩ := hR68
  refine q_store (loc2 := [(6, 455, 0), (0, 60, 0), (6, 225, 0), (0, 8, 0), (0, 31, 0)]) (p2 := 31) rfl rfl rfl rfl rfl ?_
  refine q_load (v := (0, 31, 0)) (p2 := 32) rfl rfl rfl rfl ?_
  refine q_const (p2 := 33) rfl rfl ?_
  refine q_icmp_s (p2 := 34) rfl (by decide) (by omega) (by omega) rfl (fun _ => ?_) (fun hb => absurd (show 10 < 31 by omega) hb)
  refine q_load (v := (0, 31, 0)) (p2 := 39) rfl rfl rfl rfl ?_
  refine q_const (p2 := 40) rfl rfl ?_
  refine q_icmp_s (p2 := 41) rfl (by decide) (by omega) (by omega) rfl (fun _ => ?_) (fun hb => absurd (show 19 < 31 by omega) hb)
  refine q_load (v := (6, 455, 0)) (p2 := 46) rfl rfl rfl rfl ?_
  refine q_load (v := (0, 31, 0)) (p2 := 47) rfl rfl rfl rfl ?_
  refine x_n_lt (fun hlt70 => ?_)
  have hm69 := (x_PS_at hm67 (fun j hj hne => by have hj2 := x_some_lt hlt65 hne; exact (frn68 j (by omega))))
  have hv71 := x_mv_at hV64 (fun j hj hne => by have hj2 := x_some_lt hlt65 hne; exact (frn68 j (by omega)))
  refine q_callvB (xs := [(0, 31, 0), (6, 455, 0)]) (p2 := 48) rfl rfl rfl rfl (x_rcv_s 455 (x_KS_455 hK68)) rfl (k_lead_31 (top := 0) (fr := 0) hm69.1.choose_spec hK68 (by omega) (by omega) hv71 (Or.inl rfl) (by omega) (by show (0 : Nat) < 4096; decide)) rfl (fun φ72 n72 sl72 hn72 hN72 hs72 hT72 hR72 => ?_)
  obtain ⟨hK72, frn72⟩ := hR72
  refine q_iinc (z := 9) (loc2 := [(6, 455, 0), (0, 60, 0), (6, 225, 0), (0, 9, 0), (0, 31, 0)]) (p2 := 49) rfl rfl (by decide) rfl rfl ?_
  refine q_goto rfl ?_
  refine q_load (v := (0, 9, 0)) (p2 := 20) rfl rfl rfl rfl ?_
  refine q_const (p2 := 21) rfl rfl ?_
  refine q_icmp_s (p2 := 22) rfl (by decide) (by omega) (by omega) rfl (fun hb => absurd hb (show ¬ (¬ (9 < 1000000)) by omega)) (fun _ => ?_)
  refine q_load (v := (6, 455, 0)) (p2 := 23) rfl rfl rfl rfl ?_
  refine q_getv (v := (0, 0, 0)) (p2 := 24) rfl (x_KS_455 hK72) (by decide) hK72.1.choose_spec.2.2.2.2.2.2.2.2.2.2.2.1 rfl ?_
  refine q_if0_s (p2 := 25) rfl (by decide) (by omega) rfl (fun _ => ?_) (fun hb => absurd (show ¬ (0 < 0) by omega) hb)
  refine q_load (v := (6, 455, 0)) (p2 := 51) rfl rfl rfl rfl ?_
  refine q_getv (v := (0, 0, 0)) (p2 := 52) rfl (x_KS_455 hK72) (by decide) hK72.1.choose_spec.2.2.2.2.2.2.2.2.2.2.2.2.2.2.2.2.2.1 rfl ?_
  refine q_if0_s (p2 := 53) rfl (by decide) (by omega) rfl (fun _ => ?_) (fun hb => absurd (show 0 = 0 by omega) hb)
  refine q_load (v := (6, 455, 0)) (p2 := 57) rfl rfl rfl rfl ?_
  refine q_callrE (xs := [(6, 455, 0)]) (p2 := 58) rfl rfl rfl rfl (x_rcv_s 455 (x_KS_455 hK72)) rfl (k_pop (top := 0) hK72 (by omega)) (Nat.le_refl _) (Nat.le_refl _) rfl (fun φ73 hR73 => ?_)
  obtain ⟨hK73, frn73⟩ := hR73
  refine x_n_lt (fun hlt75 => ?_)
  have hv74 := x_mv_at hv71 (fun j hj hne => by have hj2 := x_some_lt hlt70 hne; exact ((frn73 j (by omega)).trans (frn72 j (by omega))))
  exact q_retv (v := (6, v64, 0)) rfl rfl (⟨rfl, ⟨by omega, by omega⟩, ⟨by omega, by omega⟩, v64, rfl, ⟨_, _, _, _, _, _, _, _, _, _, hK73⟩, hv74, fun j hj1 hj2 => ((frn73 j (by omega)).trans ((frn72 j (by omega)).trans ((frn68 j (by omega)).trans ((frn64 j (by omega) (by omega)).trans ((frn57 j (by omega)).trans ((frn53 j (by omega) (by omega)).trans ((frn50 j (by omega)).trans ((frn46 j (by omega) (by omega)).trans ((frn43 j (by omega)).trans ((frn40 j (by omega)).trans ((frn37 j (by omega)).trans ((frn33 j (by omega) (by omega)).trans ((frn30 j (by omega)).trans ((frn26 j (by omega) (by omega)).trans ((frn23 j (by omega)).trans ((frn20 j (by omega)).trans ((frn17 j (by omega)).trans ((frn14 j (by omega)).trans ((frn11 j (by omega)).trans ((frn8 j (by omega)).trans ((fr4 j (by omega)).trans ((fr3 j (by omega)).trans ((fr2 j (by omega)).trans (fr1 j (by omega)))))))))))))))))))))))))⟩)
set_option maxHeartbeats 1000000 in
theorem zc_run_eq_nn {d n sl : Nat} {φ : FH} {A : Nat} {B : Nat} {made : Nat} {sv : Nat} {svm : Nat} {s9 : Nat} {comb : Nat → Nat} {hm : Nat → MV} {top : Nat} {fr : Nat} {pc_ : Nat} {mm : Nat} {mi : Nat} {st : Nat → Nat} {lo : Nat → Nat} {re : Nat → Nat} {rs : Nat → Nat} {fl : Nat → Nat} {se : Nat → Nat} {co : Nat → Nat} {w1 w2 : Nat} {lik : Nat → Nat} (hPS : x_PS φ A B made sv svm s9 comb hm) (hKS : x_KS φ top fr pc_ mm mi st lo re rs fl se co) (hn0 : 486 ≤ n) (hmi : mi + 30 ≤ 20000) (hc60 : co 60 = 1) (hc61 : co 61 = 2) (hc62 : co 62 = 7) (hc63 : co 63 = w1) (hc64 : co 64 = 1) (hc65 : co 65 = 1) (hc66 : co 66 = 7) (hc67 : co 67 = w2) (hc68 : co 68 = 15) (hc69 : co 69 = 64) (hc70 : co 70 = 31) (hw1 : w1 < 512) (hw2 : w2 < 512) (h1 : ¬ (w1 < made ∧ comb w1 ≠ 0)) (h2 : ¬ (w2 < made ∧ comb w2 ≠ 0)) (hL : x_row φ A lik) (hA : A < 232) : x_f x_P (d + 6) 56 [(6, 455, 0), (0, 60, 0), (6, 225, 0), (11, 0, 0), (11, 0, 0)] φ n sl (x_bR n sl 3 21 (fun zw φ2 => ∃ v, zw = (6, v, 0) ∧ x_KJ φ2 (mi + 3) co ∧ x_mv φ2 v ((3, 1, 0, 0, [])) ∧ ∀ j, j < n → (j < 455 ∨ 466 ≤ j) → φ2 j = φ j)) := by
  refine x_f_of rfl ?_
  refine x_n_lt (fun hlt0 => ?_)
  refine q_load (v := (6, 455, 0)) (p2 := 1) rfl rfl rfl rfl ?_
  refine q_const (p2 := 2) rfl rfl ?_
  refine q_putfE (v := (0, 0, 0)) (p2 := 3) rfl (x_KS_455 hKS) (by decide) rfl rfl (fun φ1 f1 hh1 hg1 ho1 fr1 => ?_)
  have hs1 := x_KS_put_18 hKS hh1 hg1 ho1 fr1
  refine q_load (v := (6, 455, 0)) (p2 := 4) rfl rfl rfl rfl ?_
  refine q_const (p2 := 5) rfl rfl ?_
  refine q_putfE (v := (0, 0, 0)) (p2 := 6) rfl (x_KS_455 hs1) (by decide) rfl rfl (fun φ2 f2 hh2 hg2 ho2 fr2 => ?_)
  have hs2 := x_KS_put_16 hs1 hh2 hg2 ho2 fr2
  refine q_load (v := (6, 455, 0)) (p2 := 7) rfl rfl rfl rfl ?_
  refine q_const (p2 := 8) rfl rfl ?_
  refine q_putfE (v := (0, 0, 0)) (p2 := 9) rfl (x_KS_455 hs2) (by decide) rfl rfl (fun φ3 f3 hh3 hg3 ho3 fr3 => ?_)
  have hs3 := x_KS_put_4 hs2 hh3 hg3 ho3 fr3
  refine q_load (v := (6, 455, 0)) (p2 := 10) rfl rfl rfl rfl ?_
  refine q_const (p2 := 11) rfl rfl ?_
  refine q_putfE (v := (0, 0, 0)) (p2 := 12) rfl (x_KS_455 hs3) (by decide) rfl rfl (fun φ4 f4 hh4 hg4 ho4 fr4 => ?_)
  have hs4 := x_KS_put_10 hs3 hh4 hg4 ho4 fr4
  refine q_load (v := (6, 455, 0)) (p2 := 13) rfl rfl rfl rfl ?_
  refine q_load (v := (0, 60, 0)) (p2 := 14) rfl rfl rfl rfl ?_
  refine q_const (p2 := 15) rfl rfl ?_
  refine q_load (v := (6, 225, 0)) (p2 := 16) rfl rfl rfl rfl ?_
  refine x_n_lt (fun hlt6 => ?_)
  have hm5 := (x_PS_at hPS (fun j hj hne => by have hj2 := x_some_lt hlt0 hne; exact ((fr4 j (by omega)).trans ((fr3 j (by omega)).trans ((fr2 j (by omega)).trans (fr1 j (by omega)))))))
  have hv7 := x_mv_at (x_PS_N hPS) (fun j hj hne => by have hj2 := x_some_lt hlt0 hne; exact ((fr4 j (by omega)).trans ((fr3 j (by omega)).trans ((fr2 j (by omega)).trans (fr1 j (by omega))))))
  refine q_callvE (xs := [(6, 225, 0), (0, 4294967293, 0), (0, 60, 0), (6, 455, 0)]) (p2 := 17) rfl rfl rfl rfl (x_rcv_s 455 (x_KS_455 hs4)) rfl (k_open hs4 (x_PS_N hm5) hv7 (by omega)) (Nat.le_refl _) (Nat.le_refl _) rfl (fun φ8 hR8 => ?_)
  obtain ⟨hK8, frn8⟩ := hR8
  refine q_const (p2 := 18) rfl rfl ?_
  refine q_store (loc2 := [(6, 455, 0), (0, 60, 0), (6, 225, 0), (0, 0, 0), (11, 0, 0)]) (p2 := 19) rfl rfl rfl rfl rfl ?_
  refine q_load (v := (0, 0, 0)) (p2 := 20) rfl rfl rfl rfl ?_
  refine q_const (p2 := 21) rfl rfl ?_
  refine q_icmp_s (p2 := 22) rfl (by decide) (by omega) (by omega) rfl (fun hb => absurd hb (show ¬ (¬ (0 < 1000000)) by omega)) (fun _ => ?_)
  refine q_load (v := (6, 455, 0)) (p2 := 23) rfl rfl rfl rfl ?_
  refine q_getv (v := (0, 1, 0)) (p2 := 24) rfl (x_KS_455 hK8) (by decide) hK8.1.choose_spec.2.2.2.2.2.2.2.2.2.2.2.1 rfl ?_
  refine q_if0_s (p2 := 25) rfl (by decide) (by omega) rfl (fun hb => absurd hb (show ¬ (¬ (0 < 1)) by omega)) (fun _ => ?_)
  refine q_load (v := (6, 455, 0)) (p2 := 26) rfl rfl rfl rfl ?_
  refine q_getv (v := (0, 0, 0)) (p2 := 27) rfl (x_KS_455 hK8) (by decide) hK8.1.choose_spec.2.2.2.2.2.2.2.2.2.2.2.2.2.2.2.2.2.1 rfl ?_
  refine q_if0_s (p2 := 28) rfl (by decide) (by omega) rfl (fun hb => absurd hb (show ¬ (¬ (0 = 0)) by omega)) (fun _ => ?_)
  refine q_load (v := (6, 455, 0)) (p2 := 29) rfl rfl rfl rfl ?_
  refine x_n_lt (fun hlt10 => ?_)
  have hm9 := (x_PS_at hm5 (fun j hj hne => by have hj2 := x_some_lt hlt6 hne; exact (frn8 j (by omega))))
  refine q_callrE (xs := [(6, 455, 0)]) (p2 := 30) rfl rfl rfl rfl (x_rcv_s 455 (x_KS_455 hK8)) rfl (k_fetchw hc60 hm9.1.choose_spec hK8 (by omega)) (Nat.le_refl _) (Nat.le_refl _) rfl (fun φ11 hR11 => ?_)
  obtain ⟨hK11, frn11⟩ := hR11
  refine q_store (loc2 := [(6, 455, 0), (0, 60, 0), (6, 225, 0), (0, 0, 0), (0, 1, 0)]) (p2 := 31) rfl rfl rfl rfl rfl ?_
  refine q_load (v := (0, 1, 0)) (p2 := 32) rfl rfl rfl rfl ?_
  refine q_const (p2 := 33) rfl rfl ?_
  refine q_icmp_s (p2 := 34) rfl (by decide) (by omega) (by omega) rfl (fun hb => absurd hb (show ¬ (10 < 1) by omega)) (fun _ => ?_)
  refine q_load (v := (6, 455, 0)) (p2 := 35) rfl rfl rfl rfl ?_
  refine q_load (v := (0, 1, 0)) (p2 := 36) rfl rfl rfl rfl ?_
  refine x_n_lt (fun hlt13 => ?_)
  have hm12 := (x_PS_at hm9 (fun j hj hne => by have hj2 := x_some_lt hlt10 hne; exact (frn11 j (by omega))))
  refine q_callvB (xs := [(0, 1, 0), (6, 455, 0)]) (p2 := 37) rfl rfl rfl rfl (x_rcv_s 455 (x_KS_455 hK11)) rfl (k_plain_1w hc61 hm12.1.choose_spec hK11 (by omega) (by omega) (by omega) (by omega)) rfl (fun φ14 n14 sl14 hn14 hN14 hs14 hT14 hR14 => ?_)
  obtain ⟨hK14, frn14⟩ := hR14
  refine q_goto rfl ?_
  refine q_iinc (z := 1) (loc2 := [(6, 455, 0), (0, 60, 0), (6, 225, 0), (0, 1, 0), (0, 1, 0)]) (p2 := 49) rfl rfl (by decide) rfl rfl ?_
  refine q_goto rfl ?_
  refine q_load (v := (0, 1, 0)) (p2 := 20) rfl rfl rfl rfl ?_
  refine q_const (p2 := 21) rfl rfl ?_
  refine q_icmp_s (p2 := 22) rfl (by decide) (by omega) (by omega) rfl (fun hb => absurd hb (show ¬ (¬ (1 < 1000000)) by omega)) (fun _ => ?_)
  refine q_load (v := (6, 455, 0)) (p2 := 23) rfl rfl rfl rfl ?_
  refine q_getv (v := (0, 1, 0)) (p2 := 24) rfl (x_KS_455 hK14) (by decide) hK14.1.choose_spec.2.2.2.2.2.2.2.2.2.2.2.1 rfl ?_
  refine q_if0_s (p2 := 25) rfl (by decide) (by omega) rfl (fun hb => absurd hb (show ¬ (¬ (0 < 1)) by omega)) (fun _ => ?_)
  refine q_load (v := (6, 455, 0)) (p2 := 26) rfl rfl rfl rfl ?_
  refine q_getv (v := (0, 0, 0)) (p2 := 27) rfl (x_KS_455 hK14) (by decide) hK14.1.choose_spec.2.2.2.2.2.2.2.2.2.2.2.2.2.2.2.2.2.1 rfl ?_
  refine q_if0_s (p2 := 28) rfl (by decide) (by omega) rfl (fun hb => absurd hb (show ¬ (¬ (0 = 0)) by omega)) (fun _ => ?_)
  refine q_load (v := (6, 455, 0)) (p2 := 29) rfl rfl rfl rfl ?_
  refine x_n_lt (fun hlt16 => ?_)
  have hm15 := (x_PS_at hm12 (fun j hj hne => by have hj2 := x_some_lt hlt13 hne; exact (frn14 j (by omega))))
  refine q_callrE (xs := [(6, 455, 0)]) (p2 := 30) rfl rfl rfl rfl (x_rcv_s 455 (x_KS_455 hK14)) rfl (k_fetchw hc62 hm15.1.choose_spec hK14 (by omega)) (Nat.le_refl _) (Nat.le_refl _) rfl (fun φ17 hR17 => ?_)
  obtain ⟨hK17, frn17⟩ := hR17
  refine q_store (loc2 := [(6, 455, 0), (0, 60, 0), (6, 225, 0), (0, 1, 0), (0, 7, 0)]) (p2 := 31) rfl rfl rfl rfl rfl ?_
  refine q_load (v := (0, 7, 0)) (p2 := 32) rfl rfl rfl rfl ?_
  refine q_const (p2 := 33) rfl rfl ?_
  refine q_icmp_s (p2 := 34) rfl (by decide) (by omega) (by omega) rfl (fun hb => absurd hb (show ¬ (10 < 7) by omega)) (fun _ => ?_)
  refine q_load (v := (6, 455, 0)) (p2 := 35) rfl rfl rfl rfl ?_
  refine q_load (v := (0, 7, 0)) (p2 := 36) rfl rfl rfl rfl ?_
  refine x_n_lt (fun hlt19 => ?_)
  have hm18 := (x_PS_at hm15 (fun j hj hne => by have hj2 := x_some_lt hlt16 hne; exact (frn17 j (by omega))))
  refine q_callvB (xs := [(0, 7, 0), (6, 455, 0)]) (p2 := 37) rfl rfl rfl rfl (x_rcv_s 455 (x_KS_455 hK17)) rfl (k_plain_7w hc63 hm18.1.choose_spec hK17 (by omega) (by omega) hm18.2.1 (x_PS_N hm18) (by omega) (by omega)) rfl (fun φ20 n20 sl20 hn20 hN20 hs20 hT20 hR20 => ?_)
  obtain ⟨v20, hK20, hV20, frn20⟩ := hR20
  rw [if_neg h1] at hV20
  refine x_n_lt (fun hlt21 => ?_)
  have hz22 := x_mv_lt hV20 hlt21
  have hy22 := hV20.1
  refine q_goto rfl ?_
  refine q_iinc (z := 2) (loc2 := [(6, 455, 0), (0, 60, 0), (6, 225, 0), (0, 2, 0), (0, 7, 0)]) (p2 := 49) rfl rfl (by decide) rfl rfl ?_
  refine q_goto rfl ?_
  refine q_load (v := (0, 2, 0)) (p2 := 20) rfl rfl rfl rfl ?_
  refine q_const (p2 := 21) rfl rfl ?_
  refine q_icmp_s (p2 := 22) rfl (by decide) (by omega) (by omega) rfl (fun hb => absurd hb (show ¬ (¬ (2 < 1000000)) by omega)) (fun _ => ?_)
  refine q_load (v := (6, 455, 0)) (p2 := 23) rfl rfl rfl rfl ?_
  refine q_getv (v := (0, 1, 0)) (p2 := 24) rfl (x_KS_455 hK20) (by decide) hK20.1.choose_spec.2.2.2.2.2.2.2.2.2.2.2.1 rfl ?_
  refine q_if0_s (p2 := 25) rfl (by decide) (by omega) rfl (fun hb => absurd hb (show ¬ (¬ (0 < 1)) by omega)) (fun _ => ?_)
  refine q_load (v := (6, 455, 0)) (p2 := 26) rfl rfl rfl rfl ?_
  refine q_getv (v := (0, 0, 0)) (p2 := 27) rfl (x_KS_455 hK20) (by decide) hK20.1.choose_spec.2.2.2.2.2.2.2.2.2.2.2.2.2.2.2.2.2.1 rfl ?_
  refine q_if0_s (p2 := 28) rfl (by decide) (by omega) rfl (fun hb => absurd hb (show ¬ (¬ (0 = 0)) by omega)) (fun _ => ?_)
  refine q_load (v := (6, 455, 0)) (p2 := 29) rfl rfl rfl rfl ?_
  have hm23 := (x_PS_at hm18 (fun j hj hne => by have hj2 := x_some_lt hlt19 hne; exact (frn20 j (by omega) (by omega))))
  refine q_callrE (xs := [(6, 455, 0)]) (p2 := 30) rfl rfl rfl rfl (x_rcv_s 455 (x_KS_455 hK20)) rfl (k_fetchw hc64 hm23.1.choose_spec hK20 (by omega)) (Nat.le_refl _) (Nat.le_refl _) rfl (fun φ24 hR24 => ?_)
  obtain ⟨hK24, frn24⟩ := hR24
  refine q_store (loc2 := [(6, 455, 0), (0, 60, 0), (6, 225, 0), (0, 2, 0), (0, 1, 0)]) (p2 := 31) rfl rfl rfl rfl rfl ?_
  refine q_load (v := (0, 1, 0)) (p2 := 32) rfl rfl rfl rfl ?_
  refine q_const (p2 := 33) rfl rfl ?_
  refine q_icmp_s (p2 := 34) rfl (by decide) (by omega) (by omega) rfl (fun hb => absurd hb (show ¬ (10 < 1) by omega)) (fun _ => ?_)
  refine q_load (v := (6, 455, 0)) (p2 := 35) rfl rfl rfl rfl ?_
  refine q_load (v := (0, 1, 0)) (p2 := 36) rfl rfl rfl rfl ?_
  refine x_n_lt (fun hlt26 => ?_)
  have hm25 := (x_PS_at hm23 (fun j hj hne => by have hj2 := x_some_lt hlt21 hne; exact (frn24 j (by omega))))
  refine q_callvB (xs := [(0, 1, 0), (6, 455, 0)]) (p2 := 37) rfl rfl rfl rfl (x_rcv_s 455 (x_KS_455 hK24)) rfl (k_plain_1w hc65 hm25.1.choose_spec hK24 (by omega) (by omega) (by omega) (by omega)) rfl (fun φ27 n27 sl27 hn27 hN27 hs27 hT27 hR27 => ?_)
  obtain ⟨hK27, frn27⟩ := hR27
  refine q_goto rfl ?_
  refine q_iinc (z := 3) (loc2 := [(6, 455, 0), (0, 60, 0), (6, 225, 0), (0, 3, 0), (0, 1, 0)]) (p2 := 49) rfl rfl (by decide) rfl rfl ?_
  refine q_goto rfl ?_
  refine q_load (v := (0, 3, 0)) (p2 := 20) rfl rfl rfl rfl ?_
  refine q_const (p2 := 21) rfl rfl ?_
  refine q_icmp_s (p2 := 22) rfl (by decide) (by omega) (by omega) rfl (fun hb => absurd hb (show ¬ (¬ (3 < 1000000)) by omega)) (fun _ => ?_)
  refine q_load (v := (6, 455, 0)) (p2 := 23) rfl rfl rfl rfl ?_
  refine q_getv (v := (0, 1, 0)) (p2 := 24) rfl (x_KS_455 hK27) (by decide) hK27.1.choose_spec.2.2.2.2.2.2.2.2.2.2.2.1 rfl ?_
  refine q_if0_s (p2 := 25) rfl (by decide) (by omega) rfl (fun hb => absurd hb (show ¬ (¬ (0 < 1)) by omega)) (fun _ => ?_)
  refine q_load (v := (6, 455, 0)) (p2 := 26) rfl rfl rfl rfl ?_
  refine q_getv (v := (0, 0, 0)) (p2 := 27) rfl (x_KS_455 hK27) (by decide) hK27.1.choose_spec.2.2.2.2.2.2.2.2.2.2.2.2.2.2.2.2.2.1 rfl ?_
  refine q_if0_s (p2 := 28) rfl (by decide) (by omega) rfl (fun hb => absurd hb (show ¬ (¬ (0 = 0)) by omega)) (fun _ => ?_)
  refine q_load (v := (6, 455, 0)) (p2 := 29) rfl rfl rfl rfl ?_
  refine x_n_lt (fun hlt29 => ?_)
  have hm28 := (x_PS_at hm25 (fun j hj hne => by have hj2 := x_some_lt hlt26 hne; exact (frn27 j (by omega))))
  refine q_callrE (xs := [(6, 455, 0)]) (p2 := 30) rfl rfl rfl rfl (x_rcv_s 455 (x_KS_455 hK27)) rfl (k_fetchw hc66 hm28.1.choose_spec hK27 (by omega)) (Nat.le_refl _) (Nat.le_refl _) rfl (fun φ30 hR30 => ?_)
  obtain ⟨hK30, frn30⟩ := hR30
  refine q_store (loc2 := [(6, 455, 0), (0, 60, 0), (6, 225, 0), (0, 3, 0), (0, 7, 0)]) (p2 := 31) rfl rfl rfl rfl rfl ?_
  refine q_load (v := (0, 7, 0)) (p2 := 32) rfl rfl rfl rfl ?_
  refine q_const (p2 := 33) rfl rfl ?_
  refine q_icmp_s (p2 := 34) rfl (by decide) (by omega) (by omega) rfl (fun hb => absurd hb (show ¬ (10 < 7) by omega)) (fun _ => ?_)
  refine q_load (v := (6, 455, 0)) (p2 := 35) rfl rfl rfl rfl ?_
  refine q_load (v := (0, 7, 0)) (p2 := 36) rfl rfl rfl rfl ?_
  refine x_n_lt (fun hlt32 => ?_)
  have hm31 := (x_PS_at hm28 (fun j hj hne => by have hj2 := x_some_lt hlt29 hne; exact (frn30 j (by omega))))
  refine q_callvB (xs := [(0, 7, 0), (6, 455, 0)]) (p2 := 37) rfl rfl rfl rfl (x_rcv_s 455 (x_KS_455 hK30)) rfl (k_plain_7w hc67 hm31.1.choose_spec hK30 (by omega) (by omega) hm31.2.1 (x_PS_N hm31) (by omega) (by omega)) rfl (fun φ33 n33 sl33 hn33 hN33 hs33 hT33 hR33 => ?_)
  obtain ⟨v33, hK33, hV33, frn33⟩ := hR33
  rw [if_neg h2] at hV33
  refine x_n_lt (fun hlt34 => ?_)
  have hz35 := x_mv_lt hV33 hlt34
  have hy35 := hV33.1
  refine q_goto rfl ?_
  refine q_iinc (z := 4) (loc2 := [(6, 455, 0), (0, 60, 0), (6, 225, 0), (0, 4, 0), (0, 7, 0)]) (p2 := 49) rfl rfl (by decide) rfl rfl ?_
  refine q_goto rfl ?_
  refine q_load (v := (0, 4, 0)) (p2 := 20) rfl rfl rfl rfl ?_
  refine q_const (p2 := 21) rfl rfl ?_
  refine q_icmp_s (p2 := 22) rfl (by decide) (by omega) (by omega) rfl (fun hb => absurd hb (show ¬ (¬ (4 < 1000000)) by omega)) (fun _ => ?_)
  refine q_load (v := (6, 455, 0)) (p2 := 23) rfl rfl rfl rfl ?_
  refine q_getv (v := (0, 1, 0)) (p2 := 24) rfl (x_KS_455 hK33) (by decide) hK33.1.choose_spec.2.2.2.2.2.2.2.2.2.2.2.1 rfl ?_
  refine q_if0_s (p2 := 25) rfl (by decide) (by omega) rfl (fun hb => absurd hb (show ¬ (¬ (0 < 1)) by omega)) (fun _ => ?_)
  refine q_load (v := (6, 455, 0)) (p2 := 26) rfl rfl rfl rfl ?_
  refine q_getv (v := (0, 0, 0)) (p2 := 27) rfl (x_KS_455 hK33) (by decide) hK33.1.choose_spec.2.2.2.2.2.2.2.2.2.2.2.2.2.2.2.2.2.1 rfl ?_
  refine q_if0_s (p2 := 28) rfl (by decide) (by omega) rfl (fun hb => absurd hb (show ¬ (¬ (0 = 0)) by omega)) (fun _ => ?_)
  refine q_load (v := (6, 455, 0)) (p2 := 29) rfl rfl rfl rfl ?_
  have hm36 := (x_PS_at hm31 (fun j hj hne => by have hj2 := x_some_lt hlt32 hne; exact (frn33 j (by omega) (by omega))))
  refine q_callrE (xs := [(6, 455, 0)]) (p2 := 30) rfl rfl rfl rfl (x_rcv_s 455 (x_KS_455 hK33)) rfl (k_fetchw hc68 hm36.1.choose_spec hK33 (by omega)) (Nat.le_refl _) (Nat.le_refl _) rfl (fun φ37 hR37 => ?_)
  obtain ⟨hK37, frn37⟩ := hR37
  refine q_store (loc2 := [(6, 455, 0), (0, 60, 0), (6, 225, 0), (0, 4, 0), (0, 15, 0)]) (p2 := 31) rfl rfl rfl rfl rfl ?_
  refine q_load (v := (0, 15, 0)) (p2 := 32) rfl rfl rfl rfl ?_
  refine q_const (p2 := 33) rfl rfl ?_
  refine q_icmp_s (p2 := 34) rfl (by decide) (by omega) (by omega) rfl (fun _ => ?_) (fun hb => absurd (show 10 < 15 by omega) hb)
  refine q_load (v := (0, 15, 0)) (p2 := 39) rfl rfl rfl rfl ?_
  refine q_const (p2 := 40) rfl rfl ?_
  refine q_icmp_s (p2 := 41) rfl (by decide) (by omega) (by omega) rfl (fun hb => absurd hb (show ¬ (19 < 15) by omega)) (fun _ => ?_)
  refine q_load (v := (6, 455, 0)) (p2 := 42) rfl rfl rfl rfl ?_
  refine q_load (v := (0, 15, 0)) (p2 := 43) rfl rfl rfl rfl ?_
  refine x_n_lt (fun hlt39 => ?_)
  have hm38 := (x_PS_at hm36 (fun j hj hne => by have hj2 := x_some_lt hlt34 hne; exact (frn37 j (by omega))))
  have hv40 := x_mv_at hV33 (fun j hj hne => by have hj2 := x_some_lt hlt34 hne; exact (frn37 j (by omega)))
  have hv41 := x_mv_at hV20 (fun j hj hne => by have hj2 := x_some_lt hlt21 hne; exact ((frn37 j (by omega)).trans ((frn33 j (by omega) (by omega)).trans ((frn30 j (by omega)).trans ((frn27 j (by omega)).trans (frn24 j (by omega)))))))
  refine q_callvB (xs := [(0, 15, 0), (6, 455, 0)]) (p2 := 44) rfl rfl rfl rfl (x_rcv_s 455 (x_KS_455 hK37)) rfl (k_op_15_64 (top := 0) hm38.1.choose_spec hK37 (by omega) (by omega) (by omega) (x_row_at2 hL ((frn37 A (by omega)).trans ((frn33 A (by omega) (by omega)).trans ((frn30 A (by omega)).trans ((frn27 A (by omega)).trans ((frn24 A (by omega)).trans ((frn20 A (by omega) (by omega)).trans ((frn17 A (by omega)).trans ((frn14 A (by omega)).trans ((frn11 A (by omega)).trans ((frn8 A (by omega)).trans ((fr4 A (by omega)).trans ((fr3 A (by omega)).trans ((fr2 A (by omega)).trans (fr1 A (by omega)))))))))))))))) hv41 hv40 hc69 ⟨fun h => absurd h (by show ¬ (0 = 6); decide), by show (0 : Nat) ≠ 2; decide⟩ ⟨fun h => absurd h (by show ¬ (0 = 6); decide), by show (0 : Nat) ≠ 2; decide⟩ (Or.inl rfl) (Or.inl rfl) (by omega)) rfl (fun φ42 n42 sl42 hn42 hN42 hs42 hT42 hR42 => ?_)
  obtain ⟨v42, hK42, hV42, frn42⟩ := hR42
  rw [if_pos (Or.inl rfl)] at hV42
  refine x_n_lt (fun hlt43 => ?_)
  have hz44 := x_mv_lt hV42 hlt43
  have hy44 := hV42.1
  refine q_goto rfl ?_
  refine q_iinc (z := 5) (loc2 := [(6, 455, 0), (0, 60, 0), (6, 225, 0), (0, 5, 0), (0, 15, 0)]) (p2 := 49) rfl rfl (by decide) rfl rfl ?_
  refine q_goto rfl ?_
  refine q_load (v := (0, 5, 0)) (p2 := 20) rfl rfl rfl rfl ?_
  refine q_const (p2 := 21) rfl rfl ?_
  refine q_icmp_s (p2 := 22) rfl (by decide) (by omega) (by omega) rfl (fun hb => absurd hb (show ¬ (¬ (5 < 1000000)) by omega)) (fun _ => ?_)
  refine q_load (v := (6, 455, 0)) (p2 := 23) rfl rfl rfl rfl ?_
  refine q_getv (v := (0, 1, 0)) (p2 := 24) rfl (x_KS_455 hK42) (by decide) hK42.1.choose_spec.2.2.2.2.2.2.2.2.2.2.2.1 rfl ?_
  refine q_if0_s (p2 := 25) rfl (by decide) (by omega) rfl (fun hb => absurd hb (show ¬ (¬ (0 < 1)) by omega)) (fun _ => ?_)
  refine q_load (v := (6, 455, 0)) (p2 := 26) rfl rfl rfl rfl ?_
  refine q_getv (v := (0, 0, 0)) (p2 := 27) rfl (x_KS_455 hK42) (by decide) hK42.1.choose_spec.2.2.2.2.2.2.2.2.2.2.2.2.2.2.2.2.2.1 rfl ?_
  refine q_if0_s (p2 := 28) rfl (by decide) (by omega) rfl (fun hb => absurd hb (show ¬ (¬ (0 = 0)) by omega)) (fun _ => ?_)
  refine q_load (v := (6, 455, 0)) (p2 := 29) rfl rfl rfl rfl ?_
  have hm45 := (x_PS_at hm38 (fun j hj hne => by have hj2 := x_some_lt hlt39 hne; exact (frn42 j (by omega) (by omega))))
  refine q_callrE (xs := [(6, 455, 0)]) (p2 := 30) rfl rfl rfl rfl (x_rcv_s 455 (x_KS_455 hK42)) rfl (k_fetchw hc70 hm45.1.choose_spec hK42 (by omega)) (Nat.le_refl _) (Nat.le_refl _) rfl (fun φ46 hR46 => ?_)
  obtain ⟨hK46, frn46⟩ := hR46
  refine q_store (loc2 := [(6, 455, 0), (0, 60, 0), (6, 225, 0), (0, 5, 0), (0, 31, 0)]) (p2 := 31) rfl rfl rfl rfl rfl ?_
  refine q_load (v := (0, 31, 0)) (p2 := 32) rfl rfl rfl rfl ?_
  refine q_const (p2 := 33) rfl rfl ?_
  refine q_icmp_s (p2 := 34) rfl (by decide) (by omega) (by omega) rfl (fun _ => ?_) (fun hb => absurd (show 10 < 31 by omega) hb)
  refine q_load (v := (0, 31, 0)) (p2 := 39) rfl rfl rfl rfl ?_
  refine q_const (p2 := 40) rfl rfl ?_
  refine q_icmp_s (p2 := 41) rfl (by decide) (by omega) (by omega) rfl (fun _ => ?_) (fun hb => absurd (show 19 < 31 by omega) hb)
  refine q_load (v := (6, 455, 0)) (p2 := 46) rfl rfl rfl rfl ?_
  refine q_load (v := (0, 31, 0)) (p2 := 47) rfl rfl rfl rfl ?_
  refine x_n_lt (fun hlt48 => ?_)
  have hm47 := (x_PS_at hm45 (fun j hj hne => by have hj2 := x_some_lt hlt43 hne; exact (frn46 j (by omega))))
  have hv49 := x_mv_at hV42 (fun j hj hne => by have hj2 := x_some_lt hlt43 hne; exact (frn46 j (by omega)))
  refine q_callvB (xs := [(0, 31, 0), (6, 455, 0)]) (p2 := 48) rfl rfl rfl rfl (x_rcv_s 455 (x_KS_455 hK46)) rfl (k_lead_31 (top := 0) (fr := 0) hm47.1.choose_spec hK46 (by omega) (by omega) hv49 (Or.inl rfl) (by omega) (by show (0 : Nat) < 4096; decide)) rfl (fun φ50 n50 sl50 hn50 hN50 hs50 hT50 hR50 => ?_)
  obtain ⟨hK50, frn50⟩ := hR50
  refine q_iinc (z := 6) (loc2 := [(6, 455, 0), (0, 60, 0), (6, 225, 0), (0, 6, 0), (0, 31, 0)]) (p2 := 49) rfl rfl (by decide) rfl rfl ?_
  refine q_goto rfl ?_
  refine q_load (v := (0, 6, 0)) (p2 := 20) rfl rfl rfl rfl ?_
  refine q_const (p2 := 21) rfl rfl ?_
  refine q_icmp_s (p2 := 22) rfl (by decide) (by omega) (by omega) rfl (fun hb => absurd hb (show ¬ (¬ (6 < 1000000)) by omega)) (fun _ => ?_)
  refine q_load (v := (6, 455, 0)) (p2 := 23) rfl rfl rfl rfl ?_
  refine q_getv (v := (0, 0, 0)) (p2 := 24) rfl (x_KS_455 hK50) (by decide) hK50.1.choose_spec.2.2.2.2.2.2.2.2.2.2.2.1 rfl ?_
  refine q_if0_s (p2 := 25) rfl (by decide) (by omega) rfl (fun _ => ?_) (fun hb => absurd (show ¬ (0 < 0) by omega) hb)
  refine q_load (v := (6, 455, 0)) (p2 := 51) rfl rfl rfl rfl ?_
  refine q_getv (v := (0, 0, 0)) (p2 := 52) rfl (x_KS_455 hK50) (by decide) hK50.1.choose_spec.2.2.2.2.2.2.2.2.2.2.2.2.2.2.2.2.2.1 rfl ?_
  refine q_if0_s (p2 := 53) rfl (by decide) (by omega) rfl (fun _ => ?_) (fun hb => absurd (show 0 = 0 by omega) hb)
  refine q_load (v := (6, 455, 0)) (p2 := 57) rfl rfl rfl rfl ?_
  refine q_callrE (xs := [(6, 455, 0)]) (p2 := 58) rfl rfl rfl rfl (x_rcv_s 455 (x_KS_455 hK50)) rfl (k_pop (top := 0) hK50 (by omega)) (Nat.le_refl _) (Nat.le_refl _) rfl (fun φ51 hR51 => ?_)
  obtain ⟨hK51, frn51⟩ := hR51
  refine x_n_lt (fun hlt53 => ?_)
  have hv52 := x_mv_at hv49 (fun j hj hne => by have hj2 := x_some_lt hlt48 hne; exact ((frn51 j (by omega)).trans (frn50 j (by omega))))
  exact q_retv (v := (6, v42, 0)) rfl rfl (⟨rfl, ⟨by omega, by omega⟩, ⟨by omega, by omega⟩, v42, rfl, ⟨_, _, _, _, _, _, _, _, _, _, hK51⟩, hv52, fun j hj1 hj2 => ((frn51 j (by omega)).trans ((frn50 j (by omega)).trans ((frn46 j (by omega)).trans ((frn42 j (by omega) (by omega)).trans ((frn37 j (by omega)).trans ((frn33 j (by omega) (by omega)).trans ((frn30 j (by omega)).trans ((frn27 j (by omega)).trans ((frn24 j (by omega)).trans ((frn20 j (by omega) (by omega)).trans ((frn17 j (by omega)).trans ((frn14 j (by omega)).trans ((frn11 j (by omega)).trans ((frn8 j (by omega)).trans ((fr4 j (by omega)).trans ((fr3 j (by omega)).trans ((fr2 j (by omega)).trans (fr1 j (by omega)))))))))))))))))))⟩)
set_option maxHeartbeats 1000000 in
theorem zc_run_call_n {d n sl : Nat} {φ : FH} {A : Nat} {B : Nat} {made : Nat} {sv : Nat} {svm : Nat} {s9 : Nat} {comb : Nat → Nat} {hm : Nat → MV} {top : Nat} {fr : Nat} {pc_ : Nat} {mm : Nat} {mi : Nat} {st : Nat → Nat} {lo : Nat → Nat} {re : Nat → Nat} {rs : Nat → Nat} {fl : Nat → Nat} {se : Nat → Nat} {co : Nat → Nat} {w1 : Nat} (hPS : x_PS φ A B made sv svm s9 comb hm) (hKS : x_KS φ top fr pc_ mm mi st lo re rs fl se co) (hn0 : 486 ≤ n) (hmi : mi + 30 ≤ 20000) (hc60 : co 60 = 1) (hc61 : co 61 = 1) (hc62 : co 62 = 1) (hc63 : co 63 = 1) (hc64 : co 64 = 7) (hc65 : co 65 = w1) (hc66 : co 66 = 20) (hc67 : co 67 = 0) (hc68 : co 68 = 31) (hc30 : co 30 = 1) (hc31 : co 31 = 1) (hc32 : co 32 = 1) (hc33 : co 33 = 1) (hc34 : co 34 = 1) (hc35 : co 35 = 2) (hc36 : co 36 = 10) (hc37 : co 37 = 0) (hc38 : co 38 = 11) (hc39 : co 39 = 0) (hc40 : co 40 = 19) (hc41 : co 41 = 8) (hc42 : co 42 = 27) (hc43 : co 43 = 59) (hc44 : co 44 = 1) (hc45 : co 45 = 1) (hc46 : co 46 = 1) (hc47 : co 47 = 3) (hc48 : co 48 = 10) (hc49 : co 49 = 0) (hc50 : co 50 = 11) (hc51 : co 51 = 0) (hc52 : co 52 = 1) (hc53 : co 53 = 1) (hc54 : co 54 = 3) (hc55 : co 55 = 1) (hc56 : co 56 = 13) (hc57 : co 57 = 69) (hc58 : co 58 = 31) (hc59 : co 59 = 32) (hw1 : w1 < 512) (h1 : ¬ (w1 < made ∧ comb w1 ≠ 0)) : x_f x_P (d + 6) 56 [(6, 455, 0), (0, 60, 0), (6, 225, 0), (11, 0, 0), (11, 0, 0)] φ n sl (x_bR n sl 2 14 (fun zw φ2 => ∃ v, zw = (6, v, 0) ∧ x_KJ φ2 (mi + 6) co ∧ x_mv φ2 v (MV0) ∧ ∀ j, j < n → (j < 455 ∨ 466 ≤ j) → φ2 j = φ j)) := by
  refine x_f_of rfl ?_
  refine x_n_lt (fun hlt0 => ?_)
  refine q_load (v := (6, 455, 0)) (p2 := 1) rfl rfl rfl rfl ?_
  refine q_const (p2 := 2) rfl rfl ?_
  refine q_putfE (v := (0, 0, 0)) (p2 := 3) rfl (x_KS_455 hKS) (by decide) rfl rfl (fun φ1 f1 hh1 hg1 ho1 fr1 => ?_)
  have hs1 := x_KS_put_18 hKS hh1 hg1 ho1 fr1
  refine q_load (v := (6, 455, 0)) (p2 := 4) rfl rfl rfl rfl ?_
  refine q_const (p2 := 5) rfl rfl ?_
  refine q_putfE (v := (0, 0, 0)) (p2 := 6) rfl (x_KS_455 hs1) (by decide) rfl rfl (fun φ2 f2 hh2 hg2 ho2 fr2 => ?_)
  have hs2 := x_KS_put_16 hs1 hh2 hg2 ho2 fr2
  refine q_load (v := (6, 455, 0)) (p2 := 7) rfl rfl rfl rfl ?_
  refine q_const (p2 := 8) rfl rfl ?_
  refine q_putfE (v := (0, 0, 0)) (p2 := 9) rfl (x_KS_455 hs2) (by decide) rfl rfl (fun φ3 f3 hh3 hg3 ho3 fr3 => ?_)
  have hs3 := x_KS_put_4 hs2 hh3 hg3 ho3 fr3
  refine q_load (v := (6, 455, 0)) (p2 := 10) rfl rfl rfl rfl ?_
  refine q_const (p2 := 11) rfl rfl ?_
  refine q_putfE (v := (0, 0, 0)) (p2 := 12) rfl (x_KS_455 hs3) (by decide) rfl rfl (fun φ4 f4 hh4 hg4 ho4 fr4 => ?_)
  have hs4 := x_KS_put_10 hs3 hh4 hg4 ho4 fr4
  refine q_load (v := (6, 455, 0)) (p2 := 13) rfl rfl rfl rfl ?_
  refine q_load (v := (0, 60, 0)) (p2 := 14) rfl rfl rfl rfl ?_
  refine q_const (p2 := 15) rfl rfl ?_
  refine q_load (v := (6, 225, 0)) (p2 := 16) rfl rfl rfl rfl ?_
  refine x_n_lt (fun hlt6 => ?_)
  have hm5 := (x_PS_at hPS (fun j hj hne => by have hj2 := x_some_lt hlt0 hne; exact ((fr4 j (by omega)).trans ((fr3 j (by omega)).trans ((fr2 j (by omega)).trans (fr1 j (by omega)))))))
  have hv7 := x_mv_at (x_PS_N hPS) (fun j hj hne => by have hj2 := x_some_lt hlt0 hne; exact ((fr4 j (by omega)).trans ((fr3 j (by omega)).trans ((fr2 j (by omega)).trans (fr1 j (by omega))))))
  refine q_callvE (xs := [(6, 225, 0), (0, 4294967293, 0), (0, 60, 0), (6, 455, 0)]) (p2 := 17) rfl rfl rfl rfl (x_rcv_s 455 (x_KS_455 hs4)) rfl (k_open hs4 (x_PS_N hm5) hv7 (by omega)) (Nat.le_refl _) (Nat.le_refl _) rfl (fun φ8 hR8 => ?_)
  obtain ⟨hK8, frn8⟩ := hR8
  refine q_const (p2 := 18) rfl rfl ?_
  refine q_store (loc2 := [(6, 455, 0), (0, 60, 0), (6, 225, 0), (0, 0, 0), (11, 0, 0)]) (p2 := 19) rfl rfl rfl rfl rfl ?_
  refine q_load (v := (0, 0, 0)) (p2 := 20) rfl rfl rfl rfl ?_
  refine q_const (p2 := 21) rfl rfl ?_
  refine q_icmp_s (p2 := 22) rfl (by decide) (by omega) (by omega) rfl (fun hb => absurd hb (show ¬ (¬ (0 < 1000000)) by omega)) (fun _ => ?_)
  refine q_load (v := (6, 455, 0)) (p2 := 23) rfl rfl rfl rfl ?_
  refine q_getv (v := (0, 1, 0)) (p2 := 24) rfl (x_KS_455 hK8) (by decide) hK8.1.choose_spec.2.2.2.2.2.2.2.2.2.2.2.1 rfl ?_
  refine q_if0_s (p2 := 25) rfl (by decide) (by omega) rfl (fun hb => absurd hb (show ¬ (¬ (0 < 1)) by omega)) (fun _ => ?_)
  refine q_load (v := (6, 455, 0)) (p2 := 26) rfl rfl rfl rfl ?_
  refine q_getv (v := (0, 0, 0)) (p2 := 27) rfl (x_KS_455 hK8) (by decide) hK8.1.choose_spec.2.2.2.2.2.2.2.2.2.2.2.2.2.2.2.2.2.1 rfl ?_
  refine q_if0_s (p2 := 28) rfl (by decide) (by omega) rfl (fun hb => absurd hb (show ¬ (¬ (0 = 0)) by omega)) (fun _ => ?_)
  refine q_load (v := (6, 455, 0)) (p2 := 29) rfl rfl rfl rfl ?_
  refine x_n_lt (fun hlt10 => ?_)
  have hm9 := (x_PS_at hm5 (fun j hj hne => by have hj2 := x_some_lt hlt6 hne; exact (frn8 j (by omega))))
  refine q_callrE (xs := [(6, 455, 0)]) (p2 := 30) rfl rfl rfl rfl (x_rcv_s 455 (x_KS_455 hK8)) rfl (k_fetchw hc60 hm9.1.choose_spec hK8 (by omega)) (Nat.le_refl _) (Nat.le_refl _) rfl (fun φ11 hR11 => ?_)
  obtain ⟨hK11, frn11⟩ := hR11
  refine q_store (loc2 := [(6, 455, 0), (0, 60, 0), (6, 225, 0), (0, 0, 0), (0, 1, 0)]) (p2 := 31) rfl rfl rfl rfl rfl ?_
  refine q_load (v := (0, 1, 0)) (p2 := 32) rfl rfl rfl rfl ?_
  refine q_const (p2 := 33) rfl rfl ?_
  refine q_icmp_s (p2 := 34) rfl (by decide) (by omega) (by omega) rfl (fun hb => absurd hb (show ¬ (10 < 1) by omega)) (fun _ => ?_)
  refine q_load (v := (6, 455, 0)) (p2 := 35) rfl rfl rfl rfl ?_
  refine q_load (v := (0, 1, 0)) (p2 := 36) rfl rfl rfl rfl ?_
  refine x_n_lt (fun hlt13 => ?_)
  have hm12 := (x_PS_at hm9 (fun j hj hne => by have hj2 := x_some_lt hlt10 hne; exact (frn11 j (by omega))))
  refine q_callvB (xs := [(0, 1, 0), (6, 455, 0)]) (p2 := 37) rfl rfl rfl rfl (x_rcv_s 455 (x_KS_455 hK11)) rfl (k_plain_1w hc61 hm12.1.choose_spec hK11 (by omega) (by omega) (by omega) (by omega)) rfl (fun φ14 n14 sl14 hn14 hN14 hs14 hT14 hR14 => ?_)
  obtain ⟨hK14, frn14⟩ := hR14
  refine q_goto rfl ?_
  refine q_iinc (z := 1) (loc2 := [(6, 455, 0), (0, 60, 0), (6, 225, 0), (0, 1, 0), (0, 1, 0)]) (p2 := 49) rfl rfl (by decide) rfl rfl ?_
  refine q_goto rfl ?_
  refine q_load (v := (0, 1, 0)) (p2 := 20) rfl rfl rfl rfl ?_
  refine q_const (p2 := 21) rfl rfl ?_
  refine q_icmp_s (p2 := 22) rfl (by decide) (by omega) (by omega) rfl (fun hb => absurd hb (show ¬ (¬ (1 < 1000000)) by omega)) (fun _ => ?_)
  refine q_load (v := (6, 455, 0)) (p2 := 23) rfl rfl rfl rfl ?_
  refine q_getv (v := (0, 1, 0)) (p2 := 24) rfl (x_KS_455 hK14) (by decide) hK14.1.choose_spec.2.2.2.2.2.2.2.2.2.2.2.1 rfl ?_
  refine q_if0_s (p2 := 25) rfl (by decide) (by omega) rfl (fun hb => absurd hb (show ¬ (¬ (0 < 1)) by omega)) (fun _ => ?_)
  refine q_load (v := (6, 455, 0)) (p2 := 26) rfl rfl rfl rfl ?_
  refine q_getv (v := (0, 0, 0)) (p2 := 27) rfl (x_KS_455 hK14) (by decide) hK14.1.choose_spec.2.2.2.2.2.2.2.2.2.2.2.2.2.2.2.2.2.1 rfl ?_
  refine q_if0_s (p2 := 28) rfl (by decide) (by omega) rfl (fun hb => absurd hb (show ¬ (¬ (0 = 0)) by omega)) (fun _ => ?_)
  refine q_load (v := (6, 455, 0)) (p2 := 29) rfl rfl rfl rfl ?_
  refine x_n_lt (fun hlt16 => ?_)
  have hm15 := (x_PS_at hm12 (fun j hj hne => by have hj2 := x_some_lt hlt13 hne; exact (frn14 j (by omega))))
  refine q_callrE (xs := [(6, 455, 0)]) (p2 := 30) rfl rfl rfl rfl (x_rcv_s 455 (x_KS_455 hK14)) rfl (k_fetchw hc62 hm15.1.choose_spec hK14 (by omega)) (Nat.le_refl _) (Nat.le_refl _) rfl (fun φ17 hR17 => ?_)
  obtain ⟨hK17, frn17⟩ := hR17
  refine q_store (loc2 := [(6, 455, 0), (0, 60, 0), (6, 225, 0), (0, 1, 0), (0, 1, 0)]) (p2 := 31) rfl rfl rfl rfl rfl ?_
  refine q_load (v := (0, 1, 0)) (p2 := 32) rfl rfl rfl rfl ?_
  refine q_const (p2 := 33) rfl rfl ?_
  refine q_icmp_s (p2 := 34) rfl (by decide) (by omega) (by omega) rfl (fun hb => absurd hb (show ¬ (10 < 1) by omega)) (fun _ => ?_)
  refine q_load (v := (6, 455, 0)) (p2 := 35) rfl rfl rfl rfl ?_
  refine q_load (v := (0, 1, 0)) (p2 := 36) rfl rfl rfl rfl ?_
  refine x_n_lt (fun hlt19 => ?_)
  have hm18 := (x_PS_at hm15 (fun j hj hne => by have hj2 := x_some_lt hlt16 hne; exact (frn17 j (by omega))))
  refine q_callvB (xs := [(0, 1, 0), (6, 455, 0)]) (p2 := 37) rfl rfl rfl rfl (x_rcv_s 455 (x_KS_455 hK17)) rfl (k_plain_1w hc63 hm18.1.choose_spec hK17 (by omega) (by omega) (by omega) (by omega)) rfl (fun φ20 n20 sl20 hn20 hN20 hs20 hT20 hR20 => ?_)
  obtain ⟨hK20, frn20⟩ := hR20
  refine q_goto rfl ?_
  refine q_iinc (z := 2) (loc2 := [(6, 455, 0), (0, 60, 0), (6, 225, 0), (0, 2, 0), (0, 1, 0)]) (p2 := 49) rfl rfl (by decide) rfl rfl ?_
  refine q_goto rfl ?_
  refine q_load (v := (0, 2, 0)) (p2 := 20) rfl rfl rfl rfl ?_
  refine q_const (p2 := 21) rfl rfl ?_
  refine q_icmp_s (p2 := 22) rfl (by decide) (by omega) (by omega) rfl (fun hb => absurd hb (show ¬ (¬ (2 < 1000000)) by omega)) (fun _ => ?_)
  refine q_load (v := (6, 455, 0)) (p2 := 23) rfl rfl rfl rfl ?_
  refine q_getv (v := (0, 1, 0)) (p2 := 24) rfl (x_KS_455 hK20) (by decide) hK20.1.choose_spec.2.2.2.2.2.2.2.2.2.2.2.1 rfl ?_
  refine q_if0_s (p2 := 25) rfl (by decide) (by omega) rfl (fun hb => absurd hb (show ¬ (¬ (0 < 1)) by omega)) (fun _ => ?_)
  refine q_load (v := (6, 455, 0)) (p2 := 26) rfl rfl rfl rfl ?_
  refine q_getv (v := (0, 0, 0)) (p2 := 27) rfl (x_KS_455 hK20) (by decide) hK20.1.choose_spec.2.2.2.2.2.2.2.2.2.2.2.2.2.2.2.2.2.1 rfl ?_
  refine q_if0_s (p2 := 28) rfl (by decide) (by omega) rfl (fun hb => absurd hb (show ¬ (¬ (0 = 0)) by omega)) (fun _ => ?_)
  refine q_load (v := (6, 455, 0)) (p2 := 29) rfl rfl rfl rfl ?_
  refine x_n_lt (fun hlt22 => ?_)
  have hm21 := (x_PS_at hm18 (fun j hj hne => by have hj2 := x_some_lt hlt19 hne; exact (frn20 j (by omega))))
  refine q_callrE (xs := [(6, 455, 0)]) (p2 := 30) rfl rfl rfl rfl (x_rcv_s 455 (x_KS_455 hK20)) rfl (k_fetchw hc64 hm21.1.choose_spec hK20 (by omega)) (Nat.le_refl _) (Nat.le_refl _) rfl (fun φ23 hR23 => ?_)
  obtain ⟨hK23, frn23⟩ := hR23
  refine q_store (loc2 := [(6, 455, 0), (0, 60, 0), (6, 225, 0), (0, 2, 0), (0, 7, 0)]) (p2 := 31) rfl rfl rfl rfl rfl ?_
  refine q_load (v := (0, 7, 0)) (p2 := 32) rfl rfl rfl rfl ?_
  refine q_const (p2 := 33) rfl rfl ?_
  refine q_icmp_s (p2 := 34) rfl (by decide) (by omega) (by omega) rfl (fun hb => absurd hb (show ¬ (10 < 7) by omega)) (fun _ => ?_)
  refine q_load (v := (6, 455, 0)) (p2 := 35) rfl rfl rfl rfl ?_
  refine q_load (v := (0, 7, 0)) (p2 := 36) rfl rfl rfl rfl ?_
  refine x_n_lt (fun hlt25 => ?_)
  have hm24 := (x_PS_at hm21 (fun j hj hne => by have hj2 := x_some_lt hlt22 hne; exact (frn23 j (by omega))))
  refine q_callvB (xs := [(0, 7, 0), (6, 455, 0)]) (p2 := 37) rfl rfl rfl rfl (x_rcv_s 455 (x_KS_455 hK23)) rfl (k_plain_7w hc65 hm24.1.choose_spec hK23 (by omega) (by omega) hm24.2.1 (x_PS_N hm24) (by omega) (by omega)) rfl (fun φ26 n26 sl26 hn26 hN26 hs26 hT26 hR26 => ?_)
  obtain ⟨v26, hK26, hV26, frn26⟩ := hR26
  rw [if_neg h1] at hV26
  refine x_n_lt (fun hlt27 => ?_)
  have hz28 := x_mv_lt hV26 hlt27
  have hy28 := hV26.1
  refine q_goto rfl ?_
  refine q_iinc (z := 3) (loc2 := [(6, 455, 0), (0, 60, 0), (6, 225, 0), (0, 3, 0), (0, 7, 0)]) (p2 := 49) rfl rfl (by decide) rfl rfl ?_
  refine q_goto rfl ?_
  refine q_load (v := (0, 3, 0)) (p2 := 20) rfl rfl rfl rfl ?_
  refine q_const (p2 := 21) rfl rfl ?_
  refine q_icmp_s (p2 := 22) rfl (by decide) (by omega) (by omega) rfl (fun hb => absurd hb (show ¬ (¬ (3 < 1000000)) by omega)) (fun _ => ?_)
  refine q_load (v := (6, 455, 0)) (p2 := 23) rfl rfl rfl rfl ?_
  refine q_getv (v := (0, 1, 0)) (p2 := 24) rfl (x_KS_455 hK26) (by decide) hK26.1.choose_spec.2.2.2.2.2.2.2.2.2.2.2.1 rfl ?_
  refine q_if0_s (p2 := 25) rfl (by decide) (by omega) rfl (fun hb => absurd hb (show ¬ (¬ (0 < 1)) by omega)) (fun _ => ?_)
  refine q_load (v := (6, 455, 0)) (p2 := 26) rfl rfl rfl rfl ?_
  refine q_getv (v := (0, 0, 0)) (p2 := 27) rfl (x_KS_455 hK26) (by decide) hK26.1.choose_spec.2.2.2.2.2.2.2.2.2.2.2.2.2.2.2.2.2.1 rfl ?_
  refine q_if0_s (p2 := 28) rfl (by decide) (by omega) rfl (fun hb => absurd hb (show ¬ (¬ (0 = 0)) by omega)) (fun _ => ?_)
  refine q_load (v := (6, 455, 0)) (p2 := 29) rfl rfl rfl rfl ?_
  have hm29 := (x_PS_at hm24 (fun j hj hne => by have hj2 := x_some_lt hlt25 hne; exact (frn26 j (by omega) (by omega))))
  refine q_callrE (xs := [(6, 455, 0)]) (p2 := 30) rfl rfl rfl rfl (x_rcv_s 455 (x_KS_455 hK26)) rfl (k_fetchw hc66 hm29.1.choose_spec hK26 (by omega)) (Nat.le_refl _) (Nat.le_refl _) rfl (fun φ30 hR30 => ?_)
  obtain ⟨hK30, frn30⟩ := hR30
  refine q_store (loc2 := [(6, 455, 0), (0, 60, 0), (6, 225, 0), (0, 3, 0), (0, 20, 0)]) (p2 := 31) rfl rfl rfl rfl rfl ?_
  refine q_load (v := (0, 20, 0)) (p2 := 32) rfl rfl rfl rfl ?_
  refine q_const (p2 := 33) rfl rfl ?_
  refine q_icmp_s (p2 := 34) rfl (by decide) (by omega) (by omega) rfl (fun _ => ?_) (fun hb => absurd (show 10 < 20 by omega) hb)
  refine q_load (v := (0, 20, 0)) (p2 := 39) rfl rfl rfl rfl ?_
  refine q_const (p2 := 40) rfl rfl ?_
  refine q_icmp_s (p2 := 41) rfl (by decide) (by omega) (by omega) rfl (fun _ => ?_) (fun hb => absurd (show 19 < 20 by omega) hb)
  refine q_load (v := (6, 455, 0)) (p2 := 46) rfl rfl rfl rfl ?_
  refine q_load (v := (0, 20, 0)) (p2 := 47) rfl rfl rfl rfl ?_
  refine x_n_lt (fun hlt32 => ?_)
  have hv31 := x_mv_at hV26 (fun j hj hne => by have hj2 := x_some_lt hlt27 hne; exact (frn30 j (by omega)))
  have hm33 := (x_PS_at hm29 (fun j hj hne => by have hj2 := x_some_lt hlt27 hne; exact (frn30 j (by omega))))
  refine q_callvE (xs := [(0, 20, 0), (6, 455, 0)]) (p2 := 48) rfl rfl rfl rfl (x_rcv_s 455 (x_KS_455 hK30)) rfl (zc_klead20_0 hm33 hK30 (by omega) hv31 hc67 (x_s_eq) (by omega)) (Nat.le_refl _) (Nat.le_refl _) rfl (fun φ34 hR34 => ?_)
  obtain ⟨hK34, frn34⟩ := hR34
  refine q_iinc (z := 4) (loc2 := [(6, 455, 0), (0, 60, 0), (6, 225, 0), (0, 4, 0), (0, 20, 0)]) (p2 := 49) rfl rfl (by decide) rfl rfl ?_
  refine q_goto rfl ?_
  refine q_load (v := (0, 4, 0)) (p2 := 20) rfl rfl rfl rfl ?_
  refine q_const (p2 := 21) rfl rfl ?_
  refine q_icmp_s (p2 := 22) rfl (by decide) (by omega) (by omega) rfl (fun hb => absurd hb (show ¬ (¬ (4 < 1000000)) by omega)) (fun _ => ?_)
  refine q_load (v := (6, 455, 0)) (p2 := 23) rfl rfl rfl rfl ?_
  refine q_getv (v := (0, 2, 0)) (p2 := 24) rfl (x_KS_455 hK34) (by decide) hK34.1.choose_spec.2.2.2.2.2.2.2.2.2.2.2.1 rfl ?_
  refine q_if0_s (p2 := 25) rfl (by decide) (by omega) rfl (fun hb => absurd hb (show ¬ (¬ (0 < 2)) by omega)) (fun _ => ?_)
  refine q_load (v := (6, 455, 0)) (p2 := 26) rfl rfl rfl rfl ?_
  refine q_getv (v := (0, 0, 0)) (p2 := 27) rfl (x_KS_455 hK34) (by decide) hK34.1.choose_spec.2.2.2.2.2.2.2.2.2.2.2.2.2.2.2.2.2.1 rfl ?_
  refine q_if0_s (p2 := 28) rfl (by decide) (by omega) rfl (fun hb => absurd hb (show ¬ (¬ (0 = 0)) by omega)) (fun _ => ?_)
  refine q_load (v := (6, 455, 0)) (p2 := 29) rfl rfl rfl rfl ?_
  refine x_n_lt (fun hlt36 => ?_)
  have hm35 := (x_PS_at hm33 (fun j hj hne => by have hj2 := x_some_lt hlt32 hne; exact (frn34 j (by omega))))
  refine q_callrE (xs := [(6, 455, 0)]) (p2 := 30) rfl rfl rfl rfl (x_rcv_s 455 (x_KS_455 hK34)) rfl (k_fetchw hc30 hm35.1.choose_spec hK34 (by omega)) (Nat.le_refl _) (Nat.le_refl _) rfl (fun φ37 hR37 => ?_)
  obtain ⟨hK37, frn37⟩ := hR37
  refine q_store (loc2 := [(6, 455, 0), (0, 60, 0), (6, 225, 0), (0, 4, 0), (0, 1, 0)]) (p2 := 31) rfl rfl rfl rfl rfl ?_
  refine q_load (v := (0, 1, 0)) (p2 := 32) rfl rfl rfl rfl ?_
  refine q_const (p2 := 33) rfl rfl ?_
  refine q_icmp_s (p2 := 34) rfl (by decide) (by omega) (by omega) rfl (fun hb => absurd hb (show ¬ (10 < 1) by omega)) (fun _ => ?_)
  refine q_load (v := (6, 455, 0)) (p2 := 35) rfl rfl rfl rfl ?_
  refine q_load (v := (0, 1, 0)) (p2 := 36) rfl rfl rfl rfl ?_
  refine x_n_lt (fun hlt39 => ?_)
  have hm38 := (x_PS_at hm35 (fun j hj hne => by have hj2 := x_some_lt hlt36 hne; exact (frn37 j (by omega))))
  refine q_callvB (xs := [(0, 1, 0), (6, 455, 0)]) (p2 := 37) rfl rfl rfl rfl (x_rcv_s 455 (x_KS_455 hK37)) rfl (k_plain_1w hc31 hm38.1.choose_spec hK37 (by omega) (by omega) (by omega) (by omega)) rfl (fun φ40 n40 sl40 hn40 hN40 hs40 hT40 hR40 => ?_)
  obtain ⟨hK40, frn40⟩ := hR40
  refine q_goto rfl ?_
  refine q_iinc (z := 5) (loc2 := [(6, 455, 0), (0, 60, 0), (6, 225, 0), (0, 5, 0), (0, 1, 0)]) (p2 := 49) rfl rfl (by decide) rfl rfl ?_
  refine q_goto rfl ?_
  refine q_load (v := (0, 5, 0)) (p2 := 20) rfl rfl rfl rfl ?_
  refine q_const (p2 := 21) rfl rfl ?_
  refine q_icmp_s (p2 := 22) rfl (by decide) (by omega) (by omega) rfl (fun hb => absurd hb (show ¬ (¬ (5 < 1000000)) by omega)) (fun _ => ?_)
  refine q_load (v := (6, 455, 0)) (p2 := 23) rfl rfl rfl rfl ?_
  refine q_getv (v := (0, 2, 0)) (p2 := 24) rfl (x_KS_455 hK40) (by decide) hK40.1.choose_spec.2.2.2.2.2.2.2.2.2.2.2.1 rfl ?_
  refine q_if0_s (p2 := 25) rfl (by decide) (by omega) rfl (fun hb => absurd hb (show ¬ (¬ (0 < 2)) by omega)) (fun _ => ?_)
  refine q_load (v := (6, 455, 0)) (p2 := 26) rfl rfl rfl rfl ?_
  refine q_getv (v := (0, 0, 0)) (p2 := 27) rfl (x_KS_455 hK40) (by decide) hK40.1.choose_spec.2.2.2.2.2.2.2.2.2.2.2.2.2.2.2.2.2.1 rfl ?_
  refine q_if0_s (p2 := 28) rfl (by decide) (by omega) rfl (fun hb => absurd hb (show ¬ (¬ (0 = 0)) by omega)) (fun _ => ?_)
  refine q_load (v := (6, 455, 0)) (p2 := 29) rfl rfl rfl rfl ?_
  refine x_n_lt (fun hlt42 => ?_)
  have hm41 := (x_PS_at hm38 (fun j hj hne => by have hj2 := x_some_lt hlt39 hne; exact (frn40 j (by omega))))
  refine q_callrE (xs := [(6, 455, 0)]) (p2 := 30) rfl rfl rfl rfl (x_rcv_s 455 (x_KS_455 hK40)) rfl (k_fetchw hc32 hm41.1.choose_spec hK40 (by omega)) (Nat.le_refl _) (Nat.le_refl _) rfl (fun φ43 hR43 => ?_)
  obtain ⟨hK43, frn43⟩ := hR43
  refine q_store (loc2 := [(6, 455, 0), (0, 60, 0), (6, 225, 0), (0, 5, 0), (0, 1, 0)]) (p2 := 31) rfl rfl rfl rfl rfl ?_
  refine q_load (v := (0, 1, 0)) (p2 := 32) rfl rfl rfl rfl ?_
  refine q_const (p2 := 33) rfl rfl ?_
  refine q_icmp_s (p2 := 34) rfl (by decide) (by omega) (by omega) rfl (fun hb => absurd hb (show ¬ (10 < 1) by omega)) (fun _ => ?_)
  refine q_load (v := (6, 455, 0)) (p2 := 35) rfl rfl rfl rfl ?_
  refine q_load (v := (0, 1, 0)) (p2 := 36) rfl rfl rfl rfl ?_
  refine x_n_lt (fun hlt45 => ?_)
  have hm44 := (x_PS_at hm41 (fun j hj hne => by have hj2 := x_some_lt hlt42 hne; exact (frn43 j (by omega))))
  refine q_callvB (xs := [(0, 1, 0), (6, 455, 0)]) (p2 := 37) rfl rfl rfl rfl (x_rcv_s 455 (x_KS_455 hK43)) rfl (k_plain_1w hc33 hm44.1.choose_spec hK43 (by omega) (by omega) (by omega) (by omega)) rfl (fun φ46 n46 sl46 hn46 hN46 hs46 hT46 hR46 => ?_)
  obtain ⟨hK46, frn46⟩ := hR46
  refine q_goto rfl ?_
  refine q_iinc (z := 6) (loc2 := [(6, 455, 0), (0, 60, 0), (6, 225, 0), (0, 6, 0), (0, 1, 0)]) (p2 := 49) rfl rfl (by decide) rfl rfl ?_
  refine q_goto rfl ?_
  refine q_load (v := (0, 6, 0)) (p2 := 20) rfl rfl rfl rfl ?_
  refine q_const (p2 := 21) rfl rfl ?_
  refine q_icmp_s (p2 := 22) rfl (by decide) (by omega) (by omega) rfl (fun hb => absurd hb (show ¬ (¬ (6 < 1000000)) by omega)) (fun _ => ?_)
  refine q_load (v := (6, 455, 0)) (p2 := 23) rfl rfl rfl rfl ?_
  refine q_getv (v := (0, 2, 0)) (p2 := 24) rfl (x_KS_455 hK46) (by decide) hK46.1.choose_spec.2.2.2.2.2.2.2.2.2.2.2.1 rfl ?_
  refine q_if0_s (p2 := 25) rfl (by decide) (by omega) rfl (fun hb => absurd hb (show ¬ (¬ (0 < 2)) by omega)) (fun _ => ?_)
  refine q_load (v := (6, 455, 0)) (p2 := 26) rfl rfl rfl rfl ?_
  refine q_getv (v := (0, 0, 0)) (p2 := 27) rfl (x_KS_455 hK46) (by decide) hK46.1.choose_spec.2.2.2.2.2.2.2.2.2.2.2.2.2.2.2.2.2.1 rfl ?_
  refine q_if0_s (p2 := 28) rfl (by decide) (by omega) rfl (fun hb => absurd hb (show ¬ (¬ (0 = 0)) by omega)) (fun _ => ?_)
  refine q_load (v := (6, 455, 0)) (p2 := 29) rfl rfl rfl rfl ?_
  refine x_n_lt (fun hlt48 => ?_)
  have hm47 := (x_PS_at hm44 (fun j hj hne => by have hj2 := x_some_lt hlt45 hne; exact (frn46 j (by omega))))
  refine q_callrE (xs := [(6, 455, 0)]) (p2 := 30) rfl rfl rfl rfl (x_rcv_s 455 (x_KS_455 hK46)) rfl (k_fetchw hc34 hm47.1.choose_spec hK46 (by omega)) (Nat.le_refl _) (Nat.le_refl _) rfl (fun φ49 hR49 => ?_)
  obtain ⟨hK49, frn49⟩ := hR49
  refine q_store (loc2 := [(6, 455, 0), (0, 60, 0), (6, 225, 0), (0, 6, 0), (0, 1, 0)]) (p2 := 31) rfl rfl rfl rfl rfl ?_
  refine q_load (v := (0, 1, 0)) (p2 := 32) rfl rfl rfl rfl ?_
  refine q_const (p2 := 33) rfl rfl ?_
  refine q_icmp_s (p2 := 34) rfl (by decide) (by omega) (by omega) rfl (fun hb => absurd hb (show ¬ (10 < 1) by omega)) (fun _ => ?_)
  refine q_load (v := (6, 455, 0)) (p2 := 35) rfl rfl rfl rfl ?_
  refine q_load (v := (0, 1, 0)) (p2 := 36) rfl rfl rfl rfl ?_
  refine x_n_lt (fun hlt51 => ?_)
  have hm50 := (x_PS_at hm47 (fun j hj hne => by have hj2 := x_some_lt hlt48 hne; exact (frn49 j (by omega))))
  refine q_callvB (xs := [(0, 1, 0), (6, 455, 0)]) (p2 := 37) rfl rfl rfl rfl (x_rcv_s 455 (x_KS_455 hK49)) rfl (k_plain_1w hc35 hm50.1.choose_spec hK49 (by omega) (by omega) (by omega) (by omega)) rfl (fun φ52 n52 sl52 hn52 hN52 hs52 hT52 hR52 => ?_)
  obtain ⟨hK52, frn52⟩ := hR52
  refine q_goto rfl ?_
  refine q_iinc (z := 7) (loc2 := [(6, 455, 0), (0, 60, 0), (6, 225, 0), (0, 7, 0), (0, 1, 0)]) (p2 := 49) rfl rfl (by decide) rfl rfl ?_
  refine q_goto rfl ?_
  refine q_load (v := (0, 7, 0)) (p2 := 20) rfl rfl rfl rfl ?_
  refine q_const (p2 := 21) rfl rfl ?_
  refine q_icmp_s (p2 := 22) rfl (by decide) (by omega) (by omega) rfl (fun hb => absurd hb (show ¬ (¬ (7 < 1000000)) by omega)) (fun _ => ?_)
  refine q_load (v := (6, 455, 0)) (p2 := 23) rfl rfl rfl rfl ?_
  refine q_getv (v := (0, 2, 0)) (p2 := 24) rfl (x_KS_455 hK52) (by decide) hK52.1.choose_spec.2.2.2.2.2.2.2.2.2.2.2.1 rfl ?_
  refine q_if0_s (p2 := 25) rfl (by decide) (by omega) rfl (fun hb => absurd hb (show ¬ (¬ (0 < 2)) by omega)) (fun _ => ?_)
  refine q_load (v := (6, 455, 0)) (p2 := 26) rfl rfl rfl rfl ?_
  refine q_getv (v := (0, 0, 0)) (p2 := 27) rfl (x_KS_455 hK52) (by decide) hK52.1.choose_spec.2.2.2.2.2.2.2.2.2.2.2.2.2.2.2.2.2.1 rfl ?_
  refine q_if0_s (p2 := 28) rfl (by decide) (by omega) rfl (fun hb => absurd hb (show ¬ (¬ (0 = 0)) by omega)) (fun _ => ?_)
  refine q_load (v := (6, 455, 0)) (p2 := 29) rfl rfl rfl rfl ?_
  refine x_n_lt (fun hlt54 => ?_)
  have hm53 := (x_PS_at hm50 (fun j hj hne => by have hj2 := x_some_lt hlt51 hne; exact (frn52 j (by omega))))
  refine q_callrE (xs := [(6, 455, 0)]) (p2 := 30) rfl rfl rfl rfl (x_rcv_s 455 (x_KS_455 hK52)) rfl (k_fetchw hc36 hm53.1.choose_spec hK52 (by omega)) (Nat.le_refl _) (Nat.le_refl _) rfl (fun φ55 hR55 => ?_)
  obtain ⟨hK55, frn55⟩ := hR55
  refine q_store (loc2 := [(6, 455, 0), (0, 60, 0), (6, 225, 0), (0, 7, 0), (0, 10, 0)]) (p2 := 31) rfl rfl rfl rfl rfl ?_
  refine q_load (v := (0, 10, 0)) (p2 := 32) rfl rfl rfl rfl ?_
  refine q_const (p2 := 33) rfl rfl ?_
  refine q_icmp_s (p2 := 34) rfl (by decide) (by omega) (by omega) rfl (fun hb => absurd hb (show ¬ (10 < 10) by omega)) (fun _ => ?_)
  refine q_load (v := (6, 455, 0)) (p2 := 35) rfl rfl rfl rfl ?_
  refine q_load (v := (0, 10, 0)) (p2 := 36) rfl rfl rfl rfl ?_
  refine x_n_lt (fun hlt57 => ?_)
  have hm56 := (x_PS_at hm53 (fun j hj hne => by have hj2 := x_some_lt hlt54 hne; exact (frn55 j (by omega))))
  have hv58 := x_mv_at hv31 (fun j hj hne => by have hj2 := x_some_lt hlt32 hne; exact ((frn55 j (by omega)).trans ((frn52 j (by omega)).trans ((frn49 j (by omega)).trans ((frn46 j (by omega)).trans ((frn43 j (by omega)).trans ((frn40 j (by omega)).trans ((frn37 j (by omega)).trans (frn34 j (by omega))))))))))
  refine q_callvB (xs := [(0, 10, 0), (6, 455, 0)]) (p2 := 37) rfl rfl rfl rfl (x_rcv_s 455 (x_KS_455 hK55)) rfl (k_plain_10w (fr := 1) hc37 hm56.1.choose_spec hK55 (by omega) (by omega) hv58 (by omega) (by omega)) rfl (fun φ59 n59 sl59 hn59 hN59 hs59 hT59 hR59 => ?_)
  obtain ⟨hK59, frn59⟩ := hR59
  refine q_goto rfl ?_
  refine q_iinc (z := 8) (loc2 := [(6, 455, 0), (0, 60, 0), (6, 225, 0), (0, 8, 0), (0, 10, 0)]) (p2 := 49) rfl rfl (by decide) rfl rfl ?_
  refine q_goto rfl ?_
  refine q_load (v := (0, 8, 0)) (p2 := 20) rfl rfl rfl rfl ?_
  refine q_const (p2 := 21) rfl rfl ?_
  refine q_icmp_s (p2 := 22) rfl (by decide) (by omega) (by omega) rfl (fun hb => absurd hb (show ¬ (¬ (8 < 1000000)) by omega)) (fun _ => ?_)
  refine q_load (v := (6, 455, 0)) (p2 := 23) rfl rfl rfl rfl ?_
  refine q_getv (v := (0, 2, 0)) (p2 := 24) rfl (x_KS_455 hK59) (by decide) hK59.1.choose_spec.2.2.2.2.2.2.2.2.2.2.2.1 rfl ?_
  refine q_if0_s (p2 := 25) rfl (by decide) (by omega) rfl (fun hb => absurd hb (show ¬ (¬ (0 < 2)) by omega)) (fun _ => ?_)
  refine q_load (v := (6, 455, 0)) (p2 := 26) rfl rfl rfl rfl ?_
  refine q_getv (v := (0, 0, 0)) (p2 := 27) rfl (x_KS_455 hK59) (by decide) hK59.1.choose_spec.2.2.2.2.2.2.2.2.2.2.2.2.2.2.2.2.2.1 rfl ?_
  refine q_if0_s (p2 := 28) rfl (by decide) (by omega) rfl (fun hb => absurd hb (show ¬ (¬ (0 = 0)) by omega)) (fun _ => ?_)
  refine q_load (v := (6, 455, 0)) (p2 := 29) rfl rfl rfl rfl ?_
  refine x_n_lt (fun hlt61 => ?_)
  have hm60 := (x_PS_at hm56 (fun j hj hne => by have hj2 := x_some_lt hlt57 hne; exact (frn59 j (by omega))))
  refine q_callrE (xs := [(6, 455, 0)]) (p2 := 30) rfl rfl rfl rfl (x_rcv_s 455 (x_KS_455 hK59)) rfl (k_fetchw hc38 hm60.1.choose_spec hK59 (by omega)) (Nat.le_refl _) (Nat.le_refl _) rfl (fun φ62 hR62 => ?_)
  obtain ⟨hK62, frn62⟩ := hR62
  refine q_store (loc2 := [(6, 455, 0), (0, 60, 0), (6, 225, 0), (0, 8, 0), (0, 11, 0)]) (p2 := 31) rfl rfl rfl rfl rfl ?_
  refine q_load (v := (0, 11, 0)) (p2 := 32) rfl rfl rfl rfl ?_
  refine q_const (p2 := 33) rfl rfl ?_
  refine q_icmp_s (p2 := 34) rfl (by decide) (by omega) (by omega) rfl (fun _ => ?_) (fun hb => absurd (show 10 < 11 by omega) hb)
  refine q_load (v := (0, 11, 0)) (p2 := 39) rfl rfl rfl rfl ?_
  refine q_const (p2 := 40) rfl rfl ?_
  refine q_icmp_s (p2 := 41) rfl (by decide) (by omega) (by omega) rfl (fun hb => absurd hb (show ¬ (19 < 11) by omega)) (fun _ => ?_)
  refine q_load (v := (6, 455, 0)) (p2 := 42) rfl rfl rfl rfl ?_
  refine q_load (v := (0, 11, 0)) (p2 := 43) rfl rfl rfl rfl ?_
  refine x_n_lt (fun hlt64 => ?_)
  have hm63 := (x_PS_at hm60 (fun j hj hne => by have hj2 := x_some_lt hlt61 hne; exact (frn62 j (by omega))))
  have hv65 := x_mv_at hv58 (fun j hj hne => by have hj2 := x_some_lt hlt57 hne; exact ((frn62 j (by omega)).trans (frn59 j (by omega))))
  refine q_callvB (xs := [(0, 11, 0), (6, 455, 0)]) (p2 := 44) rfl rfl rfl rfl (x_rcv_s 455 (x_KS_455 hK62)) rfl (k_op_11_0 hm63.1.choose_spec hK62 (by omega) (by omega) hm63.2.1 (x_PS_H hm63) (x_PS_M hm63) (x_PS_N hm63) hv65 hc39) rfl (fun φ66 n66 sl66 hn66 hN66 hs66 hT66 hR66 => ?_)
  obtain ⟨v66, hK66, hV66, frn66⟩ := hR66
  rw [if_neg (fun h => absurd h.1 (by decide))] at hV66
  refine x_n_lt (fun hlt67 => ?_)
  have hz68 := x_mv_lt hV66 hlt67
  have hy68 := hV66.1
  refine q_goto rfl ?_
  refine q_iinc (z := 9) (loc2 := [(6, 455, 0), (0, 60, 0), (6, 225, 0), (0, 9, 0), (0, 11, 0)]) (p2 := 49) rfl rfl (by decide) rfl rfl ?_
  refine q_goto rfl ?_
  refine q_load (v := (0, 9, 0)) (p2 := 20) rfl rfl rfl rfl ?_
  refine q_const (p2 := 21) rfl rfl ?_
  refine q_icmp_s (p2 := 22) rfl (by decide) (by omega) (by omega) rfl (fun hb => absurd hb (show ¬ (¬ (9 < 1000000)) by omega)) (fun _ => ?_)
  refine q_load (v := (6, 455, 0)) (p2 := 23) rfl rfl rfl rfl ?_
  refine q_getv (v := (0, 2, 0)) (p2 := 24) rfl (x_KS_455 hK66) (by decide) hK66.1.choose_spec.2.2.2.2.2.2.2.2.2.2.2.1 rfl ?_
  refine q_if0_s (p2 := 25) rfl (by decide) (by omega) rfl (fun hb => absurd hb (show ¬ (¬ (0 < 2)) by omega)) (fun _ => ?_)
  refine q_load (v := (6, 455, 0)) (p2 := 26) rfl rfl rfl rfl ?_
  refine q_getv (v := (0, 0, 0)) (p2 := 27) rfl (x_KS_455 hK66) (by decide) hK66.1.choose_spec.2.2.2.2.2.2.2.2.2.2.2.2.2.2.2.2.2.1 rfl ?_
  refine q_if0_s (p2 := 28) rfl (by decide) (by omega) rfl (fun hb => absurd hb (show ¬ (¬ (0 = 0)) by omega)) (fun _ => ?_)
  refine q_load (v := (6, 455, 0)) (p2 := 29) rfl rfl rfl rfl ?_
  have hm69 := (x_PS_at hm63 (fun j hj hne => by have hj2 := x_some_lt hlt64 hne; exact (frn66 j (by omega))))
  refine q_callrE (xs := [(6, 455, 0)]) (p2 := 30) rfl rfl rfl rfl (x_rcv_s 455 (x_KS_455 hK66)) rfl (k_fetchw hc40 hm69.1.choose_spec hK66 (by omega)) (Nat.le_refl _) (Nat.le_refl _) rfl (fun φ70 hR70 => ?_)
  obtain ⟨hK70, frn70⟩ := hR70
  refine q_store (loc2 := [(6, 455, 0), (0, 60, 0), (6, 225, 0), (0, 9, 0), (0, 19, 0)]) (p2 := 31) rfl rfl rfl rfl rfl ?_
  refine q_load (v := (0, 19, 0)) (p2 := 32) rfl rfl rfl rfl ?_
  refine q_const (p2 := 33) rfl rfl ?_
  refine q_icmp_s (p2 := 34) rfl (by decide) (by omega) (by omega) rfl (fun _ => ?_) (fun hb => absurd (show 10 < 19 by omega) hb)
  refine q_load (v := (0, 19, 0)) (p2 := 39) rfl rfl rfl rfl ?_
  refine q_const (p2 := 40) rfl rfl ?_
  refine q_icmp_s (p2 := 41) rfl (by decide) (by omega) (by omega) rfl (fun hb => absurd hb (show ¬ (19 < 19) by omega)) (fun _ => ?_)
  refine q_load (v := (6, 455, 0)) (p2 := 42) rfl rfl rfl rfl ?_
  refine q_load (v := (0, 19, 0)) (p2 := 43) rfl rfl rfl rfl ?_
  refine x_n_lt (fun hlt72 => ?_)
  have hm71 := (x_PS_at hm69 (fun j hj hne => by have hj2 := x_some_lt hlt67 hne; exact (frn70 j (by omega))))
  have hv73 := x_mv_at hV66 (fun j hj hne => by have hj2 := x_some_lt hlt67 hne; exact (frn70 j (by omega)))
  refine q_callvB (xs := [(0, 19, 0), (6, 455, 0)]) (p2 := 44) rfl rfl rfl rfl (x_rcv_s 455 (x_KS_455 hK70)) rfl (k_op_19_8 hm71.1.choose_spec hK70 (by omega) (by omega) hv73 hc41 (by omega)) rfl (fun φ74 n74 sl74 hn74 hN74 hs74 hT74 hR74 => ?_)
  obtain ⟨v74, hK74, hV74, frn74⟩ := hR74
  rw [if_pos rfl] at hV74
  refine x_n_lt (fun hlt75 => ?_)
  have hz76 := x_mv_lt hV74 hlt75
  have hy76 := hV74.1
  refine q_goto rfl ?_
  refine q_iinc (z := 10) (loc2 := [(6, 455, 0), (0, 60, 0), (6, 225, 0), (0, 10, 0), (0, 19, 0)]) (p2 := 49) rfl rfl (by decide) rfl rfl ?_
  refine q_goto rfl ?_
  refine q_load (v := (0, 10, 0)) (p2 := 20) rfl rfl rfl rfl ?_
  refine q_const (p2 := 21) rfl rfl ?_
  refine q_icmp_s (p2 := 22) rfl (by decide) (by omega) (by omega) rfl (fun hb => absurd hb (show ¬ (¬ (10 < 1000000)) by omega)) (fun _ => ?_)
  refine q_load (v := (6, 455, 0)) (p2 := 23) rfl rfl rfl rfl ?_
  refine q_getv (v := (0, 2, 0)) (p2 := 24) rfl (x_KS_455 hK74) (by decide) hK74.1.choose_spec.2.2.2.2.2.2.2.2.2.2.2.1 rfl ?_
  refine q_if0_s (p2 := 25) rfl (by decide) (by omega) rfl (fun hb => absurd hb (show ¬ (¬ (0 < 2)) by omega)) (fun _ => ?_)
  refine q_load (v := (6, 455, 0)) (p2 := 26) rfl rfl rfl rfl ?_
  refine q_getv (v := (0, 0, 0)) (p2 := 27) rfl (x_KS_455 hK74) (by decide) hK74.1.choose_spec.2.2.2.2.2.2.2.2.2.2.2.2.2.2.2.2.2.1 rfl ?_
  refine q_if0_s (p2 := 28) rfl (by decide) (by omega) rfl (fun hb => absurd hb (show ¬ (¬ (0 = 0)) by omega)) (fun _ => ?_)
  refine q_load (v := (6, 455, 0)) (p2 := 29) rfl rfl rfl rfl ?_
  have hm77 := (x_PS_at hm71 (fun j hj hne => by have hj2 := x_some_lt hlt72 hne; exact (frn74 j (by omega) (by omega))))
  refine q_callrE (xs := [(6, 455, 0)]) (p2 := 30) rfl rfl rfl rfl (x_rcv_s 455 (x_KS_455 hK74)) rfl (k_fetchw hc42 hm77.1.choose_spec hK74 (by omega)) (Nat.le_refl _) (Nat.le_refl _) rfl (fun φ78 hR78 => ?_)
  obtain ⟨hK78, frn78⟩ := hR78
  refine q_store (loc2 := [(6, 455, 0), (0, 60, 0), (6, 225, 0), (0, 10, 0), (0, 27, 0)]) (p2 := 31) rfl rfl rfl rfl rfl ?_
  refine q_load (v := (0, 27, 0)) (p2 := 32) rfl rfl rfl rfl ?_
  refine q_const (p2 := 33) rfl rfl ?_
  refine q_icmp_s (p2 := 34) rfl (by decide) (by omega) (by omega) rfl (fun _ => ?_) (fun hb => absurd (show 10 < 27 by omega) hb)
  refine q_load (v := (0, 27, 0)) (p2 := 39) rfl rfl rfl rfl ?_
  refine q_const (p2 := 40) rfl rfl ?_
  refine q_icmp_s (p2 := 41) rfl (by decide) (by omega) (by omega) rfl (fun _ => ?_) (fun hb => absurd (show 19 < 27 by omega) hb)
  refine q_load (v := (6, 455, 0)) (p2 := 46) rfl rfl rfl rfl ?_
  refine q_load (v := (0, 27, 0)) (p2 := 47) rfl rfl rfl rfl ?_
  refine x_n_lt (fun hlt80 => ?_)
  have hm79 := (x_PS_at hm77 (fun j hj hne => by have hj2 := x_some_lt hlt75 hne; exact (frn78 j (by omega))))
  have hv81 := x_mv_at hV74 (fun j hj hne => by have hj2 := x_some_lt hlt75 hne; exact (frn78 j (by omega)))
  refine q_callvB (xs := [(0, 27, 0), (6, 455, 0)]) (p2 := 48) rfl rfl rfl rfl (x_rcv_s 455 (x_KS_455 hK78)) rfl (k_lead_27w (top := 0) hc43 hm79.1.choose_spec hK78 (by omega) (by omega) hv81 (by omega)) rfl (fun φ82 n82 sl82 hn82 hN82 hs82 hT82 hR82 => ?_)
  obtain ⟨hK82, frn82⟩ := hR82
  refine q_iinc (z := 11) (loc2 := [(6, 455, 0), (0, 60, 0), (6, 225, 0), (0, 11, 0), (0, 27, 0)]) (p2 := 49) rfl rfl (by decide) rfl rfl ?_
  refine q_goto rfl ?_
  refine q_load (v := (0, 11, 0)) (p2 := 20) rfl rfl rfl rfl ?_
  refine q_const (p2 := 21) rfl rfl ?_
  refine q_icmp_s (p2 := 22) rfl (by decide) (by omega) (by omega) rfl (fun hb => absurd hb (show ¬ (¬ (11 < 1000000)) by omega)) (fun _ => ?_)
  refine q_load (v := (6, 455, 0)) (p2 := 23) rfl rfl rfl rfl ?_
  refine q_getv (v := (0, 2, 0)) (p2 := 24) rfl (x_KS_455 hK82) (by decide) hK82.1.choose_spec.2.2.2.2.2.2.2.2.2.2.2.1 rfl ?_
  refine q_if0_s (p2 := 25) rfl (by decide) (by omega) rfl (fun hb => absurd hb (show ¬ (¬ (0 < 2)) by omega)) (fun _ => ?_)
  refine q_load (v := (6, 455, 0)) (p2 := 26) rfl rfl rfl rfl ?_
  refine q_getv (v := (0, 0, 0)) (p2 := 27) rfl (x_KS_455 hK82) (by decide) hK82.1.choose_spec.2.2.2.2.2.2.2.2.2.2.2.2.2.2.2.2.2.1 rfl ?_
  refine q_if0_s (p2 := 28) rfl (by decide) (by omega) rfl (fun hb => absurd hb (show ¬ (¬ (0 = 0)) by omega)) (fun _ => ?_)
  refine q_load (v := (6, 455, 0)) (p2 := 29) rfl rfl rfl rfl ?_
  refine x_n_lt (fun hlt84 => ?_)
  have hm83 := (x_PS_at hm79 (fun j hj hne => by have hj2 := x_some_lt hlt80 hne; exact (frn82 j (by omega))))
  refine q_callrE (xs := [(6, 455, 0)]) (p2 := 30) rfl rfl rfl rfl (x_rcv_s 455 (x_KS_455 hK82)) rfl (k_fetchw hc59 hm83.1.choose_spec hK82 (by omega)) (Nat.le_refl _) (Nat.le_refl _) rfl (fun φ85 hR85 => ?_)
  obtain ⟨hK85, frn85⟩ := hR85
  refine q_store (loc2 := [(6, 455, 0), (0, 60, 0), (6, 225, 0), (0, 11, 0), (0, 32, 0)]) (p2 := 31) rfl rfl rfl rfl rfl ?_
  refine q_load (v := (0, 32, 0)) (p2 := 32) rfl rfl rfl rfl ?_
  refine q_const (p2 := 33) rfl rfl ?_
  refine q_icmp_s (p2 := 34) rfl (by decide) (by omega) (by omega) rfl (fun _ => ?_) (fun hb => absurd (show 10 < 32 by omega) hb)
  refine q_load (v := (0, 32, 0)) (p2 := 39) rfl rfl rfl rfl ?_
  refine q_const (p2 := 40) rfl rfl ?_
  refine q_icmp_s (p2 := 41) rfl (by decide) (by omega) (by omega) rfl (fun _ => ?_) (fun hb => absurd (show 19 < 32 by omega) hb)
  refine q_load (v := (6, 455, 0)) (p2 := 46) rfl rfl rfl rfl ?_
  refine q_load (v := (0, 32, 0)) (p2 := 47) rfl rfl rfl rfl ?_
  refine x_n_lt (fun hlt87 => ?_)
  have hm86 := (x_PS_at hm83 (fun j hj hne => by have hj2 := x_some_lt hlt84 hne; exact (frn85 j (by omega))))
  refine q_callvB (xs := [(0, 32, 0), (6, 455, 0)]) (p2 := 48) rfl rfl rfl rfl (x_rcv_s 455 (x_KS_455 hK85)) rfl (k_lead_32 (fr := 1) hm86.1.choose_spec hK85 (by omega) (by omega) (x_PS_N hm86) (by omega) (by show (0 : Nat) < 4096; decide)) rfl (fun φ88 n88 sl88 hn88 hN88 hs88 hT88 hR88 => ?_)
  obtain ⟨hK88, frn88⟩ := hR88
  refine q_iinc (z := 12) (loc2 := [(6, 455, 0), (0, 60, 0), (6, 225, 0), (0, 12, 0), (0, 32, 0)]) (p2 := 49) rfl rfl (by decide) rfl rfl ?_
  refine q_goto rfl ?_
  refine q_load (v := (0, 12, 0)) (p2 := 20) rfl rfl rfl rfl ?_
  refine q_const (p2 := 21) rfl rfl ?_
  refine q_icmp_s (p2 := 22) rfl (by decide) (by omega) (by omega) rfl (fun hb => absurd hb (show ¬ (¬ (12 < 1000000)) by omega)) (fun _ => ?_)
  refine q_load (v := (6, 455, 0)) (p2 := 23) rfl rfl rfl rfl ?_
  refine q_getv (v := (0, 1, 0)) (p2 := 24) rfl (x_KS_455 hK88) (by decide) hK88.1.choose_spec.2.2.2.2.2.2.2.2.2.2.2.1 rfl ?_
  refine q_if0_s (p2 := 25) rfl (by decide) (by omega) rfl (fun hb => absurd hb (show ¬ (¬ (0 < 1)) by omega)) (fun _ => ?_)
  refine q_load (v := (6, 455, 0)) (p2 := 26) rfl rfl rfl rfl ?_
  refine q_getv (v := (0, 0, 0)) (p2 := 27) rfl (x_KS_455 hK88) (by decide) hK88.1.choose_spec.2.2.2.2.2.2.2.2.2.2.2.2.2.2.2.2.2.1 rfl ?_
  refine q_if0_s (p2 := 28) rfl (by decide) (by omega) rfl (fun hb => absurd hb (show ¬ (¬ (0 = 0)) by omega)) (fun _ => ?_)
  refine q_load (v := (6, 455, 0)) (p2 := 29) rfl rfl rfl rfl ?_
  refine x_n_lt (fun hlt90 => ?_)
  have hm89 := (x_PS_at hm86 (fun j hj hne => by have hj2 := x_some_lt hlt87 hne; exact (frn88 j (by omega))))
  refine q_callrE (xs := [(6, 455, 0)]) (p2 := 30) rfl rfl rfl rfl (x_rcv_s 455 (x_KS_455 hK88)) rfl (k_fetchw hc68 hm89.1.choose_spec hK88 (by omega)) (Nat.le_refl _) (Nat.le_refl _) rfl (fun φ91 hR91 => ?_)
  obtain ⟨hK91, frn91⟩ := hR91
  refine q_store (loc2 := [(6, 455, 0), (0, 60, 0), (6, 225, 0), (0, 12, 0), (0, 31, 0)]) (p2 := 31) rfl rfl rfl rfl rfl ?_
  refine q_load (v := (0, 31, 0)) (p2 := 32) rfl rfl rfl rfl ?_
  refine q_const (p2 := 33) rfl rfl ?_
  refine q_icmp_s (p2 := 34) rfl (by decide) (by omega) (by omega) rfl (fun _ => ?_) (fun hb => absurd (show 10 < 31 by omega) hb)
  refine q_load (v := (0, 31, 0)) (p2 := 39) rfl rfl rfl rfl ?_
  refine q_const (p2 := 40) rfl rfl ?_
  refine q_icmp_s (p2 := 41) rfl (by decide) (by omega) (by omega) rfl (fun _ => ?_) (fun hb => absurd (show 19 < 31 by omega) hb)
  refine q_load (v := (6, 455, 0)) (p2 := 46) rfl rfl rfl rfl ?_
  refine q_load (v := (0, 31, 0)) (p2 := 47) rfl rfl rfl rfl ?_
  refine x_n_lt (fun hlt93 => ?_)
  have hm92 := (x_PS_at hm89 (fun j hj hne => by have hj2 := x_some_lt hlt90 hne; exact (frn91 j (by omega))))
  have hv94 := x_mv_at hv7 (fun j hj hne => by have hj2 := x_some_lt hlt6 hne; exact ((frn91 j (by omega)).trans ((frn88 j (by omega)).trans ((frn85 j (by omega)).trans ((frn82 j (by omega)).trans ((frn78 j (by omega)).trans ((frn74 j (by omega) (by omega)).trans ((frn70 j (by omega)).trans ((frn66 j (by omega)).trans ((frn62 j (by omega)).trans ((frn59 j (by omega)).trans ((frn55 j (by omega)).trans ((frn52 j (by omega)).trans ((frn49 j (by omega)).trans ((frn46 j (by omega)).trans ((frn43 j (by omega)).trans ((frn40 j (by omega)).trans ((frn37 j (by omega)).trans ((frn34 j (by omega)).trans ((frn30 j (by omega)).trans ((frn26 j (by omega) (by omega)).trans ((frn23 j (by omega)).trans ((frn20 j (by omega)).trans ((frn17 j (by omega)).trans ((frn14 j (by omega)).trans ((frn11 j (by omega)).trans (frn8 j (by omega))))))))))))))))))))))))))))
  refine q_callvB (xs := [(0, 31, 0), (6, 455, 0)]) (p2 := 48) rfl rfl rfl rfl (x_rcv_s 455 (x_KS_455 hK91)) rfl (k_lead_31 (top := 0) (fr := 0) hm92.1.choose_spec hK91 (by omega) (by omega) hv94 (Or.inl rfl) (by omega) (by show (0 : Nat) < 4096; decide)) rfl (fun φ95 n95 sl95 hn95 hN95 hs95 hT95 hR95 => ?_)
  obtain ⟨hK95, frn95⟩ := hR95
  refine q_iinc (z := 13) (loc2 := [(6, 455, 0), (0, 60, 0), (6, 225, 0), (0, 13, 0), (0, 31, 0)]) (p2 := 49) rfl rfl (by decide) rfl rfl ?_
  refine q_goto rfl ?_
  refine q_load (v := (0, 13, 0)) (p2 := 20) rfl rfl rfl rfl ?_
  refine q_const (p2 := 21) rfl rfl ?_
  refine q_icmp_s (p2 := 22) rfl (by decide) (by omega) (by omega) rfl (fun hb => absurd hb (show ¬ (¬ (13 < 1000000)) by omega)) (fun _ => ?_)
  refine q_load (v := (6, 455, 0)) (p2 := 23) rfl rfl rfl rfl ?_
  refine q_getv (v := (0, 0, 0)) (p2 := 24) rfl (x_KS_455 hK95) (by decide) hK95.1.choose_spec.2.2.2.2.2.2.2.2.2.2.2.1 rfl ?_
  refine q_if0_s (p2 := 25) rfl (by decide) (by omega) rfl (fun _ => ?_) (fun hb => absurd (show ¬ (0 < 0) by omega) hb)
  refine q_load (v := (6, 455, 0)) (p2 := 51) rfl rfl rfl rfl ?_
  refine q_getv (v := (0, 0, 0)) (p2 := 52) rfl (x_KS_455 hK95) (by decide) hK95.1.choose_spec.2.2.2.2.2.2.2.2.2.2.2.2.2.2.2.2.2.1 rfl ?_
  refine q_if0_s (p2 := 53) rfl (by decide) (by omega) rfl (fun _ => ?_) (fun hb => absurd (show 0 = 0 by omega) hb)
  refine q_load (v := (6, 455, 0)) (p2 := 57) rfl rfl rfl rfl ?_
  refine q_callrE (xs := [(6, 455, 0)]) (p2 := 58) rfl rfl rfl rfl (x_rcv_s 455 (x_KS_455 hK95)) rfl (k_pop (top := 0) hK95 (by omega)) (Nat.le_refl _) (Nat.le_refl _) rfl (fun φ96 hR96 => ?_)
  obtain ⟨hK96, frn96⟩ := hR96
  refine x_n_lt (fun hlt98 => ?_)
  have hv97 := x_mv_at hv94 (fun j hj hne => by have hj2 := x_some_lt hlt93 hne; exact ((frn96 j (by omega)).trans (frn95 j (by omega))))
  exact q_retv (v := (6, 225, 0)) rfl rfl (⟨rfl, ⟨by omega, by omega⟩, ⟨by omega, by omega⟩, 225, rfl, ⟨_, _, _, _, _, _, _, _, _, _, hK96⟩, hv97, fun j hj1 hj2 => ((frn96 j (by omega)).trans ((frn95 j (by omega)).trans ((frn91 j (by omega)).trans ((frn88 j (by omega)).trans ((frn85 j (by omega)).trans ((frn82 j (by omega)).trans ((frn78 j (by omega)).trans ((frn74 j (by omega) (by omega)).trans ((frn70 j (by omega)).trans ((frn66 j (by omega)).trans ((frn62 j (by omega)).trans ((frn59 j (by omega)).trans ((frn55 j (by omega)).trans ((frn52 j (by omega)).trans ((frn49 j (by omega)).trans ((frn46 j (by omega)).trans ((frn43 j (by omega)).trans ((frn40 j (by omega)).trans ((frn37 j (by omega)).trans ((frn34 j (by omega)).trans ((frn30 j (by omega)).trans ((frn26 j (by omega) (by omega)).trans ((frn23 j (by omega)).trans ((frn20 j (by omega)).trans ((frn17 j (by omega)).trans ((frn14 j (by omega)).trans ((frn11 j (by omega)).trans ((frn8 j (by omega)).trans ((fr4 j (by omega)).trans ((fr3 j (by omega)).trans ((fr2 j (by omega)).trans (fr1 j (by omega)))))))))))))))))))))))))))))))))⟩)
set_option maxHeartbeats 1000000 in
theorem zc_run_call_y0 {d n sl : Nat} {φ : FH} {A : Nat} {B : Nat} {made : Nat} {sv : Nat} {svm : Nat} {s9 : Nat} {comb : Nat → Nat} {hm : Nat → MV} {top : Nat} {fr : Nat} {pc_ : Nat} {mm : Nat} {mi : Nat} {st : Nat → Nat} {lo : Nat → Nat} {re : Nat → Nat} {rs : Nat → Nat} {fl : Nat → Nat} {se : Nat → Nat} {co : Nat → Nat} {w1 : Nat} (hPS : x_PS φ A B made sv svm s9 comb hm) (hKS : x_KS φ top fr pc_ mm mi st lo re rs fl se co) (hn0 : 486 ≤ n) (hmi : mi + 30 ≤ 20000) (hc60 : co 60 = 1) (hc61 : co 61 = 1) (hc62 : co 62 = 1) (hc63 : co 63 = 1) (hc64 : co 64 = 7) (hc65 : co 65 = w1) (hc66 : co 66 = 20) (hc67 : co 67 = 0) (hc68 : co 68 = 31) (hc30 : co 30 = 1) (hc31 : co 31 = 1) (hc32 : co 32 = 1) (hc33 : co 33 = 1) (hc34 : co 34 = 1) (hc35 : co 35 = 2) (hc36 : co 36 = 10) (hc37 : co 37 = 0) (hc38 : co 38 = 11) (hc39 : co 39 = 0) (hc40 : co 40 = 19) (hc41 : co 41 = 8) (hc42 : co 42 = 27) (hc43 : co 43 = 59) (hc44 : co 44 = 1) (hc45 : co 45 = 1) (hc46 : co 46 = 1) (hc47 : co 47 = 3) (hc48 : co 48 = 10) (hc49 : co 49 = 0) (hc50 : co 50 = 11) (hc51 : co 51 = 0) (hc52 : co 52 = 1) (hc53 : co 53 = 1) (hc54 : co 54 = 3) (hc55 : co 55 = 1) (hc56 : co 56 = 13) (hc57 : co 57 = 69) (hc58 : co 58 = 31) (hc59 : co 59 = 32) (hw1 : w1 < 512) (h1 : w1 < made ∧ comb w1 ≠ 0) (hisA : x_isA made comb w1 0) (hbit : 1 &&& comb w1 ≠ 0) (hk : hm (w1 * 40 + 0) = MV0) : x_f x_P (d + 6) 56 [(6, 455, 0), (0, 60, 0), (6, 225, 0), (11, 0, 0), (11, 0, 0)] φ n sl (x_bR n sl 2 14 (fun zw φ2 => ∃ v, zw = (6, v, 0) ∧ x_KJ φ2 (mi + 6) co ∧ x_mv φ2 v (MV0) ∧ ∀ j, j < n → (j < 455 ∨ 466 ≤ j) → φ2 j = φ j)) := by
  refine x_f_of rfl ?_
  refine x_n_lt (fun hlt0 => ?_)
  refine q_load (v := (6, 455, 0)) (p2 := 1) rfl rfl rfl rfl ?_
  refine q_const (p2 := 2) rfl rfl ?_
  refine q_putfE (v := (0, 0, 0)) (p2 := 3) rfl (x_KS_455 hKS) (by decide) rfl rfl (fun φ1 f1 hh1 hg1 ho1 fr1 => ?_)
  have hs1 := x_KS_put_18 hKS hh1 hg1 ho1 fr1
  refine q_load (v := (6, 455, 0)) (p2 := 4) rfl rfl rfl rfl ?_
  refine q_const (p2 := 5) rfl rfl ?_
  refine q_putfE (v := (0, 0, 0)) (p2 := 6) rfl (x_KS_455 hs1) (by decide) rfl rfl (fun φ2 f2 hh2 hg2 ho2 fr2 => ?_)
  have hs2 := x_KS_put_16 hs1 hh2 hg2 ho2 fr2
  refine q_load (v := (6, 455, 0)) (p2 := 7) rfl rfl rfl rfl ?_
  refine q_const (p2 := 8) rfl rfl ?_
  refine q_putfE (v := (0, 0, 0)) (p2 := 9) rfl (x_KS_455 hs2) (by decide) rfl rfl (fun φ3 f3 hh3 hg3 ho3 fr3 => ?_)
  have hs3 := x_KS_put_4 hs2 hh3 hg3 ho3 fr3
  refine q_load (v := (6, 455, 0)) (p2 := 10) rfl rfl rfl rfl ?_
  refine q_const (p2 := 11) rfl rfl ?_
  refine q_putfE (v := (0, 0, 0)) (p2 := 12) rfl (x_KS_455 hs3) (by decide) rfl rfl (fun φ4 f4 hh4 hg4 ho4 fr4 => ?_)
  have hs4 := x_KS_put_10 hs3 hh4 hg4 ho4 fr4
  refine q_load (v := (6, 455, 0)) (p2 := 13) rfl rfl rfl rfl ?_
  refine q_load (v := (0, 60, 0)) (p2 := 14) rfl rfl rfl rfl ?_
  refine q_const (p2 := 15) rfl rfl ?_
  refine q_load (v := (6, 225, 0)) (p2 := 16) rfl rfl rfl rfl ?_
  refine x_n_lt (fun hlt6 => ?_)
  have hm5 := (x_PS_at hPS (fun j hj hne => by have hj2 := x_some_lt hlt0 hne; exact ((fr4 j (by omega)).trans ((fr3 j (by omega)).trans ((fr2 j (by omega)).trans (fr1 j (by omega)))))))
  have hv7 := x_mv_at (x_PS_N hPS) (fun j hj hne => by have hj2 := x_some_lt hlt0 hne; exact ((fr4 j (by omega)).trans ((fr3 j (by omega)).trans ((fr2 j (by omega)).trans (fr1 j (by omega))))))
  refine q_callvE (xs := [(6, 225, 0), (0, 4294967293, 0), (0, 60, 0), (6, 455, 0)]) (p2 := 17) rfl rfl rfl rfl (x_rcv_s 455 (x_KS_455 hs4)) rfl (k_open hs4 (x_PS_N hm5) hv7 (by omega)) (Nat.le_refl _) (Nat.le_refl _) rfl (fun φ8 hR8 => ?_)
  obtain ⟨hK8, frn8⟩ := hR8
  refine q_const (p2 := 18) rfl rfl ?_
  refine q_store (loc2 := [(6, 455, 0), (0, 60, 0), (6, 225, 0), (0, 0, 0), (11, 0, 0)]) (p2 := 19) rfl rfl rfl rfl rfl ?_
  refine q_load (v := (0, 0, 0)) (p2 := 20) rfl rfl rfl rfl ?_
  refine q_const (p2 := 21) rfl rfl ?_
  refine q_icmp_s (p2 := 22) rfl (by decide) (by omega) (by omega) rfl (fun hb => absurd hb (show ¬ (¬ (0 < 1000000)) by omega)) (fun _ => ?_)
  refine q_load (v := (6, 455, 0)) (p2 := 23) rfl rfl rfl rfl ?_
  refine q_getv (v := (0, 1, 0)) (p2 := 24) rfl (x_KS_455 hK8) (by decide) hK8.1.choose_spec.2.2.2.2.2.2.2.2.2.2.2.1 rfl ?_
  refine q_if0_s (p2 := 25) rfl (by decide) (by omega) rfl (fun hb => absurd hb (show ¬ (¬ (0 < 1)) by omega)) (fun _ => ?_)
  refine q_load (v := (6, 455, 0)) (p2 := 26) rfl rfl rfl rfl ?_
  refine q_getv (v := (0, 0, 0)) (p2 := 27) rfl (x_KS_455 hK8) (by decide) hK8.1.choose_spec.2.2.2.2.2.2.2.2.2.2.2.2.2.2.2.2.2.1 rfl ?_
  refine q_if0_s (p2 := 28) rfl (by decide) (by omega) rfl (fun hb => absurd hb (show ¬ (¬ (0 = 0)) by omega)) (fun _ => ?_)
  refine q_load (v := (6, 455, 0)) (p2 := 29) rfl rfl rfl rfl ?_
  refine x_n_lt (fun hlt10 => ?_)
  have hm9 := (x_PS_at hm5 (fun j hj hne => by have hj2 := x_some_lt hlt6 hne; exact (frn8 j (by omega))))
  refine q_callrE (xs := [(6, 455, 0)]) (p2 := 30) rfl rfl rfl rfl (x_rcv_s 455 (x_KS_455 hK8)) rfl (k_fetchw hc60 hm9.1.choose_spec hK8 (by omega)) (Nat.le_refl _) (Nat.le_refl _) rfl (fun φ11 hR11 => ?_)
  obtain ⟨hK11, frn11⟩ := hR11
  refine q_store (loc2 := [(6, 455, 0), (0, 60, 0), (6, 225, 0), (0, 0, 0), (0, 1, 0)]) (p2 := 31) rfl rfl rfl rfl rfl ?_
  refine q_load (v := (0, 1, 0)) (p2 := 32) rfl rfl rfl rfl ?_
  refine q_const (p2 := 33) rfl rfl ?_
  refine q_icmp_s (p2 := 34) rfl (by decide) (by omega) (by omega) rfl (fun hb => absurd hb (show ¬ (10 < 1) by omega)) (fun _ => ?_)
  refine q_load (v := (6, 455, 0)) (p2 := 35) rfl rfl rfl rfl ?_
  refine q_load (v := (0, 1, 0)) (p2 := 36) rfl rfl rfl rfl ?_
  refine x_n_lt (fun hlt13 => ?_)
  have hm12 := (x_PS_at hm9 (fun j hj hne => by have hj2 := x_some_lt hlt10 hne; exact (frn11 j (by omega))))
  refine q_callvB (xs := [(0, 1, 0), (6, 455, 0)]) (p2 := 37) rfl rfl rfl rfl (x_rcv_s 455 (x_KS_455 hK11)) rfl (k_plain_1w hc61 hm12.1.choose_spec hK11 (by omega) (by omega) (by omega) (by omega)) rfl (fun φ14 n14 sl14 hn14 hN14 hs14 hT14 hR14 => ?_)
  obtain ⟨hK14, frn14⟩ := hR14
  refine q_goto rfl ?_
  refine q_iinc (z := 1) (loc2 := [(6, 455, 0), (0, 60, 0), (6, 225, 0), (0, 1, 0), (0, 1, 0)]) (p2 := 49) rfl rfl (by decide) rfl rfl ?_
  refine q_goto rfl ?_
  refine q_load (v := (0, 1, 0)) (p2 := 20) rfl rfl rfl rfl ?_
  refine q_const (p2 := 21) rfl rfl ?_
  refine q_icmp_s (p2 := 22) rfl (by decide) (by omega) (by omega) rfl (fun hb => absurd hb (show ¬ (¬ (1 < 1000000)) by omega)) (fun _ => ?_)
  refine q_load (v := (6, 455, 0)) (p2 := 23) rfl rfl rfl rfl ?_
  refine q_getv (v := (0, 1, 0)) (p2 := 24) rfl (x_KS_455 hK14) (by decide) hK14.1.choose_spec.2.2.2.2.2.2.2.2.2.2.2.1 rfl ?_
  refine q_if0_s (p2 := 25) rfl (by decide) (by omega) rfl (fun hb => absurd hb (show ¬ (¬ (0 < 1)) by omega)) (fun _ => ?_)
  refine q_load (v := (6, 455, 0)) (p2 := 26) rfl rfl rfl rfl ?_
  refine q_getv (v := (0, 0, 0)) (p2 := 27) rfl (x_KS_455 hK14) (by decide) hK14.1.choose_spec.2.2.2.2.2.2.2.2.2.2.2.2.2.2.2.2.2.1 rfl ?_
  refine q_if0_s (p2 := 28) rfl (by decide) (by omega) rfl (fun hb => absurd hb (show ¬ (¬ (0 = 0)) by omega)) (fun _ => ?_)
  refine q_load (v := (6, 455, 0)) (p2 := 29) rfl rfl rfl rfl ?_
  refine x_n_lt (fun hlt16 => ?_)
  have hm15 := (x_PS_at hm12 (fun j hj hne => by have hj2 := x_some_lt hlt13 hne; exact (frn14 j (by omega))))
  refine q_callrE (xs := [(6, 455, 0)]) (p2 := 30) rfl rfl rfl rfl (x_rcv_s 455 (x_KS_455 hK14)) rfl (k_fetchw hc62 hm15.1.choose_spec hK14 (by omega)) (Nat.le_refl _) (Nat.le_refl _) rfl (fun φ17 hR17 => ?_)
  obtain ⟨hK17, frn17⟩ := hR17
  refine q_store (loc2 := [(6, 455, 0), (0, 60, 0), (6, 225, 0), (0, 1, 0), (0, 1, 0)]) (p2 := 31) rfl rfl rfl rfl rfl ?_
  refine q_load (v := (0, 1, 0)) (p2 := 32) rfl rfl rfl rfl ?_
  refine q_const (p2 := 33) rfl rfl ?_
  refine q_icmp_s (p2 := 34) rfl (by decide) (by omega) (by omega) rfl (fun hb => absurd hb (show ¬ (10 < 1) by omega)) (fun _ => ?_)
  refine q_load (v := (6, 455, 0)) (p2 := 35) rfl rfl rfl rfl ?_
  refine q_load (v := (0, 1, 0)) (p2 := 36) rfl rfl rfl rfl ?_
  refine x_n_lt (fun hlt19 => ?_)
  have hm18 := (x_PS_at hm15 (fun j hj hne => by have hj2 := x_some_lt hlt16 hne; exact (frn17 j (by omega))))
  refine q_callvB (xs := [(0, 1, 0), (6, 455, 0)]) (p2 := 37) rfl rfl rfl rfl (x_rcv_s 455 (x_KS_455 hK17)) rfl (k_plain_1w hc63 hm18.1.choose_spec hK17 (by omega) (by omega) (by omega) (by omega)) rfl (fun φ20 n20 sl20 hn20 hN20 hs20 hT20 hR20 => ?_)
  obtain ⟨hK20, frn20⟩ := hR20
  refine q_goto rfl ?_
  refine q_iinc (z := 2) (loc2 := [(6, 455, 0), (0, 60, 0), (6, 225, 0), (0, 2, 0), (0, 1, 0)]) (p2 := 49) rfl rfl (by decide) rfl rfl ?_
  refine q_goto rfl ?_
  refine q_load (v := (0, 2, 0)) (p2 := 20) rfl rfl rfl rfl ?_
  refine q_const (p2 := 21) rfl rfl ?_
  refine q_icmp_s (p2 := 22) rfl (by decide) (by omega) (by omega) rfl (fun hb => absurd hb (show ¬ (¬ (2 < 1000000)) by omega)) (fun _ => ?_)
  refine q_load (v := (6, 455, 0)) (p2 := 23) rfl rfl rfl rfl ?_
  refine q_getv (v := (0, 1, 0)) (p2 := 24) rfl (x_KS_455 hK20) (by decide) hK20.1.choose_spec.2.2.2.2.2.2.2.2.2.2.2.1 rfl ?_
  refine q_if0_s (p2 := 25) rfl (by decide) (by omega) rfl (fun hb => absurd hb (show ¬ (¬ (0 < 1)) by omega)) (fun _ => ?_)
  refine q_load (v := (6, 455, 0)) (p2 := 26) rfl rfl rfl rfl ?_
  refine q_getv (v := (0, 0, 0)) (p2 := 27) rfl (x_KS_455 hK20) (by decide) hK20.1.choose_spec.2.2.2.2.2.2.2.2.2.2.2.2.2.2.2.2.2.1 rfl ?_
  refine q_if0_s (p2 := 28) rfl (by decide) (by omega) rfl (fun hb => absurd hb (show ¬ (¬ (0 = 0)) by omega)) (fun _ => ?_)
  refine q_load (v := (6, 455, 0)) (p2 := 29) rfl rfl rfl rfl ?_
  refine x_n_lt (fun hlt22 => ?_)
  have hm21 := (x_PS_at hm18 (fun j hj hne => by have hj2 := x_some_lt hlt19 hne; exact (frn20 j (by omega))))
  refine q_callrE (xs := [(6, 455, 0)]) (p2 := 30) rfl rfl rfl rfl (x_rcv_s 455 (x_KS_455 hK20)) rfl (k_fetchw hc64 hm21.1.choose_spec hK20 (by omega)) (Nat.le_refl _) (Nat.le_refl _) rfl (fun φ23 hR23 => ?_)
  obtain ⟨hK23, frn23⟩ := hR23
  refine q_store (loc2 := [(6, 455, 0), (0, 60, 0), (6, 225, 0), (0, 2, 0), (0, 7, 0)]) (p2 := 31) rfl rfl rfl rfl rfl ?_
  refine q_load (v := (0, 7, 0)) (p2 := 32) rfl rfl rfl rfl ?_
  refine q_const (p2 := 33) rfl rfl ?_
  refine q_icmp_s (p2 := 34) rfl (by decide) (by omega) (by omega) rfl (fun hb => absurd hb (show ¬ (10 < 7) by omega)) (fun _ => ?_)
  refine q_load (v := (6, 455, 0)) (p2 := 35) rfl rfl rfl rfl ?_
  refine q_load (v := (0, 7, 0)) (p2 := 36) rfl rfl rfl rfl ?_
  refine x_n_lt (fun hlt25 => ?_)
  have hm24 := (x_PS_at hm21 (fun j hj hne => by have hj2 := x_some_lt hlt22 hne; exact (frn23 j (by omega))))
  refine q_callvB (xs := [(0, 7, 0), (6, 455, 0)]) (p2 := 37) rfl rfl rfl rfl (x_rcv_s 455 (x_KS_455 hK23)) rfl (k_plain_7w hc65 hm24.1.choose_spec hK23 (by omega) (by omega) hm24.2.1 (x_PS_N hm24) (by omega) (by omega)) rfl (fun φ26 n26 sl26 hn26 hN26 hs26 hT26 hR26 => ?_)
  obtain ⟨v26, hK26, hV26, frn26⟩ := hR26
  rw [if_pos h1] at hV26
  refine x_n_lt (fun hlt27 => ?_)
  have hz28 := x_mv_lt hV26 hlt27
  have hy28 := hV26.1
  refine q_goto rfl ?_
  refine q_iinc (z := 3) (loc2 := [(6, 455, 0), (0, 60, 0), (6, 225, 0), (0, 3, 0), (0, 7, 0)]) (p2 := 49) rfl rfl (by decide) rfl rfl ?_
  refine q_goto rfl ?_
  refine q_load (v := (0, 3, 0)) (p2 := 20) rfl rfl rfl rfl ?_
  refine q_const (p2 := 21) rfl rfl ?_
  refine q_icmp_s (p2 := 22) rfl (by decide) (by omega) (by omega) rfl (fun hb => absurd hb (show ¬ (¬ (3 < 1000000)) by omega)) (fun _ => ?_)
  refine q_load (v := (6, 455, 0)) (p2 := 23) rfl rfl rfl rfl ?_
  refine q_getv (v := (0, 1, 0)) (p2 := 24) rfl (x_KS_455 hK26) (by decide) hK26.1.choose_spec.2.2.2.2.2.2.2.2.2.2.2.1 rfl ?_
  refine q_if0_s (p2 := 25) rfl (by decide) (by omega) rfl (fun hb => absurd hb (show ¬ (¬ (0 < 1)) by omega)) (fun _ => ?_)
  refine q_load (v := (6, 455, 0)) (p2 := 26) rfl rfl rfl rfl ?_
  refine q_getv (v := (0, 0, 0)) (p2 := 27) rfl (x_KS_455 hK26) (by decide) hK26.1.choose_spec.2.2.2.2.2.2.2.2.2.2.2.2.2.2.2.2.2.1 rfl ?_
  refine q_if0_s (p2 := 28) rfl (by decide) (by omega) rfl (fun hb => absurd hb (show ¬ (¬ (0 = 0)) by omega)) (fun _ => ?_)
  refine q_load (v := (6, 455, 0)) (p2 := 29) rfl rfl rfl rfl ?_
  have hm29 := (x_PS_at hm24 (fun j hj hne => by have hj2 := x_some_lt hlt25 hne; exact (frn26 j (by omega) (by omega))))
  refine q_callrE (xs := [(6, 455, 0)]) (p2 := 30) rfl rfl rfl rfl (x_rcv_s 455 (x_KS_455 hK26)) rfl (k_fetchw hc66 hm29.1.choose_spec hK26 (by omega)) (Nat.le_refl _) (Nat.le_refl _) rfl (fun φ30 hR30 => ?_)
  obtain ⟨hK30, frn30⟩ := hR30
  refine q_store (loc2 := [(6, 455, 0), (0, 60, 0), (6, 225, 0), (0, 3, 0), (0, 20, 0)]) (p2 := 31) rfl rfl rfl rfl rfl ?_
  refine q_load (v := (0, 20, 0)) (p2 := 32) rfl rfl rfl rfl ?_
  refine q_const (p2 := 33) rfl rfl ?_
  refine q_icmp_s (p2 := 34) rfl (by decide) (by omega) (by omega) rfl (fun _ => ?_) (fun hb => absurd (show 10 < 20 by omega) hb)
  refine q_load (v := (0, 20, 0)) (p2 := 39) rfl rfl rfl rfl ?_
  refine q_const (p2 := 40) rfl rfl ?_
  refine q_icmp_s (p2 := 41) rfl (by decide) (by omega) (by omega) rfl (fun _ => ?_) (fun hb => absurd (show 19 < 20 by omega) hb)
  refine q_load (v := (6, 455, 0)) (p2 := 46) rfl rfl rfl rfl ?_
  refine q_load (v := (0, 20, 0)) (p2 := 47) rfl rfl rfl rfl ?_
  refine x_n_lt (fun hlt32 => ?_)
  have hv31 := x_mv_at hV26 (fun j hj hne => by have hj2 := x_some_lt hlt27 hne; exact (frn30 j (by omega)))
  have hm33 := (x_PS_at hm29 (fun j hj hne => by have hj2 := x_some_lt hlt27 hne; exact (frn30 j (by omega))))
  refine q_callvE (xs := [(0, 20, 0), (6, 455, 0)]) (p2 := 48) rfl rfl rfl rfl (x_rcv_s 455 (x_KS_455 hK30)) rfl (zc_klead20_5 hm33 hK30 (by omega) hv31 hc67 (x_s_eq) hbit (by omega) (by omega)) (Nat.le_refl _) (Nat.le_refl _) rfl (fun φ34 hR34 => ?_)
  obtain ⟨hK34, frn34⟩ := hR34
  refine q_iinc (z := 4) (loc2 := [(6, 455, 0), (0, 60, 0), (6, 225, 0), (0, 4, 0), (0, 20, 0)]) (p2 := 49) rfl rfl (by decide) rfl rfl ?_
  refine q_goto rfl ?_
  refine q_load (v := (0, 4, 0)) (p2 := 20) rfl rfl rfl rfl ?_
  refine q_const (p2 := 21) rfl rfl ?_
  refine q_icmp_s (p2 := 22) rfl (by decide) (by omega) (by omega) rfl (fun hb => absurd hb (show ¬ (¬ (4 < 1000000)) by omega)) (fun _ => ?_)
  refine q_load (v := (6, 455, 0)) (p2 := 23) rfl rfl rfl rfl ?_
  refine q_getv (v := (0, 2, 0)) (p2 := 24) rfl (x_KS_455 hK34) (by decide) hK34.1.choose_spec.2.2.2.2.2.2.2.2.2.2.2.1 rfl ?_
  refine q_if0_s (p2 := 25) rfl (by decide) (by omega) rfl (fun hb => absurd hb (show ¬ (¬ (0 < 2)) by omega)) (fun _ => ?_)
  refine q_load (v := (6, 455, 0)) (p2 := 26) rfl rfl rfl rfl ?_
  refine q_getv (v := (0, 0, 0)) (p2 := 27) rfl (x_KS_455 hK34) (by decide) hK34.1.choose_spec.2.2.2.2.2.2.2.2.2.2.2.2.2.2.2.2.2.1 rfl ?_
  refine q_if0_s (p2 := 28) rfl (by decide) (by omega) rfl (fun hb => absurd hb (show ¬ (¬ (0 = 0)) by omega)) (fun _ => ?_)
  refine q_load (v := (6, 455, 0)) (p2 := 29) rfl rfl rfl rfl ?_
  refine x_n_lt (fun hlt36 => ?_)
  have hm35 := (x_PS_at hm33 (fun j hj hne => by have hj2 := x_some_lt hlt32 hne; exact (frn34 j (by omega))))
  refine q_callrE (xs := [(6, 455, 0)]) (p2 := 30) rfl rfl rfl rfl (x_rcv_s 455 (x_KS_455 hK34)) rfl (k_fetchw hc30 hm35.1.choose_spec hK34 (by omega)) (Nat.le_refl _) (Nat.le_refl _) rfl (fun φ37 hR37 => ?_)
  obtain ⟨hK37, frn37⟩ := hR37
  refine q_store (loc2 := [(6, 455, 0), (0, 60, 0), (6, 225, 0), (0, 4, 0), (0, 1, 0)]) (p2 := 31) rfl rfl rfl rfl rfl ?_
  refine q_load (v := (0, 1, 0)) (p2 := 32) rfl rfl rfl rfl ?_
  refine q_const (p2 := 33) rfl rfl ?_
  refine q_icmp_s (p2 := 34) rfl (by decide) (by omega) (by omega) rfl (fun hb => absurd hb (show ¬ (10 < 1) by omega)) (fun _ => ?_)
  refine q_load (v := (6, 455, 0)) (p2 := 35) rfl rfl rfl rfl ?_
  refine q_load (v := (0, 1, 0)) (p2 := 36) rfl rfl rfl rfl ?_
  refine x_n_lt (fun hlt39 => ?_)
  have hm38 := (x_PS_at hm35 (fun j hj hne => by have hj2 := x_some_lt hlt36 hne; exact (frn37 j (by omega))))
  refine q_callvB (xs := [(0, 1, 0), (6, 455, 0)]) (p2 := 37) rfl rfl rfl rfl (x_rcv_s 455 (x_KS_455 hK37)) rfl (k_plain_1w hc31 hm38.1.choose_spec hK37 (by omega) (by omega) (by omega) (by omega)) rfl (fun φ40 n40 sl40 hn40 hN40 hs40 hT40 hR40 => ?_)
  obtain ⟨hK40, frn40⟩ := hR40
  refine q_goto rfl ?_
  refine q_iinc (z := 5) (loc2 := [(6, 455, 0), (0, 60, 0), (6, 225, 0), (0, 5, 0), (0, 1, 0)]) (p2 := 49) rfl rfl (by decide) rfl rfl ?_
  refine q_goto rfl ?_
  refine q_load (v := (0, 5, 0)) (p2 := 20) rfl rfl rfl rfl ?_
  refine q_const (p2 := 21) rfl rfl ?_
  refine q_icmp_s (p2 := 22) rfl (by decide) (by omega) (by omega) rfl (fun hb => absurd hb (show ¬ (¬ (5 < 1000000)) by omega)) (fun _ => ?_)
  refine q_load (v := (6, 455, 0)) (p2 := 23) rfl rfl rfl rfl ?_
  refine q_getv (v := (0, 2, 0)) (p2 := 24) rfl (x_KS_455 hK40) (by decide) hK40.1.choose_spec.2.2.2.2.2.2.2.2.2.2.2.1 rfl ?_
  refine q_if0_s (p2 := 25) rfl (by decide) (by omega) rfl (fun hb => absurd hb (show ¬ (¬ (0 < 2)) by omega)) (fun _ => ?_)
  refine q_load (v := (6, 455, 0)) (p2 := 26) rfl rfl rfl rfl ?_
  refine q_getv (v := (0, 0, 0)) (p2 := 27) rfl (x_KS_455 hK40) (by decide) hK40.1.choose_spec.2.2.2.2.2.2.2.2.2.2.2.2.2.2.2.2.2.1 rfl ?_
  refine q_if0_s (p2 := 28) rfl (by decide) (by omega) rfl (fun hb => absurd hb (show ¬ (¬ (0 = 0)) by omega)) (fun _ => ?_)
  refine q_load (v := (6, 455, 0)) (p2 := 29) rfl rfl rfl rfl ?_
  refine x_n_lt (fun hlt42 => ?_)
  have hm41 := (x_PS_at hm38 (fun j hj hne => by have hj2 := x_some_lt hlt39 hne; exact (frn40 j (by omega))))
  refine q_callrE (xs := [(6, 455, 0)]) (p2 := 30) rfl rfl rfl rfl (x_rcv_s 455 (x_KS_455 hK40)) rfl (k_fetchw hc32 hm41.1.choose_spec hK40 (by omega)) (Nat.le_refl _) (Nat.le_refl _) rfl (fun φ43 hR43 => ?_)
  obtain ⟨hK43, frn43⟩ := hR43
  refine q_store (loc2 := [(6, 455, 0), (0, 60, 0), (6, 225, 0), (0, 5, 0), (0, 1, 0)]) (p2 := 31) rfl rfl rfl rfl rfl ?_
  refine q_load (v := (0, 1, 0)) (p2 := 32) rfl rfl rfl rfl ?_
  refine q_const (p2 := 33) rfl rfl ?_
  refine q_icmp_s (p2 := 34) rfl (by decide) (by omega) (by omega) rfl (fun hb => absurd hb (show ¬ (10 < 1) by omega)) (fun _ => ?_)
  refine q_load (v := (6, 455, 0)) (p2 := 35) rfl rfl rfl rfl ?_
  refine q_load (v := (0, 1, 0)) (p2 := 36) rfl rfl rfl rfl ?_
  refine x_n_lt (fun hlt45 => ?_)
  have hm44 := (x_PS_at hm41 (fun j hj hne => by have hj2 := x_some_lt hlt42 hne; exact (frn43 j (by omega))))
  refine q_callvB (xs := [(0, 1, 0), (6, 455, 0)]) (p2 := 37) rfl rfl rfl rfl (x_rcv_s 455 (x_KS_455 hK43)) rfl (k_plain_1w hc33 hm44.1.choose_spec hK43 (by omega) (by omega) (by omega) (by omega)) rfl (fun φ46 n46 sl46 hn46 hN46 hs46 hT46 hR46 => ?_)
  obtain ⟨hK46, frn46⟩ := hR46
  refine q_goto rfl ?_
  refine q_iinc (z := 6) (loc2 := [(6, 455, 0), (0, 60, 0), (6, 225, 0), (0, 6, 0), (0, 1, 0)]) (p2 := 49) rfl rfl (by decide) rfl rfl ?_
  refine q_goto rfl ?_
  refine q_load (v := (0, 6, 0)) (p2 := 20) rfl rfl rfl rfl ?_
  refine q_const (p2 := 21) rfl rfl ?_
  refine q_icmp_s (p2 := 22) rfl (by decide) (by omega) (by omega) rfl (fun hb => absurd hb (show ¬ (¬ (6 < 1000000)) by omega)) (fun _ => ?_)
  refine q_load (v := (6, 455, 0)) (p2 := 23) rfl rfl rfl rfl ?_
  refine q_getv (v := (0, 2, 0)) (p2 := 24) rfl (x_KS_455 hK46) (by decide) hK46.1.choose_spec.2.2.2.2.2.2.2.2.2.2.2.1 rfl ?_
  refine q_if0_s (p2 := 25) rfl (by decide) (by omega) rfl (fun hb => absurd hb (show ¬ (¬ (0 < 2)) by omega)) (fun _ => ?_)
  refine q_load (v := (6, 455, 0)) (p2 := 26) rfl rfl rfl rfl ?_
  refine q_getv (v := (0, 0, 0)) (p2 := 27) rfl (x_KS_455 hK46) (by decide) hK46.1.choose_spec.2.2.2.2.2.2.2.2.2.2.2.2.2.2.2.2.2.1 rfl ?_
  refine q_if0_s (p2 := 28) rfl (by decide) (by omega) rfl (fun hb => absurd hb (show ¬ (¬ (0 = 0)) by omega)) (fun _ => ?_)
  refine q_load (v := (6, 455, 0)) (p2 := 29) rfl rfl rfl rfl ?_
  refine x_n_lt (fun hlt48 => ?_)
  have hm47 := (x_PS_at hm44 (fun j hj hne => by have hj2 := x_some_lt hlt45 hne; exact (frn46 j (by omega))))
  refine q_callrE (xs := [(6, 455, 0)]) (p2 := 30) rfl rfl rfl rfl (x_rcv_s 455 (x_KS_455 hK46)) rfl (k_fetchw hc34 hm47.1.choose_spec hK46 (by omega)) (Nat.le_refl _) (Nat.le_refl _) rfl (fun φ49 hR49 => ?_)
  obtain ⟨hK49, frn49⟩ := hR49
  refine q_store (loc2 := [(6, 455, 0), (0, 60, 0), (6, 225, 0), (0, 6, 0), (0, 1, 0)]) (p2 := 31) rfl rfl rfl rfl rfl ?_
  refine q_load (v := (0, 1, 0)) (p2 := 32) rfl rfl rfl rfl ?_
  refine q_const (p2 := 33) rfl rfl ?_
  refine q_icmp_s (p2 := 34) rfl (by decide) (by omega) (by omega) rfl (fun hb => absurd hb (show ¬ (10 < 1) by omega)) (fun _ => ?_)
  refine q_load (v := (6, 455, 0)) (p2 := 35) rfl rfl rfl rfl ?_
  refine q_load (v := (0, 1, 0)) (p2 := 36) rfl rfl rfl rfl ?_
  refine x_n_lt (fun hlt51 => ?_)
  have hm50 := (x_PS_at hm47 (fun j hj hne => by have hj2 := x_some_lt hlt48 hne; exact (frn49 j (by omega))))
  refine q_callvB (xs := [(0, 1, 0), (6, 455, 0)]) (p2 := 37) rfl rfl rfl rfl (x_rcv_s 455 (x_KS_455 hK49)) rfl (k_plain_1w hc35 hm50.1.choose_spec hK49 (by omega) (by omega) (by omega) (by omega)) rfl (fun φ52 n52 sl52 hn52 hN52 hs52 hT52 hR52 => ?_)
  obtain ⟨hK52, frn52⟩ := hR52
  refine q_goto rfl ?_
  refine q_iinc (z := 7) (loc2 := [(6, 455, 0), (0, 60, 0), (6, 225, 0), (0, 7, 0), (0, 1, 0)]) (p2 := 49) rfl rfl (by decide) rfl rfl ?_
  refine q_goto rfl ?_
  refine q_load (v := (0, 7, 0)) (p2 := 20) rfl rfl rfl rfl ?_
  refine q_const (p2 := 21) rfl rfl ?_
  refine q_icmp_s (p2 := 22) rfl (by decide) (by omega) (by omega) rfl (fun hb => absurd hb (show ¬ (¬ (7 < 1000000)) by omega)) (fun _ => ?_)
  refine q_load (v := (6, 455, 0)) (p2 := 23) rfl rfl rfl rfl ?_
  refine q_getv (v := (0, 2, 0)) (p2 := 24) rfl (x_KS_455 hK52) (by decide) hK52.1.choose_spec.2.2.2.2.2.2.2.2.2.2.2.1 rfl ?_
  refine q_if0_s (p2 := 25) rfl (by decide) (by omega) rfl (fun hb => absurd hb (show ¬ (¬ (0 < 2)) by omega)) (fun _ => ?_)
  refine q_load (v := (6, 455, 0)) (p2 := 26) rfl rfl rfl rfl ?_
  refine q_getv (v := (0, 0, 0)) (p2 := 27) rfl (x_KS_455 hK52) (by decide) hK52.1.choose_spec.2.2.2.2.2.2.2.2.2.2.2.2.2.2.2.2.2.1 rfl ?_
  refine q_if0_s (p2 := 28) rfl (by decide) (by omega) rfl (fun hb => absurd hb (show ¬ (¬ (0 = 0)) by omega)) (fun _ => ?_)
  refine q_load (v := (6, 455, 0)) (p2 := 29) rfl rfl rfl rfl ?_
  refine x_n_lt (fun hlt54 => ?_)
  have hm53 := (x_PS_at hm50 (fun j hj hne => by have hj2 := x_some_lt hlt51 hne; exact (frn52 j (by omega))))
  refine q_callrE (xs := [(6, 455, 0)]) (p2 := 30) rfl rfl rfl rfl (x_rcv_s 455 (x_KS_455 hK52)) rfl (k_fetchw hc36 hm53.1.choose_spec hK52 (by omega)) (Nat.le_refl _) (Nat.le_refl _) rfl (fun φ55 hR55 => ?_)
  obtain ⟨hK55, frn55⟩ := hR55
  refine q_store (loc2 := [(6, 455, 0), (0, 60, 0), (6, 225, 0), (0, 7, 0), (0, 10, 0)]) (p2 := 31) rfl rfl rfl rfl rfl ?_
  refine q_load (v := (0, 10, 0)) (p2 := 32) rfl rfl rfl rfl ?_
  refine q_const (p2 := 33) rfl rfl ?_
  refine q_icmp_s (p2 := 34) rfl (by decide) (by omega) (by omega) rfl (fun hb => absurd hb (show ¬ (10 < 10) by omega)) (fun _ => ?_)
  refine q_load (v := (6, 455, 0)) (p2 := 35) rfl rfl rfl rfl ?_
  refine q_load (v := (0, 10, 0)) (p2 := 36) rfl rfl rfl rfl ?_
  refine x_n_lt (fun hlt57 => ?_)
  have hm56 := (x_PS_at hm53 (fun j hj hne => by have hj2 := x_some_lt hlt54 hne; exact (frn55 j (by omega))))
  have hv58 := x_mv_at hv31 (fun j hj hne => by have hj2 := x_some_lt hlt32 hne; exact ((frn55 j (by omega)).trans ((frn52 j (by omega)).trans ((frn49 j (by omega)).trans ((frn46 j (by omega)).trans ((frn43 j (by omega)).trans ((frn40 j (by omega)).trans ((frn37 j (by omega)).trans (frn34 j (by omega))))))))))
  refine q_callvB (xs := [(0, 10, 0), (6, 455, 0)]) (p2 := 37) rfl rfl rfl rfl (x_rcv_s 455 (x_KS_455 hK55)) rfl (k_plain_10w (fr := 1) hc37 hm56.1.choose_spec hK55 (by omega) (by omega) hv58 (by omega) (by omega)) rfl (fun φ59 n59 sl59 hn59 hN59 hs59 hT59 hR59 => ?_)
  obtain ⟨hK59, frn59⟩ := hR59
  refine q_goto rfl ?_
  refine q_iinc (z := 8) (loc2 := [(6, 455, 0), (0, 60, 0), (6, 225, 0), (0, 8, 0), (0, 10, 0)]) (p2 := 49) rfl rfl (by decide) rfl rfl ?_
  refine q_goto rfl ?_
  refine q_load (v := (0, 8, 0)) (p2 := 20) rfl rfl rfl rfl ?_
  refine q_const (p2 := 21) rfl rfl ?_
  refine q_icmp_s (p2 := 22) rfl (by decide) (by omega) (by omega) rfl (fun hb => absurd hb (show ¬ (¬ (8 < 1000000)) by omega)) (fun _ => ?_)
  refine q_load (v := (6, 455, 0)) (p2 := 23) rfl rfl rfl rfl ?_
  refine q_getv (v := (0, 2, 0)) (p2 := 24) rfl (x_KS_455 hK59) (by decide) hK59.1.choose_spec.2.2.2.2.2.2.2.2.2.2.2.1 rfl ?_
  refine q_if0_s (p2 := 25) rfl (by decide) (by omega) rfl (fun hb => absurd hb (show ¬ (¬ (0 < 2)) by omega)) (fun _ => ?_)
  refine q_load (v := (6, 455, 0)) (p2 := 26) rfl rfl rfl rfl ?_
  refine q_getv (v := (0, 0, 0)) (p2 := 27) rfl (x_KS_455 hK59) (by decide) hK59.1.choose_spec.2.2.2.2.2.2.2.2.2.2.2.2.2.2.2.2.2.1 rfl ?_
  refine q_if0_s (p2 := 28) rfl (by decide) (by omega) rfl (fun hb => absurd hb (show ¬ (¬ (0 = 0)) by omega)) (fun _ => ?_)
  refine q_load (v := (6, 455, 0)) (p2 := 29) rfl rfl rfl rfl ?_
  refine x_n_lt (fun hlt61 => ?_)
  have hm60 := (x_PS_at hm56 (fun j hj hne => by have hj2 := x_some_lt hlt57 hne; exact (frn59 j (by omega))))
  refine q_callrE (xs := [(6, 455, 0)]) (p2 := 30) rfl rfl rfl rfl (x_rcv_s 455 (x_KS_455 hK59)) rfl (k_fetchw hc38 hm60.1.choose_spec hK59 (by omega)) (Nat.le_refl _) (Nat.le_refl _) rfl (fun φ62 hR62 => ?_)
  obtain ⟨hK62, frn62⟩ := hR62
  refine q_store (loc2 := [(6, 455, 0), (0, 60, 0), (6, 225, 0), (0, 8, 0), (0, 11, 0)]) (p2 := 31) rfl rfl rfl rfl rfl ?_
  refine q_load (v := (0, 11, 0)) (p2 := 32) rfl rfl rfl rfl ?_
  refine q_const (p2 := 33) rfl rfl ?_
  refine q_icmp_s (p2 := 34) rfl (by decide) (by omega) (by omega) rfl (fun _ => ?_) (fun hb => absurd (show 10 < 11 by omega) hb)
  refine q_load (v := (0, 11, 0)) (p2 := 39) rfl rfl rfl rfl ?_
  refine q_const (p2 := 40) rfl rfl ?_
  refine q_icmp_s (p2 := 41) rfl (by decide) (by omega) (by omega) rfl (fun hb => absurd hb (show ¬ (19 < 11) by omega)) (fun _ => ?_)
  refine q_load (v := (6, 455, 0)) (p2 := 42) rfl rfl rfl rfl ?_
  refine q_load (v := (0, 11, 0)) (p2 := 43) rfl rfl rfl rfl ?_
  refine x_n_lt (fun hlt64 => ?_)
  have hm63 := (x_PS_at hm60 (fun j hj hne => by have hj2 := x_some_lt hlt61 hne; exact (frn62 j (by omega))))
  have hv65 := x_mv_at hv58 (fun j hj hne => by have hj2 := x_some_lt hlt57 hne; exact ((frn62 j (by omega)).trans (frn59 j (by omega))))
  refine q_callvB (xs := [(0, 11, 0), (6, 455, 0)]) (p2 := 44) rfl rfl rfl rfl (x_rcv_s 455 (x_KS_455 hK62)) rfl (k_op_11_0 hm63.1.choose_spec hK62 (by omega) (by omega) hm63.2.1 (x_PS_H hm63) (x_PS_M hm63) (x_PS_N hm63) hv65 hc39) rfl (fun φ66 n66 sl66 hn66 hN66 hs66 hT66 hR66 => ?_)
  obtain ⟨v66, hK66, hV66, frn66⟩ := hR66
  rw [if_pos ⟨rfl, hisA⟩] at hV66
  rw [hk] at hV66
  refine x_n_lt (fun hlt67 => ?_)
  have hz68 := x_mv_lt hV66 hlt67
  have hy68 := hV66.1
  refine q_goto rfl ?_
  refine q_iinc (z := 9) (loc2 := [(6, 455, 0), (0, 60, 0), (6, 225, 0), (0, 9, 0), (0, 11, 0)]) (p2 := 49) rfl rfl (by decide) rfl rfl ?_
  refine q_goto rfl ?_
  refine q_load (v := (0, 9, 0)) (p2 := 20) rfl rfl rfl rfl ?_
  refine q_const (p2 := 21) rfl rfl ?_
  refine q_icmp_s (p2 := 22) rfl (by decide) (by omega) (by omega) rfl (fun hb => absurd hb (show ¬ (¬ (9 < 1000000)) by omega)) (fun _ => ?_)
  refine q_load (v := (6, 455, 0)) (p2 := 23) rfl rfl rfl rfl ?_
  refine q_getv (v := (0, 2, 0)) (p2 := 24) rfl (x_KS_455 hK66) (by decide) hK66.1.choose_spec.2.2.2.2.2.2.2.2.2.2.2.1 rfl ?_
  refine q_if0_s (p2 := 25) rfl (by decide) (by omega) rfl (fun hb => absurd hb (show ¬ (¬ (0 < 2)) by omega)) (fun _ => ?_)
  refine q_load (v := (6, 455, 0)) (p2 := 26) rfl rfl rfl rfl ?_
  refine q_getv (v := (0, 0, 0)) (p2 := 27) rfl (x_KS_455 hK66) (by decide) hK66.1.choose_spec.2.2.2.2.2.2.2.2.2.2.2.2.2.2.2.2.2.1 rfl ?_
  refine q_if0_s (p2 := 28) rfl (by decide) (by omega) rfl (fun hb => absurd hb (show ¬ (¬ (0 = 0)) by omega)) (fun _ => ?_)
  refine q_load (v := (6, 455, 0)) (p2 := 29) rfl rfl rfl rfl ?_
  have hm69 := (x_PS_at hm63 (fun j hj hne => by have hj2 := x_some_lt hlt64 hne; exact (frn66 j (by omega))))
  refine q_callrE (xs := [(6, 455, 0)]) (p2 := 30) rfl rfl rfl rfl (x_rcv_s 455 (x_KS_455 hK66)) rfl (k_fetchw hc40 hm69.1.choose_spec hK66 (by omega)) (Nat.le_refl _) (Nat.le_refl _) rfl (fun φ70 hR70 => ?_)
  obtain ⟨hK70, frn70⟩ := hR70
  refine q_store (loc2 := [(6, 455, 0), (0, 60, 0), (6, 225, 0), (0, 9, 0), (0, 19, 0)]) (p2 := 31) rfl rfl rfl rfl rfl ?_
  refine q_load (v := (0, 19, 0)) (p2 := 32) rfl rfl rfl rfl ?_
  refine q_const (p2 := 33) rfl rfl ?_
  refine q_icmp_s (p2 := 34) rfl (by decide) (by omega) (by omega) rfl (fun _ => ?_) (fun hb => absurd (show 10 < 19 by omega) hb)
  refine q_load (v := (0, 19, 0)) (p2 := 39) rfl rfl rfl rfl ?_
  refine q_const (p2 := 40) rfl rfl ?_
  refine q_icmp_s (p2 := 41) rfl (by decide) (by omega) (by omega) rfl (fun hb => absurd hb (show ¬ (19 < 19) by omega)) (fun _ => ?_)
  refine q_load (v := (6, 455, 0)) (p2 := 42) rfl rfl rfl rfl ?_
  refine q_load (v := (0, 19, 0)) (p2 := 43) rfl rfl rfl rfl ?_
  refine x_n_lt (fun hlt72 => ?_)
  have hm71 := (x_PS_at hm69 (fun j hj hne => by have hj2 := x_some_lt hlt67 hne; exact (frn70 j (by omega))))
  have hv73 := x_mv_at hV66 (fun j hj hne => by have hj2 := x_some_lt hlt67 hne; exact (frn70 j (by omega)))
  refine q_callvB (xs := [(0, 19, 0), (6, 455, 0)]) (p2 := 44) rfl rfl rfl rfl (x_rcv_s 455 (x_KS_455 hK70)) rfl (k_op_19_8 hm71.1.choose_spec hK70 (by omega) (by omega) hv73 hc41 (by omega)) rfl (fun φ74 n74 sl74 hn74 hN74 hs74 hT74 hR74 => ?_)
  obtain ⟨v74, hK74, hV74, frn74⟩ := hR74
  rw [if_pos rfl] at hV74
  refine x_n_lt (fun hlt75 => ?_)
  have hz76 := x_mv_lt hV74 hlt75
  have hy76 := hV74.1
  refine q_goto rfl ?_
  refine q_iinc (z := 10) (loc2 := [(6, 455, 0), (0, 60, 0), (6, 225, 0), (0, 10, 0), (0, 19, 0)]) (p2 := 49) rfl rfl (by decide) rfl rfl ?_
  refine q_goto rfl ?_
  refine q_load (v := (0, 10, 0)) (p2 := 20) rfl rfl rfl rfl ?_
  refine q_const (p2 := 21) rfl rfl ?_
  refine q_icmp_s (p2 := 22) rfl (by decide) (by omega) (by omega) rfl (fun hb => absurd hb (show ¬ (¬ (10 < 1000000)) by omega)) (fun _ => ?_)
  refine q_load (v := (6, 455, 0)) (p2 := 23) rfl rfl rfl rfl ?_
  refine q_getv (v := (0, 2, 0)) (p2 := 24) rfl (x_KS_455 hK74) (by decide) hK74.1.choose_spec.2.2.2.2.2.2.2.2.2.2.2.1 rfl ?_
  refine q_if0_s (p2 := 25) rfl (by decide) (by omega) rfl (fun hb => absurd hb (show ¬ (¬ (0 < 2)) by omega)) (fun _ => ?_)
  refine q_load (v := (6, 455, 0)) (p2 := 26) rfl rfl rfl rfl ?_
  refine q_getv (v := (0, 0, 0)) (p2 := 27) rfl (x_KS_455 hK74) (by decide) hK74.1.choose_spec.2.2.2.2.2.2.2.2.2.2.2.2.2.2.2.2.2.1 rfl ?_
  refine q_if0_s (p2 := 28) rfl (by decide) (by omega) rfl (fun hb => absurd hb (show ¬ (¬ (0 = 0)) by omega)) (fun _ => ?_)
  refine q_load (v := (6, 455, 0)) (p2 := 29) rfl rfl rfl rfl ?_
  have hm77 := (x_PS_at hm71 (fun j hj hne => by have hj2 := x_some_lt hlt72 hne; exact (frn74 j (by omega) (by omega))))
  refine q_callrE (xs := [(6, 455, 0)]) (p2 := 30) rfl rfl rfl rfl (x_rcv_s 455 (x_KS_455 hK74)) rfl (k_fetchw hc42 hm77.1.choose_spec hK74 (by omega)) (Nat.le_refl _) (Nat.le_refl _) rfl (fun φ78 hR78 => ?_)
  obtain ⟨hK78, frn78⟩ := hR78
  refine q_store (loc2 := [(6, 455, 0), (0, 60, 0), (6, 225, 0), (0, 10, 0), (0, 27, 0)]) (p2 := 31) rfl rfl rfl rfl rfl ?_
  refine q_load (v := (0, 27, 0)) (p2 := 32) rfl rfl rfl rfl ?_
  refine q_const (p2 := 33) rfl rfl ?_
  refine q_icmp_s (p2 := 34) rfl (by decide) (by omega) (by omega) rfl (fun _ => ?_) (fun hb => absurd (show 10 < 27 by omega) hb)
  refine q_load (v := (0, 27, 0)) (p2 := 39) rfl rfl rfl rfl ?_
  refine q_const (p2 := 40) rfl rfl ?_
  refine q_icmp_s (p2 := 41) rfl (by decide) (by omega) (by omega) rfl (fun _ => ?_) (fun hb => absurd (show 19 < 27 by omega) hb)
  refine q_load (v := (6, 455, 0)) (p2 := 46) rfl rfl rfl rfl ?_
  refine q_load (v := (0, 27, 0)) (p2 := 47) rfl rfl rfl rfl ?_
  refine x_n_lt (fun hlt80 => ?_)
  have hm79 := (x_PS_at hm77 (fun j hj hne => by have hj2 := x_some_lt hlt75 hne; exact (frn78 j (by omega))))
  have hv81 := x_mv_at hV74 (fun j hj hne => by have hj2 := x_some_lt hlt75 hne; exact (frn78 j (by omega)))
  refine q_callvB (xs := [(0, 27, 0), (6, 455, 0)]) (p2 := 48) rfl rfl rfl rfl (x_rcv_s 455 (x_KS_455 hK78)) rfl (k_lead_27w (top := 0) hc43 hm79.1.choose_spec hK78 (by omega) (by omega) hv81 (by omega)) rfl (fun φ82 n82 sl82 hn82 hN82 hs82 hT82 hR82 => ?_)
  obtain ⟨hK82, frn82⟩ := hR82
  refine q_iinc (z := 11) (loc2 := [(6, 455, 0), (0, 60, 0), (6, 225, 0), (0, 11, 0), (0, 27, 0)]) (p2 := 49) rfl rfl (by decide) rfl rfl ?_
  refine q_goto rfl ?_
  refine q_load (v := (0, 11, 0)) (p2 := 20) rfl rfl rfl rfl ?_
  refine q_const (p2 := 21) rfl rfl ?_
  refine q_icmp_s (p2 := 22) rfl (by decide) (by omega) (by omega) rfl (fun hb => absurd hb (show ¬ (¬ (11 < 1000000)) by omega)) (fun _ => ?_)
  refine q_load (v := (6, 455, 0)) (p2 := 23) rfl rfl rfl rfl ?_
  refine q_getv (v := (0, 2, 0)) (p2 := 24) rfl (x_KS_455 hK82) (by decide) hK82.1.choose_spec.2.2.2.2.2.2.2.2.2.2.2.1 rfl ?_
  refine q_if0_s (p2 := 25) rfl (by decide) (by omega) rfl (fun hb => absurd hb (show ¬ (¬ (0 < 2)) by omega)) (fun _ => ?_)
  refine q_load (v := (6, 455, 0)) (p2 := 26) rfl rfl rfl rfl ?_
  refine q_getv (v := (0, 0, 0)) (p2 := 27) rfl (x_KS_455 hK82) (by decide) hK82.1.choose_spec.2.2.2.2.2.2.2.2.2.2.2.2.2.2.2.2.2.1 rfl ?_
  refine q_if0_s (p2 := 28) rfl (by decide) (by omega) rfl (fun hb => absurd hb (show ¬ (¬ (0 = 0)) by omega)) (fun _ => ?_)
  refine q_load (v := (6, 455, 0)) (p2 := 29) rfl rfl rfl rfl ?_
  refine x_n_lt (fun hlt84 => ?_)
  have hm83 := (x_PS_at hm79 (fun j hj hne => by have hj2 := x_some_lt hlt80 hne; exact (frn82 j (by omega))))
  refine q_callrE (xs := [(6, 455, 0)]) (p2 := 30) rfl rfl rfl rfl (x_rcv_s 455 (x_KS_455 hK82)) rfl (k_fetchw hc59 hm83.1.choose_spec hK82 (by omega)) (Nat.le_refl _) (Nat.le_refl _) rfl (fun φ85 hR85 => ?_)
  obtain ⟨hK85, frn85⟩ := hR85
  refine q_store (loc2 := [(6, 455, 0), (0, 60, 0), (6, 225, 0), (0, 11, 0), (0, 32, 0)]) (p2 := 31) rfl rfl rfl rfl rfl ?_
  refine q_load (v := (0, 32, 0)) (p2 := 32) rfl rfl rfl rfl ?_
  refine q_const (p2 := 33) rfl rfl ?_
  refine q_icmp_s (p2 := 34) rfl (by decide) (by omega) (by omega) rfl (fun _ => ?_) (fun hb => absurd (show 10 < 32 by omega) hb)
  refine q_load (v := (0, 32, 0)) (p2 := 39) rfl rfl rfl rfl ?_
  refine q_const (p2 := 40) rfl rfl ?_
  refine q_icmp_s (p2 := 41) rfl (by decide) (by omega) (by omega) rfl (fun _ => ?_) (fun hb => absurd (show 19 < 32 by omega) hb)
  refine q_load (v := (6, 455, 0)) (p2 := 46) rfl rfl rfl rfl ?_
  refine q_load (v := (0, 32, 0)) (p2 := 47) rfl rfl rfl rfl ?_
  refine x_n_lt (fun hlt87 => ?_)
  have hm86 := (x_PS_at hm83 (fun j hj hne => by have hj2 := x_some_lt hlt84 hne; exact (frn85 j (by omega))))
  refine q_callvB (xs := [(0, 32, 0), (6, 455, 0)]) (p2 := 48) rfl rfl rfl rfl (x_rcv_s 455 (x_KS_455 hK85)) rfl (k_lead_32 (fr := 1) hm86.1.choose_spec hK85 (by omega) (by omega) (x_PS_N hm86) (by omega) (by show (0 : Nat) < 4096; decide)) rfl (fun φ88 n88 sl88 hn88 hN88 hs88 hT88 hR88 => ?_)
  obtain ⟨hK88, frn88⟩ := hR88
  refine q_iinc (z := 12) (loc2 := [(6, 455, 0), (0, 60, 0), (6, 225, 0), (0, 12, 0), (0, 32, 0)]) (p2 := 49) rfl rfl (by decide) rfl rfl ?_
  refine q_goto rfl ?_
  refine q_load (v := (0, 12, 0)) (p2 := 20) rfl rfl rfl rfl ?_
  refine q_const (p2 := 21) rfl rfl ?_
  refine q_icmp_s (p2 := 22) rfl (by decide) (by omega) (by omega) rfl (fun hb => absurd hb (show ¬ (¬ (12 < 1000000)) by omega)) (fun _ => ?_)
  refine q_load (v := (6, 455, 0)) (p2 := 23) rfl rfl rfl rfl ?_
  refine q_getv (v := (0, 1, 0)) (p2 := 24) rfl (x_KS_455 hK88) (by decide) hK88.1.choose_spec.2.2.2.2.2.2.2.2.2.2.2.1 rfl ?_
  refine q_if0_s (p2 := 25) rfl (by decide) (by omega) rfl (fun hb => absurd hb (show ¬ (¬ (0 < 1)) by omega)) (fun _ => ?_)
  refine q_load (v := (6, 455, 0)) (p2 := 26) rfl rfl rfl rfl ?_
  refine q_getv (v := (0, 0, 0)) (p2 := 27) rfl (x_KS_455 hK88) (by decide) hK88.1.choose_spec.2.2.2.2.2.2.2.2.2.2.2.2.2.2.2.2.2.1 rfl ?_
  refine q_if0_s (p2 := 28) rfl (by decide) (by omega) rfl (fun hb => absurd hb (show ¬ (¬ (0 = 0)) by omega)) (fun _ => ?_)
  refine q_load (v := (6, 455, 0)) (p2 := 29) rfl rfl rfl rfl ?_
  refine x_n_lt (fun hlt90 => ?_)
  have hm89 := (x_PS_at hm86 (fun j hj hne => by have hj2 := x_some_lt hlt87 hne; exact (frn88 j (by omega))))
  refine q_callrE (xs := [(6, 455, 0)]) (p2 := 30) rfl rfl rfl rfl (x_rcv_s 455 (x_KS_455 hK88)) rfl (k_fetchw hc68 hm89.1.choose_spec hK88 (by omega)) (Nat.le_refl _) (Nat.le_refl _) rfl (fun φ91 hR91 => ?_)
  obtain ⟨hK91, frn91⟩ := hR91
  refine q_store (loc2 := [(6, 455, 0), (0, 60, 0), (6, 225, 0), (0, 12, 0), (0, 31, 0)]) (p2 := 31) rfl rfl rfl rfl rfl ?_
  refine q_load (v := (0, 31, 0)) (p2 := 32) rfl rfl rfl rfl ?_
  refine q_const (p2 := 33) rfl rfl ?_
  refine q_icmp_s (p2 := 34) rfl (by decide) (by omega) (by omega) rfl (fun _ => ?_) (fun hb => absurd (show 10 < 31 by omega) hb)
  refine q_load (v := (0, 31, 0)) (p2 := 39) rfl rfl rfl rfl ?_
  refine q_const (p2 := 40) rfl rfl ?_
  refine q_icmp_s (p2 := 41) rfl (by decide) (by omega) (by omega) rfl (fun _ => ?_) (fun hb => absurd (show 19 < 31 by omega) hb)
  refine q_load (v := (6, 455, 0)) (p2 := 46) rfl rfl rfl rfl ?_
  refine q_load (v := (0, 31, 0)) (p2 := 47) rfl rfl rfl rfl ?_
  refine x_n_lt (fun hlt93 => ?_)
  have hm92 := (x_PS_at hm89 (fun j hj hne => by have hj2 := x_some_lt hlt90 hne; exact (frn91 j (by omega))))
  have hv94 := x_mv_at hv7 (fun j hj hne => by have hj2 := x_some_lt hlt6 hne; exact ((frn91 j (by omega)).trans ((frn88 j (by omega)).trans ((frn85 j (by omega)).trans ((frn82 j (by omega)).trans ((frn78 j (by omega)).trans ((frn74 j (by omega) (by omega)).trans ((frn70 j (by omega)).trans ((frn66 j (by omega)).trans ((frn62 j (by omega)).trans ((frn59 j (by omega)).trans ((frn55 j (by omega)).trans ((frn52 j (by omega)).trans ((frn49 j (by omega)).trans ((frn46 j (by omega)).trans ((frn43 j (by omega)).trans ((frn40 j (by omega)).trans ((frn37 j (by omega)).trans ((frn34 j (by omega)).trans ((frn30 j (by omega)).trans ((frn26 j (by omega) (by omega)).trans ((frn23 j (by omega)).trans ((frn20 j (by omega)).trans ((frn17 j (by omega)).trans ((frn14 j (by omega)).trans ((frn11 j (by omega)).trans (frn8 j (by omega))))))))))))))))))))))))))))
  refine q_callvB (xs := [(0, 31, 0), (6, 455, 0)]) (p2 := 48) rfl rfl rfl rfl (x_rcv_s 455 (x_KS_455 hK91)) rfl (k_lead_31 (top := 0) (fr := 0) hm92.1.choose_spec hK91 (by omega) (by omega) hv94 (Or.inl rfl) (by omega) (by show (0 : Nat) < 4096; decide)) rfl (fun φ95 n95 sl95 hn95 hN95 hs95 hT95 hR95 => ?_)
  obtain ⟨hK95, frn95⟩ := hR95
  refine q_iinc (z := 13) (loc2 := [(6, 455, 0), (0, 60, 0), (6, 225, 0), (0, 13, 0), (0, 31, 0)]) (p2 := 49) rfl rfl (by decide) rfl rfl ?_
  refine q_goto rfl ?_
  refine q_load (v := (0, 13, 0)) (p2 := 20) rfl rfl rfl rfl ?_
  refine q_const (p2 := 21) rfl rfl ?_
  refine q_icmp_s (p2 := 22) rfl (by decide) (by omega) (by omega) rfl (fun hb => absurd hb (show ¬ (¬ (13 < 1000000)) by omega)) (fun _ => ?_)
  refine q_load (v := (6, 455, 0)) (p2 := 23) rfl rfl rfl rfl ?_
  refine q_getv (v := (0, 0, 0)) (p2 := 24) rfl (x_KS_455 hK95) (by decide) hK95.1.choose_spec.2.2.2.2.2.2.2.2.2.2.2.1 rfl ?_
  refine q_if0_s (p2 := 25) rfl (by decide) (by omega) rfl (fun _ => ?_) (fun hb => absurd (show ¬ (0 < 0) by omega) hb)
  refine q_load (v := (6, 455, 0)) (p2 := 51) rfl rfl rfl rfl ?_
  refine q_getv (v := (0, 0, 0)) (p2 := 52) rfl (x_KS_455 hK95) (by decide) hK95.1.choose_spec.2.2.2.2.2.2.2.2.2.2.2.2.2.2.2.2.2.1 rfl ?_
  refine q_if0_s (p2 := 53) rfl (by decide) (by omega) rfl (fun _ => ?_) (fun hb => absurd (show 0 = 0 by omega) hb)
  refine q_load (v := (6, 455, 0)) (p2 := 57) rfl rfl rfl rfl ?_
  refine q_callrE (xs := [(6, 455, 0)]) (p2 := 58) rfl rfl rfl rfl (x_rcv_s 455 (x_KS_455 hK95)) rfl (k_pop (top := 0) hK95 (by omega)) (Nat.le_refl _) (Nat.le_refl _) rfl (fun φ96 hR96 => ?_)
  obtain ⟨hK96, frn96⟩ := hR96
  refine x_n_lt (fun hlt98 => ?_)
  have hv97 := x_mv_at hv94 (fun j hj hne => by have hj2 := x_some_lt hlt93 hne; exact ((frn96 j (by omega)).trans (frn95 j (by omega))))
  exact q_retv (v := (6, 225, 0)) rfl rfl (⟨rfl, ⟨by omega, by omega⟩, ⟨by omega, by omega⟩, 225, rfl, ⟨_, _, _, _, _, _, _, _, _, _, hK96⟩, hv97, fun j hj1 hj2 => ((frn96 j (by omega)).trans ((frn95 j (by omega)).trans ((frn91 j (by omega)).trans ((frn88 j (by omega)).trans ((frn85 j (by omega)).trans ((frn82 j (by omega)).trans ((frn78 j (by omega)).trans ((frn74 j (by omega) (by omega)).trans ((frn70 j (by omega)).trans ((frn66 j (by omega)).trans ((frn62 j (by omega)).trans ((frn59 j (by omega)).trans ((frn55 j (by omega)).trans ((frn52 j (by omega)).trans ((frn49 j (by omega)).trans ((frn46 j (by omega)).trans ((frn43 j (by omega)).trans ((frn40 j (by omega)).trans ((frn37 j (by omega)).trans ((frn34 j (by omega)).trans ((frn30 j (by omega)).trans ((frn26 j (by omega) (by omega)).trans ((frn23 j (by omega)).trans ((frn20 j (by omega)).trans ((frn17 j (by omega)).trans ((frn14 j (by omega)).trans ((frn11 j (by omega)).trans ((frn8 j (by omega)).trans ((fr4 j (by omega)).trans ((fr3 j (by omega)).trans ((fr2 j (by omega)).trans (fr1 j (by omega)))))))))))))))))))))))))))))))))⟩)
set_option maxHeartbeats 1000000 in
theorem zc_run_call_y1 {d n sl : Nat} {φ : FH} {A : Nat} {B : Nat} {made : Nat} {sv : Nat} {svm : Nat} {s9 : Nat} {comb : Nat → Nat} {hm : Nat → MV} {top : Nat} {fr : Nat} {pc_ : Nat} {mm : Nat} {mi : Nat} {st : Nat → Nat} {lo : Nat → Nat} {re : Nat → Nat} {rs : Nat → Nat} {fl : Nat → Nat} {se : Nat → Nat} {co : Nat → Nat} {w1 kk : Nat} (hPS : x_PS φ A B made sv svm s9 comb hm) (hKS : x_KS φ top fr pc_ mm mi st lo re rs fl se co) (hn0 : 486 ≤ n) (hmi : mi + 30 ≤ 20000) (hc60 : co 60 = 1) (hc61 : co 61 = 1) (hc62 : co 62 = 1) (hc63 : co 63 = 1) (hc64 : co 64 = 7) (hc65 : co 65 = w1) (hc66 : co 66 = 20) (hc67 : co 67 = 0) (hc68 : co 68 = 31) (hc30 : co 30 = 1) (hc31 : co 31 = 1) (hc32 : co 32 = 1) (hc33 : co 33 = 1) (hc34 : co 34 = 1) (hc35 : co 35 = 2) (hc36 : co 36 = 10) (hc37 : co 37 = 0) (hc38 : co 38 = 11) (hc39 : co 39 = 0) (hc40 : co 40 = 19) (hc41 : co 41 = 8) (hc42 : co 42 = 27) (hc43 : co 43 = 59) (hc44 : co 44 = 1) (hc45 : co 45 = 1) (hc46 : co 46 = 1) (hc47 : co 47 = 3) (hc48 : co 48 = 10) (hc49 : co 49 = 0) (hc50 : co 50 = 11) (hc51 : co 51 = 0) (hc52 : co 52 = 1) (hc53 : co 53 = 1) (hc54 : co 54 = 3) (hc55 : co 55 = 1) (hc56 : co 56 = 13) (hc57 : co 57 = 69) (hc58 : co 58 = 31) (hc59 : co 59 = 32) (hw1 : w1 < 512) (h1 : w1 < made ∧ comb w1 ≠ 0) (hisA : x_isA made comb w1 0) (hbit : 1 &&& comb w1 ≠ 0) (hk : hm (w1 * 40 + 0) = (1, kk, 0, 0, [])) (hkk : kk < 1024) : x_f x_P (d + 6) 56 [(6, 455, 0), (0, 60, 0), (6, 225, 0), (11, 0, 0), (11, 0, 0)] φ n sl (x_bR n sl 4 28 (fun zw φ2 => ∃ v, zw = (6, v, 0) ∧ x_KJ φ2 (mi + 11) co ∧ x_mv φ2 v ((1, kk + 1, 0, 0, [])) ∧ ∀ j, j < n → (j < 455 ∨ 466 ≤ j) → φ2 j = φ j)) := by
  refine x_f_of rfl ?_
  refine x_n_lt (fun hlt0 => ?_)
  refine q_load (v := (6, 455, 0)) (p2 := 1) rfl rfl rfl rfl ?_
  refine q_const (p2 := 2) rfl rfl ?_
  refine q_putfE (v := (0, 0, 0)) (p2 := 3) rfl (x_KS_455 hKS) (by decide) rfl rfl (fun φ1 f1 hh1 hg1 ho1 fr1 => ?_)
  have hs1 := x_KS_put_18 hKS hh1 hg1 ho1 fr1
  refine q_load (v := (6, 455, 0)) (p2 := 4) rfl rfl rfl rfl ?_
  refine q_const (p2 := 5) rfl rfl ?_
  refine q_putfE (v := (0, 0, 0)) (p2 := 6) rfl (x_KS_455 hs1) (by decide) rfl rfl (fun φ2 f2 hh2 hg2 ho2 fr2 => ?_)
  have hs2 := x_KS_put_16 hs1 hh2 hg2 ho2 fr2
  refine q_load (v := (6, 455, 0)) (p2 := 7) rfl rfl rfl rfl ?_
  refine q_const (p2 := 8) rfl rfl ?_
  refine q_putfE (v := (0, 0, 0)) (p2 := 9) rfl (x_KS_455 hs2) (by decide) rfl rfl (fun φ3 f3 hh3 hg3 ho3 fr3 => ?_)
  have hs3 := x_KS_put_4 hs2 hh3 hg3 ho3 fr3
  refine q_load (v := (6, 455, 0)) (p2 := 10) rfl rfl rfl rfl ?_
  refine q_const (p2 := 11) rfl rfl ?_
  refine q_putfE (v := (0, 0, 0)) (p2 := 12) rfl (x_KS_455 hs3) (by decide) rfl rfl (fun φ4 f4 hh4 hg4 ho4 fr4 => ?_)
  have hs4 := x_KS_put_10 hs3 hh4 hg4 ho4 fr4
  refine q_load (v := (6, 455, 0)) (p2 := 13) rfl rfl rfl rfl ?_
  refine q_load (v := (0, 60, 0)) (p2 := 14) rfl rfl rfl rfl ?_
  refine q_const (p2 := 15) rfl rfl ?_
  refine q_load (v := (6, 225, 0)) (p2 := 16) rfl rfl rfl rfl ?_
  refine x_n_lt (fun hlt6 => ?_)
  have hm5 := (x_PS_at hPS (fun j hj hne => by have hj2 := x_some_lt hlt0 hne; exact ((fr4 j (by omega)).trans ((fr3 j (by omega)).trans ((fr2 j (by omega)).trans (fr1 j (by omega)))))))
  have hv7 := x_mv_at (x_PS_N hPS) (fun j hj hne => by have hj2 := x_some_lt hlt0 hne; exact ((fr4 j (by omega)).trans ((fr3 j (by omega)).trans ((fr2 j (by omega)).trans (fr1 j (by omega))))))
  refine q_callvE (xs := [(6, 225, 0), (0, 4294967293, 0), (0, 60, 0), (6, 455, 0)]) (p2 := 17) rfl rfl rfl rfl (x_rcv_s 455 (x_KS_455 hs4)) rfl (k_open hs4 (x_PS_N hm5) hv7 (by omega)) (Nat.le_refl _) (Nat.le_refl _) rfl (fun φ8 hR8 => ?_)
  obtain ⟨hK8, frn8⟩ := hR8
  refine q_const (p2 := 18) rfl rfl ?_
  refine q_store (loc2 := [(6, 455, 0), (0, 60, 0), (6, 225, 0), (0, 0, 0), (11, 0, 0)]) (p2 := 19) rfl rfl rfl rfl rfl ?_
  refine q_load (v := (0, 0, 0)) (p2 := 20) rfl rfl rfl rfl ?_
  refine q_const (p2 := 21) rfl rfl ?_
  refine q_icmp_s (p2 := 22) rfl (by decide) (by omega) (by omega) rfl (fun hb => absurd hb (show ¬ (¬ (0 < 1000000)) by omega)) (fun _ => ?_)
  refine q_load (v := (6, 455, 0)) (p2 := 23) rfl rfl rfl rfl ?_
  refine q_getv (v := (0, 1, 0)) (p2 := 24) rfl (x_KS_455 hK8) (by decide) hK8.1.choose_spec.2.2.2.2.2.2.2.2.2.2.2.1 rfl ?_
  refine q_if0_s (p2 := 25) rfl (by decide) (by omega) rfl (fun hb => absurd hb (show ¬ (¬ (0 < 1)) by omega)) (fun _ => ?_)
  refine q_load (v := (6, 455, 0)) (p2 := 26) rfl rfl rfl rfl ?_
  refine q_getv (v := (0, 0, 0)) (p2 := 27) rfl (x_KS_455 hK8) (by decide) hK8.1.choose_spec.2.2.2.2.2.2.2.2.2.2.2.2.2.2.2.2.2.1 rfl ?_
  refine q_if0_s (p2 := 28) rfl (by decide) (by omega) rfl (fun hb => absurd hb (show ¬ (¬ (0 = 0)) by omega)) (fun _ => ?_)
  refine q_load (v := (6, 455, 0)) (p2 := 29) rfl rfl rfl rfl ?_
  refine x_n_lt (fun hlt10 => ?_)
  have hm9 := (x_PS_at hm5 (fun j hj hne => by have hj2 := x_some_lt hlt6 hne; exact (frn8 j (by omega))))
  refine q_callrE (xs := [(6, 455, 0)]) (p2 := 30) rfl rfl rfl rfl (x_rcv_s 455 (x_KS_455 hK8)) rfl (k_fetchw hc60 hm9.1.choose_spec hK8 (by omega)) (Nat.le_refl _) (Nat.le_refl _) rfl (fun φ11 hR11 => ?_)
  obtain ⟨hK11, frn11⟩ := hR11
  refine q_store (loc2 := [(6, 455, 0), (0, 60, 0), (6, 225, 0), (0, 0, 0), (0, 1, 0)]) (p2 := 31) rfl rfl rfl rfl rfl ?_
  refine q_load (v := (0, 1, 0)) (p2 := 32) rfl rfl rfl rfl ?_
  refine q_const (p2 := 33) rfl rfl ?_
  refine q_icmp_s (p2 := 34) rfl (by decide) (by omega) (by omega) rfl (fun hb => absurd hb (show ¬ (10 < 1) by omega)) (fun _ => ?_)
  refine q_load (v := (6, 455, 0)) (p2 := 35) rfl rfl rfl rfl ?_
  refine q_load (v := (0, 1, 0)) (p2 := 36) rfl rfl rfl rfl ?_
  refine x_n_lt (fun hlt13 => ?_)
  have hm12 := (x_PS_at hm9 (fun j hj hne => by have hj2 := x_some_lt hlt10 hne; exact (frn11 j (by omega))))
  refine q_callvB (xs := [(0, 1, 0), (6, 455, 0)]) (p2 := 37) rfl rfl rfl rfl (x_rcv_s 455 (x_KS_455 hK11)) rfl (k_plain_1w hc61 hm12.1.choose_spec hK11 (by omega) (by omega) (by omega) (by omega)) rfl (fun φ14 n14 sl14 hn14 hN14 hs14 hT14 hR14 => ?_)
  obtain ⟨hK14, frn14⟩ := hR14
  refine q_goto rfl ?_
  refine q_iinc (z := 1) (loc2 := [(6, 455, 0), (0, 60, 0), (6, 225, 0), (0, 1, 0), (0, 1, 0)]) (p2 := 49) rfl rfl (by decide) rfl rfl ?_
  refine q_goto rfl ?_
  refine q_load (v := (0, 1, 0)) (p2 := 20) rfl rfl rfl rfl ?_
  refine q_const (p2 := 21) rfl rfl ?_
  refine q_icmp_s (p2 := 22) rfl (by decide) (by omega) (by omega) rfl (fun hb => absurd hb (show ¬ (¬ (1 < 1000000)) by omega)) (fun _ => ?_)
  refine q_load (v := (6, 455, 0)) (p2 := 23) rfl rfl rfl rfl ?_
  refine q_getv (v := (0, 1, 0)) (p2 := 24) rfl (x_KS_455 hK14) (by decide) hK14.1.choose_spec.2.2.2.2.2.2.2.2.2.2.2.1 rfl ?_
  refine q_if0_s (p2 := 25) rfl (by decide) (by omega) rfl (fun hb => absurd hb (show ¬ (¬ (0 < 1)) by omega)) (fun _ => ?_)
  refine q_load (v := (6, 455, 0)) (p2 := 26) rfl rfl rfl rfl ?_
  refine q_getv (v := (0, 0, 0)) (p2 := 27) rfl (x_KS_455 hK14) (by decide) hK14.1.choose_spec.2.2.2.2.2.2.2.2.2.2.2.2.2.2.2.2.2.1 rfl ?_
  refine q_if0_s (p2 := 28) rfl (by decide) (by omega) rfl (fun hb => absurd hb (show ¬ (¬ (0 = 0)) by omega)) (fun _ => ?_)
  refine q_load (v := (6, 455, 0)) (p2 := 29) rfl rfl rfl rfl ?_
  refine x_n_lt (fun hlt16 => ?_)
  have hm15 := (x_PS_at hm12 (fun j hj hne => by have hj2 := x_some_lt hlt13 hne; exact (frn14 j (by omega))))
  refine q_callrE (xs := [(6, 455, 0)]) (p2 := 30) rfl rfl rfl rfl (x_rcv_s 455 (x_KS_455 hK14)) rfl (k_fetchw hc62 hm15.1.choose_spec hK14 (by omega)) (Nat.le_refl _) (Nat.le_refl _) rfl (fun φ17 hR17 => ?_)
  obtain ⟨hK17, frn17⟩ := hR17
  refine q_store (loc2 := [(6, 455, 0), (0, 60, 0), (6, 225, 0), (0, 1, 0), (0, 1, 0)]) (p2 := 31) rfl rfl rfl rfl rfl ?_
  refine q_load (v := (0, 1, 0)) (p2 := 32) rfl rfl rfl rfl ?_
  refine q_const (p2 := 33) rfl rfl ?_
  refine q_icmp_s (p2 := 34) rfl (by decide) (by omega) (by omega) rfl (fun hb => absurd hb (show ¬ (10 < 1) by omega)) (fun _ => ?_)
  refine q_load (v := (6, 455, 0)) (p2 := 35) rfl rfl rfl rfl ?_
  refine q_load (v := (0, 1, 0)) (p2 := 36) rfl rfl rfl rfl ?_
  refine x_n_lt (fun hlt19 => ?_)
  have hm18 := (x_PS_at hm15 (fun j hj hne => by have hj2 := x_some_lt hlt16 hne; exact (frn17 j (by omega))))
  refine q_callvB (xs := [(0, 1, 0), (6, 455, 0)]) (p2 := 37) rfl rfl rfl rfl (x_rcv_s 455 (x_KS_455 hK17)) rfl (k_plain_1w hc63 hm18.1.choose_spec hK17 (by omega) (by omega) (by omega) (by omega)) rfl (fun φ20 n20 sl20 hn20 hN20 hs20 hT20 hR20 => ?_)
  obtain ⟨hK20, frn20⟩ := hR20
  refine q_goto rfl ?_
  refine q_iinc (z := 2) (loc2 := [(6, 455, 0), (0, 60, 0), (6, 225, 0), (0, 2, 0), (0, 1, 0)]) (p2 := 49) rfl rfl (by decide) rfl rfl ?_
  refine q_goto rfl ?_
  refine q_load (v := (0, 2, 0)) (p2 := 20) rfl rfl rfl rfl ?_
  refine q_const (p2 := 21) rfl rfl ?_
  refine q_icmp_s (p2 := 22) rfl (by decide) (by omega) (by omega) rfl (fun hb => absurd hb (show ¬ (¬ (2 < 1000000)) by omega)) (fun _ => ?_)
  refine q_load (v := (6, 455, 0)) (p2 := 23) rfl rfl rfl rfl ?_
  refine q_getv (v := (0, 1, 0)) (p2 := 24) rfl (x_KS_455 hK20) (by decide) hK20.1.choose_spec.2.2.2.2.2.2.2.2.2.2.2.1 rfl ?_
  refine q_if0_s (p2 := 25) rfl (by decide) (by omega) rfl (fun hb => absurd hb (show ¬ (¬ (0 < 1)) by omega)) (fun _ => ?_)
  refine q_load (v := (6, 455, 0)) (p2 := 26) rfl rfl rfl rfl ?_
  refine q_getv (v := (0, 0, 0)) (p2 := 27) rfl (x_KS_455 hK20) (by decide) hK20.1.choose_spec.2.2.2.2.2.2.2.2.2.2.2.2.2.2.2.2.2.1 rfl ?_
  refine q_if0_s (p2 := 28) rfl (by decide) (by omega) rfl (fun hb => absurd hb (show ¬ (¬ (0 = 0)) by omega)) (fun _ => ?_)
  refine q_load (v := (6, 455, 0)) (p2 := 29) rfl rfl rfl rfl ?_
  refine x_n_lt (fun hlt22 => ?_)
  have hm21 := (x_PS_at hm18 (fun j hj hne => by have hj2 := x_some_lt hlt19 hne; exact (frn20 j (by omega))))
  refine q_callrE (xs := [(6, 455, 0)]) (p2 := 30) rfl rfl rfl rfl (x_rcv_s 455 (x_KS_455 hK20)) rfl (k_fetchw hc64 hm21.1.choose_spec hK20 (by omega)) (Nat.le_refl _) (Nat.le_refl _) rfl (fun φ23 hR23 => ?_)
  obtain ⟨hK23, frn23⟩ := hR23
  refine q_store (loc2 := [(6, 455, 0), (0, 60, 0), (6, 225, 0), (0, 2, 0), (0, 7, 0)]) (p2 := 31) rfl rfl rfl rfl rfl ?_
  refine q_load (v := (0, 7, 0)) (p2 := 32) rfl rfl rfl rfl ?_
  refine q_const (p2 := 33) rfl rfl ?_
  refine q_icmp_s (p2 := 34) rfl (by decide) (by omega) (by omega) rfl (fun hb => absurd hb (show ¬ (10 < 7) by omega)) (fun _ => ?_)
  refine q_load (v := (6, 455, 0)) (p2 := 35) rfl rfl rfl rfl ?_
  refine q_load (v := (0, 7, 0)) (p2 := 36) rfl rfl rfl rfl ?_
  refine x_n_lt (fun hlt25 => ?_)
  have hm24 := (x_PS_at hm21 (fun j hj hne => by have hj2 := x_some_lt hlt22 hne; exact (frn23 j (by omega))))
  refine q_callvB (xs := [(0, 7, 0), (6, 455, 0)]) (p2 := 37) rfl rfl rfl rfl (x_rcv_s 455 (x_KS_455 hK23)) rfl (k_plain_7w hc65 hm24.1.choose_spec hK23 (by omega) (by omega) hm24.2.1 (x_PS_N hm24) (by omega) (by omega)) rfl (fun φ26 n26 sl26 hn26 hN26 hs26 hT26 hR26 => ?_)
  obtain ⟨v26, hK26, hV26, frn26⟩ := hR26
  rw [if_pos h1] at hV26
  refine x_n_lt (fun hlt27 => ?_)
  have hz28 := x_mv_lt hV26 hlt27
  have hy28 := hV26.1
  refine q_goto rfl ?_
  refine q_iinc (z := 3) (loc2 := [(6, 455, 0), (0, 60, 0), (6, 225, 0), (0, 3, 0), (0, 7, 0)]) (p2 := 49) rfl rfl (by decide) rfl rfl ?_
  refine q_goto rfl ?_
  refine q_load (v := (0, 3, 0)) (p2 := 20) rfl rfl rfl rfl ?_
  refine q_const (p2 := 21) rfl rfl ?_
  refine q_icmp_s (p2 := 22) rfl (by decide) (by omega) (by omega) rfl (fun hb => absurd hb (show ¬ (¬ (3 < 1000000)) by omega)) (fun _ => ?_)
  refine q_load (v := (6, 455, 0)) (p2 := 23) rfl rfl rfl rfl ?_
  refine q_getv (v := (0, 1, 0)) (p2 := 24) rfl (x_KS_455 hK26) (by decide) hK26.1.choose_spec.2.2.2.2.2.2.2.2.2.2.2.1 rfl ?_
  refine q_if0_s (p2 := 25) rfl (by decide) (by omega) rfl (fun hb => absurd hb (show ¬ (¬ (0 < 1)) by omega)) (fun _ => ?_)
  refine q_load (v := (6, 455, 0)) (p2 := 26) rfl rfl rfl rfl ?_
  refine q_getv (v := (0, 0, 0)) (p2 := 27) rfl (x_KS_455 hK26) (by decide) hK26.1.choose_spec.2.2.2.2.2.2.2.2.2.2.2.2.2.2.2.2.2.1 rfl ?_
  refine q_if0_s (p2 := 28) rfl (by decide) (by omega) rfl (fun hb => absurd hb (show ¬ (¬ (0 = 0)) by omega)) (fun _ => ?_)
  refine q_load (v := (6, 455, 0)) (p2 := 29) rfl rfl rfl rfl ?_
  have hm29 := (x_PS_at hm24 (fun j hj hne => by have hj2 := x_some_lt hlt25 hne; exact (frn26 j (by omega) (by omega))))
  refine q_callrE (xs := [(6, 455, 0)]) (p2 := 30) rfl rfl rfl rfl (x_rcv_s 455 (x_KS_455 hK26)) rfl (k_fetchw hc66 hm29.1.choose_spec hK26 (by omega)) (Nat.le_refl _) (Nat.le_refl _) rfl (fun φ30 hR30 => ?_)
  obtain ⟨hK30, frn30⟩ := hR30
  refine q_store (loc2 := [(6, 455, 0), (0, 60, 0), (6, 225, 0), (0, 3, 0), (0, 20, 0)]) (p2 := 31) rfl rfl rfl rfl rfl ?_
  refine q_load (v := (0, 20, 0)) (p2 := 32) rfl rfl rfl rfl ?_
  refine q_const (p2 := 33) rfl rfl ?_
  refine q_icmp_s (p2 := 34) rfl (by decide) (by omega) (by omega) rfl (fun _ => ?_) (fun hb => absurd (show 10 < 20 by omega) hb)
  refine q_load (v := (0, 20, 0)) (p2 := 39) rfl rfl rfl rfl ?_
  refine q_const (p2 := 40) rfl rfl ?_
  refine q_icmp_s (p2 := 41) rfl (by decide) (by omega) (by omega) rfl (fun _ => ?_) (fun hb => absurd (show 19 < 20 by omega) hb)
  refine q_load (v := (6, 455, 0)) (p2 := 46) rfl rfl rfl rfl ?_
  refine q_load (v := (0, 20, 0)) (p2 := 47) rfl rfl rfl rfl ?_
  refine x_n_lt (fun hlt32 => ?_)
  have hv31 := x_mv_at hV26 (fun j hj hne => by have hj2 := x_some_lt hlt27 hne; exact (frn30 j (by omega)))
  have hm33 := (x_PS_at hm29 (fun j hj hne => by have hj2 := x_some_lt hlt27 hne; exact (frn30 j (by omega))))
  refine q_callvE (xs := [(0, 20, 0), (6, 455, 0)]) (p2 := 48) rfl rfl rfl rfl (x_rcv_s 455 (x_KS_455 hK30)) rfl (zc_klead20_5 hm33 hK30 (by omega) hv31 hc67 (x_s_eq) hbit (by omega) (by omega)) (Nat.le_refl _) (Nat.le_refl _) rfl (fun φ34 hR34 => ?_)
  obtain ⟨hK34, frn34⟩ := hR34
  refine q_iinc (z := 4) (loc2 := [(6, 455, 0), (0, 60, 0), (6, 225, 0), (0, 4, 0), (0, 20, 0)]) (p2 := 49) rfl rfl (by decide) rfl rfl ?_
  refine q_goto rfl ?_
  refine q_load (v := (0, 4, 0)) (p2 := 20) rfl rfl rfl rfl ?_
  refine q_const (p2 := 21) rfl rfl ?_
  refine q_icmp_s (p2 := 22) rfl (by decide) (by omega) (by omega) rfl (fun hb => absurd hb (show ¬ (¬ (4 < 1000000)) by omega)) (fun _ => ?_)
  refine q_load (v := (6, 455, 0)) (p2 := 23) rfl rfl rfl rfl ?_
  refine q_getv (v := (0, 2, 0)) (p2 := 24) rfl (x_KS_455 hK34) (by decide) hK34.1.choose_spec.2.2.2.2.2.2.2.2.2.2.2.1 rfl ?_
  refine q_if0_s (p2 := 25) rfl (by decide) (by omega) rfl (fun hb => absurd hb (show ¬ (¬ (0 < 2)) by omega)) (fun _ => ?_)
  refine q_load (v := (6, 455, 0)) (p2 := 26) rfl rfl rfl rfl ?_
  refine q_getv (v := (0, 0, 0)) (p2 := 27) rfl (x_KS_455 hK34) (by decide) hK34.1.choose_spec.2.2.2.2.2.2.2.2.2.2.2.2.2.2.2.2.2.1 rfl ?_
  refine q_if0_s (p2 := 28) rfl (by decide) (by omega) rfl (fun hb => absurd hb (show ¬ (¬ (0 = 0)) by omega)) (fun _ => ?_)
  refine q_load (v := (6, 455, 0)) (p2 := 29) rfl rfl rfl rfl ?_
  refine x_n_lt (fun hlt36 => ?_)
  have hm35 := (x_PS_at hm33 (fun j hj hne => by have hj2 := x_some_lt hlt32 hne; exact (frn34 j (by omega))))
  refine q_callrE (xs := [(6, 455, 0)]) (p2 := 30) rfl rfl rfl rfl (x_rcv_s 455 (x_KS_455 hK34)) rfl (k_fetchw hc30 hm35.1.choose_spec hK34 (by omega)) (Nat.le_refl _) (Nat.le_refl _) rfl (fun φ37 hR37 => ?_)
  obtain ⟨hK37, frn37⟩ := hR37
  refine q_store (loc2 := [(6, 455, 0), (0, 60, 0), (6, 225, 0), (0, 4, 0), (0, 1, 0)]) (p2 := 31) rfl rfl rfl rfl rfl ?_
  refine q_load (v := (0, 1, 0)) (p2 := 32) rfl rfl rfl rfl ?_
  refine q_const (p2 := 33) rfl rfl ?_
  refine q_icmp_s (p2 := 34) rfl (by decide) (by omega) (by omega) rfl (fun hb => absurd hb (show ¬ (10 < 1) by omega)) (fun _ => ?_)
  refine q_load (v := (6, 455, 0)) (p2 := 35) rfl rfl rfl rfl ?_
  refine q_load (v := (0, 1, 0)) (p2 := 36) rfl rfl rfl rfl ?_
  refine x_n_lt (fun hlt39 => ?_)
  have hm38 := (x_PS_at hm35 (fun j hj hne => by have hj2 := x_some_lt hlt36 hne; exact (frn37 j (by omega))))
  refine q_callvB (xs := [(0, 1, 0), (6, 455, 0)]) (p2 := 37) rfl rfl rfl rfl (x_rcv_s 455 (x_KS_455 hK37)) rfl (k_plain_1w hc31 hm38.1.choose_spec hK37 (by omega) (by omega) (by omega) (by omega)) rfl (fun φ40 n40 sl40 hn40 hN40 hs40 hT40 hR40 => ?_)
  obtain ⟨hK40, frn40⟩ := hR40
  refine q_goto rfl ?_
  refine q_iinc (z := 5) (loc2 := [(6, 455, 0), (0, 60, 0), (6, 225, 0), (0, 5, 0), (0, 1, 0)]) (p2 := 49) rfl rfl (by decide) rfl rfl ?_
  refine q_goto rfl ?_
  refine q_load (v := (0, 5, 0)) (p2 := 20) rfl rfl rfl rfl ?_
  refine q_const (p2 := 21) rfl rfl ?_
  refine q_icmp_s (p2 := 22) rfl (by decide) (by omega) (by omega) rfl (fun hb => absurd hb (show ¬ (¬ (5 < 1000000)) by omega)) (fun _ => ?_)
  refine q_load (v := (6, 455, 0)) (p2 := 23) rfl rfl rfl rfl ?_
  refine q_getv (v := (0, 2, 0)) (p2 := 24) rfl (x_KS_455 hK40) (by decide) hK40.1.choose_spec.2.2.2.2.2.2.2.2.2.2.2.1 rfl ?_
  refine q_if0_s (p2 := 25) rfl (by decide) (by omega) rfl (fun hb => absurd hb (show ¬ (¬ (0 < 2)) by omega)) (fun _ => ?_)
  refine q_load (v := (6, 455, 0)) (p2 := 26) rfl rfl rfl rfl ?_
  refine q_getv (v := (0, 0, 0)) (p2 := 27) rfl (x_KS_455 hK40) (by decide) hK40.1.choose_spec.2.2.2.2.2.2.2.2.2.2.2.2.2.2.2.2.2.1 rfl ?_
  refine q_if0_s (p2 := 28) rfl (by decide) (by omega) rfl (fun hb => absurd hb (show ¬ (¬ (0 = 0)) by omega)) (fun _ => ?_)
  refine q_load (v := (6, 455, 0)) (p2 := 29) rfl rfl rfl rfl ?_
  refine x_n_lt (fun hlt42 => ?_)
  have hm41 := (x_PS_at hm38 (fun j hj hne => by have hj2 := x_some_lt hlt39 hne; exact (frn40 j (by omega))))
  refine q_callrE (xs := [(6, 455, 0)]) (p2 := 30) rfl rfl rfl rfl (x_rcv_s 455 (x_KS_455 hK40)) rfl (k_fetchw hc32 hm41.1.choose_spec hK40 (by omega)) (Nat.le_refl _) (Nat.le_refl _) rfl (fun φ43 hR43 => ?_)
  obtain ⟨hK43, frn43⟩ := hR43
  refine q_store (loc2 := [(6, 455, 0), (0, 60, 0), (6, 225, 0), (0, 5, 0), (0, 1, 0)]) (p2 := 31) rfl rfl rfl rfl rfl ?_
  refine q_load (v := (0, 1, 0)) (p2 := 32) rfl rfl rfl rfl ?_
  refine q_const (p2 := 33) rfl rfl ?_
  refine q_icmp_s (p2 := 34) rfl (by decide) (by omega) (by omega) rfl (fun hb => absurd hb (show ¬ (10 < 1) by omega)) (fun _ => ?_)
  refine q_load (v := (6, 455, 0)) (p2 := 35) rfl rfl rfl rfl ?_
  refine q_load (v := (0, 1, 0)) (p2 := 36) rfl rfl rfl rfl ?_
  refine x_n_lt (fun hlt45 => ?_)
  have hm44 := (x_PS_at hm41 (fun j hj hne => by have hj2 := x_some_lt hlt42 hne; exact (frn43 j (by omega))))
  refine q_callvB (xs := [(0, 1, 0), (6, 455, 0)]) (p2 := 37) rfl rfl rfl rfl (x_rcv_s 455 (x_KS_455 hK43)) rfl (k_plain_1w hc33 hm44.1.choose_spec hK43 (by omega) (by omega) (by omega) (by omega)) rfl (fun φ46 n46 sl46 hn46 hN46 hs46 hT46 hR46 => ?_)
  obtain ⟨hK46, frn46⟩ := hR46
  refine q_goto rfl ?_
  refine q_iinc (z := 6) (loc2 := [(6, 455, 0), (0, 60, 0), (6, 225, 0), (0, 6, 0), (0, 1, 0)]) (p2 := 49) rfl rfl (by decide) rfl rfl ?_
  refine q_goto rfl ?_
  refine q_load (v := (0, 6, 0)) (p2 := 20) rfl rfl rfl rfl ?_
  refine q_const (p2 := 21) rfl rfl ?_
  refine q_icmp_s (p2 := 22) rfl (by decide) (by omega) (by omega) rfl (fun hb => absurd hb (show ¬ (¬ (6 < 1000000)) by omega)) (fun _ => ?_)
  refine q_load (v := (6, 455, 0)) (p2 := 23) rfl rfl rfl rfl ?_
  refine q_getv (v := (0, 2, 0)) (p2 := 24) rfl (x_KS_455 hK46) (by decide) hK46.1.choose_spec.2.2.2.2.2.2.2.2.2.2.2.1 rfl ?_
  refine q_if0_s (p2 := 25) rfl (by decide) (by omega) rfl (fun hb => absurd hb (show ¬ (¬ (0 < 2)) by omega)) (fun _ => ?_)
  refine q_load (v := (6, 455, 0)) (p2 := 26) rfl rfl rfl rfl ?_
  refine q_getv (v := (0, 0, 0)) (p2 := 27) rfl (x_KS_455 hK46) (by decide) hK46.1.choose_spec.2.2.2.2.2.2.2.2.2.2.2.2.2.2.2.2.2.1 rfl ?_
  refine q_if0_s (p2 := 28) rfl (by decide) (by omega) rfl (fun hb => absurd hb (show ¬ (¬ (0 = 0)) by omega)) (fun _ => ?_)
  refine q_load (v := (6, 455, 0)) (p2 := 29) rfl rfl rfl rfl ?_
  refine x_n_lt (fun hlt48 => ?_)
  have hm47 := (x_PS_at hm44 (fun j hj hne => by have hj2 := x_some_lt hlt45 hne; exact (frn46 j (by omega))))
  refine q_callrE (xs := [(6, 455, 0)]) (p2 := 30) rfl rfl rfl rfl (x_rcv_s 455 (x_KS_455 hK46)) rfl (k_fetchw hc34 hm47.1.choose_spec hK46 (by omega)) (Nat.le_refl _) (Nat.le_refl _) rfl (fun φ49 hR49 => ?_)
  obtain ⟨hK49, frn49⟩ := hR49
  refine q_store (loc2 := [(6, 455, 0), (0, 60, 0), (6, 225, 0), (0, 6, 0), (0, 1, 0)]) (p2 := 31) rfl rfl rfl rfl rfl ?_
  refine q_load (v := (0, 1, 0)) (p2 := 32) rfl rfl rfl rfl ?_
  refine q_const (p2 := 33) rfl rfl ?_
  refine q_icmp_s (p2 := 34) rfl (by decide) (by omega) (by omega) rfl (fun hb => absurd hb (show ¬ (10 < 1) by omega)) (fun _ => ?_)
  refine q_load (v := (6, 455, 0)) (p2 := 35) rfl rfl rfl rfl ?_
  refine q_load (v := (0, 1, 0)) (p2 := 36) rfl rfl rfl rfl ?_
  refine x_n_lt (fun hlt51 => ?_)
  have hm50 := (x_PS_at hm47 (fun j hj hne => by have hj2 := x_some_lt hlt48 hne; exact (frn49 j (by omega))))
  refine q_callvB (xs := [(0, 1, 0), (6, 455, 0)]) (p2 := 37) rfl rfl rfl rfl (x_rcv_s 455 (x_KS_455 hK49)) rfl (k_plain_1w hc35 hm50.1.choose_spec hK49 (by omega) (by omega) (by omega) (by omega)) rfl (fun φ52 n52 sl52 hn52 hN52 hs52 hT52 hR52 => ?_)
  obtain ⟨hK52, frn52⟩ := hR52
  refine q_goto rfl ?_
  refine q_iinc (z := 7) (loc2 := [(6, 455, 0), (0, 60, 0), (6, 225, 0), (0, 7, 0), (0, 1, 0)]) (p2 := 49) rfl rfl (by decide) rfl rfl ?_
  refine q_goto rfl ?_
  refine q_load (v := (0, 7, 0)) (p2 := 20) rfl rfl rfl rfl ?_
  refine q_const (p2 := 21) rfl rfl ?_
  refine q_icmp_s (p2 := 22) rfl (by decide) (by omega) (by omega) rfl (fun hb => absurd hb (show ¬ (¬ (7 < 1000000)) by omega)) (fun _ => ?_)
  refine q_load (v := (6, 455, 0)) (p2 := 23) rfl rfl rfl rfl ?_
  refine q_getv (v := (0, 2, 0)) (p2 := 24) rfl (x_KS_455 hK52) (by decide) hK52.1.choose_spec.2.2.2.2.2.2.2.2.2.2.2.1 rfl ?_
  refine q_if0_s (p2 := 25) rfl (by decide) (by omega) rfl (fun hb => absurd hb (show ¬ (¬ (0 < 2)) by omega)) (fun _ => ?_)
  refine q_load (v := (6, 455, 0)) (p2 := 26) rfl rfl rfl rfl ?_
  refine q_getv (v := (0, 0, 0)) (p2 := 27) rfl (x_KS_455 hK52) (by decide) hK52.1.choose_spec.2.2.2.2.2.2.2.2.2.2.2.2.2.2.2.2.2.1 rfl ?_
  refine q_if0_s (p2 := 28) rfl (by decide) (by omega) rfl (fun hb => absurd hb (show ¬ (¬ (0 = 0)) by omega)) (fun _ => ?_)
  refine q_load (v := (6, 455, 0)) (p2 := 29) rfl rfl rfl rfl ?_
  refine x_n_lt (fun hlt54 => ?_)
  have hm53 := (x_PS_at hm50 (fun j hj hne => by have hj2 := x_some_lt hlt51 hne; exact (frn52 j (by omega))))
  refine q_callrE (xs := [(6, 455, 0)]) (p2 := 30) rfl rfl rfl rfl (x_rcv_s 455 (x_KS_455 hK52)) rfl (k_fetchw hc36 hm53.1.choose_spec hK52 (by omega)) (Nat.le_refl _) (Nat.le_refl _) rfl (fun φ55 hR55 => ?_)
  obtain ⟨hK55, frn55⟩ := hR55
  refine q_store (loc2 := [(6, 455, 0), (0, 60, 0), (6, 225, 0), (0, 7, 0), (0, 10, 0)]) (p2 := 31) rfl rfl rfl rfl rfl ?_
  refine q_load (v := (0, 10, 0)) (p2 := 32) rfl rfl rfl rfl ?_
  refine q_const (p2 := 33) rfl rfl ?_
  refine q_icmp_s (p2 := 34) rfl (by decide) (by omega) (by omega) rfl (fun hb => absurd hb (show ¬ (10 < 10) by omega)) (fun _ => ?_)
  refine q_load (v := (6, 455, 0)) (p2 := 35) rfl rfl rfl rfl ?_
  refine q_load (v := (0, 10, 0)) (p2 := 36) rfl rfl rfl rfl ?_
  refine x_n_lt (fun hlt57 => ?_)
  have hm56 := (x_PS_at hm53 (fun j hj hne => by have hj2 := x_some_lt hlt54 hne; exact (frn55 j (by omega))))
  have hv58 := x_mv_at hv31 (fun j hj hne => by have hj2 := x_some_lt hlt32 hne; exact ((frn55 j (by omega)).trans ((frn52 j (by omega)).trans ((frn49 j (by omega)).trans ((frn46 j (by omega)).trans ((frn43 j (by omega)).trans ((frn40 j (by omega)).trans ((frn37 j (by omega)).trans (frn34 j (by omega))))))))))
  refine q_callvB (xs := [(0, 10, 0), (6, 455, 0)]) (p2 := 37) rfl rfl rfl rfl (x_rcv_s 455 (x_KS_455 hK55)) rfl (k_plain_10w (fr := 1) hc37 hm56.1.choose_spec hK55 (by omega) (by omega) hv58 (by omega) (by omega)) rfl (fun φ59 n59 sl59 hn59 hN59 hs59 hT59 hR59 => ?_)
  obtain ⟨hK59, frn59⟩ := hR59
  refine q_goto rfl ?_
  refine q_iinc (z := 8) (loc2 := [(6, 455, 0), (0, 60, 0), (6, 225, 0), (0, 8, 0), (0, 10, 0)]) (p2 := 49) rfl rfl (by decide) rfl rfl ?_
  refine q_goto rfl ?_
  refine q_load (v := (0, 8, 0)) (p2 := 20) rfl rfl rfl rfl ?_
  refine q_const (p2 := 21) rfl rfl ?_
  refine q_icmp_s (p2 := 22) rfl (by decide) (by omega) (by omega) rfl (fun hb => absurd hb (show ¬ (¬ (8 < 1000000)) by omega)) (fun _ => ?_)
  refine q_load (v := (6, 455, 0)) (p2 := 23) rfl rfl rfl rfl ?_
  refine q_getv (v := (0, 2, 0)) (p2 := 24) rfl (x_KS_455 hK59) (by decide) hK59.1.choose_spec.2.2.2.2.2.2.2.2.2.2.2.1 rfl ?_
  refine q_if0_s (p2 := 25) rfl (by decide) (by omega) rfl (fun hb => absurd hb (show ¬ (¬ (0 < 2)) by omega)) (fun _ => ?_)
  refine q_load (v := (6, 455, 0)) (p2 := 26) rfl rfl rfl rfl ?_
  refine q_getv (v := (0, 0, 0)) (p2 := 27) rfl (x_KS_455 hK59) (by decide) hK59.1.choose_spec.2.2.2.2.2.2.2.2.2.2.2.2.2.2.2.2.2.1 rfl ?_
  refine q_if0_s (p2 := 28) rfl (by decide) (by omega) rfl (fun hb => absurd hb (show ¬ (¬ (0 = 0)) by omega)) (fun _ => ?_)
  refine q_load (v := (6, 455, 0)) (p2 := 29) rfl rfl rfl rfl ?_
  refine x_n_lt (fun hlt61 => ?_)
  have hm60 := (x_PS_at hm56 (fun j hj hne => by have hj2 := x_some_lt hlt57 hne; exact (frn59 j (by omega))))
  refine q_callrE (xs := [(6, 455, 0)]) (p2 := 30) rfl rfl rfl rfl (x_rcv_s 455 (x_KS_455 hK59)) rfl (k_fetchw hc38 hm60.1.choose_spec hK59 (by omega)) (Nat.le_refl _) (Nat.le_refl _) rfl (fun φ62 hR62 => ?_)
  obtain ⟨hK62, frn62⟩ := hR62
  refine q_store (loc2 := [(6, 455, 0), (0, 60, 0), (6, 225, 0), (0, 8, 0), (0, 11, 0)]) (p2 := 31) rfl rfl rfl rfl rfl ?_
  refine q_load (v := (0, 11, 0)) (p2 := 32) rfl rfl rfl rfl ?_
  refine q_const (p2 := 33) rfl rfl ?_
  refine q_icmp_s (p2 := 34) rfl (by decide) (by omega) (by omega) rfl (fun _ => ?_) (fun hb => absurd (show 10 < 11 by omega) hb)
  refine q_load (v := (0, 11, 0)) (p2 := 39) rfl rfl rfl rfl ?_
  refine q_const (p2 := 40) rfl rfl ?_
  refine q_icmp_s (p2 := 41) rfl (by decide) (by omega) (by omega) rfl (fun hb => absurd hb (show ¬ (19 < 11) by omega)) (fun _ => ?_)
  refine q_load (v := (6, 455, 0)) (p2 := 42) rfl rfl rfl rfl ?_
  refine q_load (v := (0, 11, 0)) (p2 := 43) rfl rfl rfl rfl ?_
  refine x_n_lt (fun hlt64 => ?_)
  have hm63 := (x_PS_at hm60 (fun j hj hne => by have hj2 := x_some_lt hlt61 hne; exact (frn62 j (by omega))))
  have hv65 := x_mv_at hv58 (fun j hj hne => by have hj2 := x_some_lt hlt57 hne; exact ((frn62 j (by omega)).trans (frn59 j (by omega))))
  refine q_callvB (xs := [(0, 11, 0), (6, 455, 0)]) (p2 := 44) rfl rfl rfl rfl (x_rcv_s 455 (x_KS_455 hK62)) rfl (k_op_11_0 hm63.1.choose_spec hK62 (by omega) (by omega) hm63.2.1 (x_PS_H hm63) (x_PS_M hm63) (x_PS_N hm63) hv65 hc39) rfl (fun φ66 n66 sl66 hn66 hN66 hs66 hT66 hR66 => ?_)
  obtain ⟨v66, hK66, hV66, frn66⟩ := hR66
  rw [if_pos ⟨rfl, hisA⟩] at hV66
  rw [hk] at hV66
  refine x_n_lt (fun hlt67 => ?_)
  have hz68 := x_mv_lt hV66 hlt67
  have hy68 := hV66.1
  refine q_goto rfl ?_
  refine q_iinc (z := 9) (loc2 := [(6, 455, 0), (0, 60, 0), (6, 225, 0), (0, 9, 0), (0, 11, 0)]) (p2 := 49) rfl rfl (by decide) rfl rfl ?_
  refine q_goto rfl ?_
  refine q_load (v := (0, 9, 0)) (p2 := 20) rfl rfl rfl rfl ?_
  refine q_const (p2 := 21) rfl rfl ?_
  refine q_icmp_s (p2 := 22) rfl (by decide) (by omega) (by omega) rfl (fun hb => absurd hb (show ¬ (¬ (9 < 1000000)) by omega)) (fun _ => ?_)
  refine q_load (v := (6, 455, 0)) (p2 := 23) rfl rfl rfl rfl ?_
  refine q_getv (v := (0, 2, 0)) (p2 := 24) rfl (x_KS_455 hK66) (by decide) hK66.1.choose_spec.2.2.2.2.2.2.2.2.2.2.2.1 rfl ?_
  refine q_if0_s (p2 := 25) rfl (by decide) (by omega) rfl (fun hb => absurd hb (show ¬ (¬ (0 < 2)) by omega)) (fun _ => ?_)
  refine q_load (v := (6, 455, 0)) (p2 := 26) rfl rfl rfl rfl ?_
  refine q_getv (v := (0, 0, 0)) (p2 := 27) rfl (x_KS_455 hK66) (by decide) hK66.1.choose_spec.2.2.2.2.2.2.2.2.2.2.2.2.2.2.2.2.2.1 rfl ?_
  refine q_if0_s (p2 := 28) rfl (by decide) (by omega) rfl (fun hb => absurd hb (show ¬ (¬ (0 = 0)) by omega)) (fun _ => ?_)
  refine q_load (v := (6, 455, 0)) (p2 := 29) rfl rfl rfl rfl ?_
  have hm69 := (x_PS_at hm63 (fun j hj hne => by have hj2 := x_some_lt hlt64 hne; exact (frn66 j (by omega))))
  refine q_callrE (xs := [(6, 455, 0)]) (p2 := 30) rfl rfl rfl rfl (x_rcv_s 455 (x_KS_455 hK66)) rfl (k_fetchw hc40 hm69.1.choose_spec hK66 (by omega)) (Nat.le_refl _) (Nat.le_refl _) rfl (fun φ70 hR70 => ?_)
  obtain ⟨hK70, frn70⟩ := hR70
  refine q_store (loc2 := [(6, 455, 0), (0, 60, 0), (6, 225, 0), (0, 9, 0), (0, 19, 0)]) (p2 := 31) rfl rfl rfl rfl rfl ?_
  refine q_load (v := (0, 19, 0)) (p2 := 32) rfl rfl rfl rfl ?_
  refine q_const (p2 := 33) rfl rfl ?_
  refine q_icmp_s (p2 := 34) rfl (by decide) (by omega) (by omega) rfl (fun _ => ?_) (fun hb => absurd (show 10 < 19 by omega) hb)
  refine q_load (v := (0, 19, 0)) (p2 := 39) rfl rfl rfl rfl ?_
  refine q_const (p2 := 40) rfl rfl ?_
  refine q_icmp_s (p2 := 41) rfl (by decide) (by omega) (by omega) rfl (fun hb => absurd hb (show ¬ (19 < 19) by omega)) (fun _ => ?_)
  refine q_load (v := (6, 455, 0)) (p2 := 42) rfl rfl rfl rfl ?_
  refine q_load (v := (0, 19, 0)) (p2 := 43) rfl rfl rfl rfl ?_
  refine x_n_lt (fun hlt72 => ?_)
  have hm71 := (x_PS_at hm69 (fun j hj hne => by have hj2 := x_some_lt hlt67 hne; exact (frn70 j (by omega))))
  have hv73 := x_mv_at hV66 (fun j hj hne => by have hj2 := x_some_lt hlt67 hne; exact (frn70 j (by omega)))
  refine q_callvB (xs := [(0, 19, 0), (6, 455, 0)]) (p2 := 44) rfl rfl rfl rfl (x_rcv_s 455 (x_KS_455 hK70)) rfl (k_op_19_8 hm71.1.choose_spec hK70 (by omega) (by omega) hv73 hc41 (by omega)) rfl (fun φ74 n74 sl74 hn74 hN74 hs74 hT74 hR74 => ?_)
  obtain ⟨v74, hK74, hV74, frn74⟩ := hR74
  rw [if_neg (by show ¬ (1 = 0); decide)] at hV74
  refine x_n_lt (fun hlt75 => ?_)
  have hz76 := x_mv_lt hV74 hlt75
  have hy76 := hV74.1
  refine q_goto rfl ?_
  refine q_iinc (z := 10) (loc2 := [(6, 455, 0), (0, 60, 0), (6, 225, 0), (0, 10, 0), (0, 19, 0)]) (p2 := 49) rfl rfl (by decide) rfl rfl ?_
  refine q_goto rfl ?_
  refine q_load (v := (0, 10, 0)) (p2 := 20) rfl rfl rfl rfl ?_
  refine q_const (p2 := 21) rfl rfl ?_
  refine q_icmp_s (p2 := 22) rfl (by decide) (by omega) (by omega) rfl (fun hb => absurd hb (show ¬ (¬ (10 < 1000000)) by omega)) (fun _ => ?_)
  refine q_load (v := (6, 455, 0)) (p2 := 23) rfl rfl rfl rfl ?_
  refine q_getv (v := (0, 2, 0)) (p2 := 24) rfl (x_KS_455 hK74) (by decide) hK74.1.choose_spec.2.2.2.2.2.2.2.2.2.2.2.1 rfl ?_
  refine q_if0_s (p2 := 25) rfl (by decide) (by omega) rfl (fun hb => absurd hb (show ¬ (¬ (0 < 2)) by omega)) (fun _ => ?_)
  refine q_load (v := (6, 455, 0)) (p2 := 26) rfl rfl rfl rfl ?_
  refine q_getv (v := (0, 0, 0)) (p2 := 27) rfl (x_KS_455 hK74) (by decide) hK74.1.choose_spec.2.2.2.2.2.2.2.2.2.2.2.2.2.2.2.2.2.1 rfl ?_
  refine q_if0_s (p2 := 28) rfl (by decide) (by omega) rfl (fun hb => absurd hb (show ¬ (¬ (0 = 0)) by omega)) (fun _ => ?_)
  refine q_load (v := (6, 455, 0)) (p2 := 29) rfl rfl rfl rfl ?_
  have hm77 := (x_PS_at hm71 (fun j hj hne => by have hj2 := x_some_lt hlt72 hne; exact (frn74 j (by omega) (by omega))))
  refine q_callrE (xs := [(6, 455, 0)]) (p2 := 30) rfl rfl rfl rfl (x_rcv_s 455 (x_KS_455 hK74)) rfl (k_fetchw hc42 hm77.1.choose_spec hK74 (by omega)) (Nat.le_refl _) (Nat.le_refl _) rfl (fun φ78 hR78 => ?_)
  obtain ⟨hK78, frn78⟩ := hR78
  refine q_store (loc2 := [(6, 455, 0), (0, 60, 0), (6, 225, 0), (0, 10, 0), (0, 27, 0)]) (p2 := 31) rfl rfl rfl rfl rfl ?_
  refine q_load (v := (0, 27, 0)) (p2 := 32) rfl rfl rfl rfl ?_
  refine q_const (p2 := 33) rfl rfl ?_
  refine q_icmp_s (p2 := 34) rfl (by decide) (by omega) (by omega) rfl (fun _ => ?_) (fun hb => absurd (show 10 < 27 by omega) hb)
  refine q_load (v := (0, 27, 0)) (p2 := 39) rfl rfl rfl rfl ?_
  refine q_const (p2 := 40) rfl rfl ?_
  refine q_icmp_s (p2 := 41) rfl (by decide) (by omega) (by omega) rfl (fun _ => ?_) (fun hb => absurd (show 19 < 27 by omega) hb)
  refine q_load (v := (6, 455, 0)) (p2 := 46) rfl rfl rfl rfl ?_
  refine q_load (v := (0, 27, 0)) (p2 := 47) rfl rfl rfl rfl ?_
  refine x_n_lt (fun hlt80 => ?_)
  have hm79 := (x_PS_at hm77 (fun j hj hne => by have hj2 := x_some_lt hlt75 hne; exact (frn78 j (by omega))))
  have hv81 := x_mv_at hV74 (fun j hj hne => by have hj2 := x_some_lt hlt75 hne; exact (frn78 j (by omega)))
  refine q_callvB (xs := [(0, 27, 0), (6, 455, 0)]) (p2 := 48) rfl rfl rfl rfl (x_rcv_s 455 (x_KS_455 hK78)) rfl (k_lead_27w (top := 0) hc43 hm79.1.choose_spec hK78 (by omega) (by omega) hv81 (by omega)) rfl (fun φ82 n82 sl82 hn82 hN82 hs82 hT82 hR82 => ?_)
  obtain ⟨hK82, frn82⟩ := hR82
  refine q_iinc (z := 11) (loc2 := [(6, 455, 0), (0, 60, 0), (6, 225, 0), (0, 11, 0), (0, 27, 0)]) (p2 := 49) rfl rfl (by decide) rfl rfl ?_
  refine q_goto rfl ?_
  refine q_load (v := (0, 11, 0)) (p2 := 20) rfl rfl rfl rfl ?_
  refine q_const (p2 := 21) rfl rfl ?_
  refine q_icmp_s (p2 := 22) rfl (by decide) (by omega) (by omega) rfl (fun hb => absurd hb (show ¬ (¬ (11 < 1000000)) by omega)) (fun _ => ?_)
  refine q_load (v := (6, 455, 0)) (p2 := 23) rfl rfl rfl rfl ?_
  refine q_getv (v := (0, 2, 0)) (p2 := 24) rfl (x_KS_455 hK82) (by decide) hK82.1.choose_spec.2.2.2.2.2.2.2.2.2.2.2.1 rfl ?_
  refine q_if0_s (p2 := 25) rfl (by decide) (by omega) rfl (fun hb => absurd hb (show ¬ (¬ (0 < 2)) by omega)) (fun _ => ?_)
  refine q_load (v := (6, 455, 0)) (p2 := 26) rfl rfl rfl rfl ?_
  refine q_getv (v := (0, 0, 0)) (p2 := 27) rfl (x_KS_455 hK82) (by decide) hK82.1.choose_spec.2.2.2.2.2.2.2.2.2.2.2.2.2.2.2.2.2.1 rfl ?_
  refine q_if0_s (p2 := 28) rfl (by decide) (by omega) rfl (fun hb => absurd hb (show ¬ (¬ (0 = 0)) by omega)) (fun _ => ?_)
  refine q_load (v := (6, 455, 0)) (p2 := 29) rfl rfl rfl rfl ?_
  refine x_n_lt (fun hlt84 => ?_)
  have hm83 := (x_PS_at hm79 (fun j hj hne => by have hj2 := x_some_lt hlt80 hne; exact (frn82 j (by omega))))
  refine q_callrE (xs := [(6, 455, 0)]) (p2 := 30) rfl rfl rfl rfl (x_rcv_s 455 (x_KS_455 hK82)) rfl (k_fetchw hc44 hm83.1.choose_spec hK82 (by omega)) (Nat.le_refl _) (Nat.le_refl _) rfl (fun φ85 hR85 => ?_)
  obtain ⟨hK85, frn85⟩ := hR85
  refine q_store (loc2 := [(6, 455, 0), (0, 60, 0), (6, 225, 0), (0, 11, 0), (0, 1, 0)]) (p2 := 31) rfl rfl rfl rfl rfl ?_
  refine q_load (v := (0, 1, 0)) (p2 := 32) rfl rfl rfl rfl ?_
  refine q_const (p2 := 33) rfl rfl ?_
  refine q_icmp_s (p2 := 34) rfl (by decide) (by omega) (by omega) rfl (fun hb => absurd hb (show ¬ (10 < 1) by omega)) (fun _ => ?_)
  refine q_load (v := (6, 455, 0)) (p2 := 35) rfl rfl rfl rfl ?_
  refine q_load (v := (0, 1, 0)) (p2 := 36) rfl rfl rfl rfl ?_
  refine x_n_lt (fun hlt87 => ?_)
  have hm86 := (x_PS_at hm83 (fun j hj hne => by have hj2 := x_some_lt hlt84 hne; exact (frn85 j (by omega))))
  refine q_callvB (xs := [(0, 1, 0), (6, 455, 0)]) (p2 := 37) rfl rfl rfl rfl (x_rcv_s 455 (x_KS_455 hK85)) rfl (k_plain_1w hc45 hm86.1.choose_spec hK85 (by omega) (by omega) (by omega) (by omega)) rfl (fun φ88 n88 sl88 hn88 hN88 hs88 hT88 hR88 => ?_)
  obtain ⟨hK88, frn88⟩ := hR88
  refine q_goto rfl ?_
  refine q_iinc (z := 12) (loc2 := [(6, 455, 0), (0, 60, 0), (6, 225, 0), (0, 12, 0), (0, 1, 0)]) (p2 := 49) rfl rfl (by decide) rfl rfl ?_
  refine q_goto rfl ?_
  refine q_load (v := (0, 12, 0)) (p2 := 20) rfl rfl rfl rfl ?_
  refine q_const (p2 := 21) rfl rfl ?_
  refine q_icmp_s (p2 := 22) rfl (by decide) (by omega) (by omega) rfl (fun hb => absurd hb (show ¬ (¬ (12 < 1000000)) by omega)) (fun _ => ?_)
  refine q_load (v := (6, 455, 0)) (p2 := 23) rfl rfl rfl rfl ?_
  refine q_getv (v := (0, 2, 0)) (p2 := 24) rfl (x_KS_455 hK88) (by decide) hK88.1.choose_spec.2.2.2.2.2.2.2.2.2.2.2.1 rfl ?_
  refine q_if0_s (p2 := 25) rfl (by decide) (by omega) rfl (fun hb => absurd hb (show ¬ (¬ (0 < 2)) by omega)) (fun _ => ?_)
  refine q_load (v := (6, 455, 0)) (p2 := 26) rfl rfl rfl rfl ?_
  refine q_getv (v := (0, 0, 0)) (p2 := 27) rfl (x_KS_455 hK88) (by decide) hK88.1.choose_spec.2.2.2.2.2.2.2.2.2.2.2.2.2.2.2.2.2.1 rfl ?_
  refine q_if0_s (p2 := 28) rfl (by decide) (by omega) rfl (fun hb => absurd hb (show ¬ (¬ (0 = 0)) by omega)) (fun _ => ?_)
  refine q_load (v := (6, 455, 0)) (p2 := 29) rfl rfl rfl rfl ?_
  refine x_n_lt (fun hlt90 => ?_)
  have hm89 := (x_PS_at hm86 (fun j hj hne => by have hj2 := x_some_lt hlt87 hne; exact (frn88 j (by omega))))
  refine q_callrE (xs := [(6, 455, 0)]) (p2 := 30) rfl rfl rfl rfl (x_rcv_s 455 (x_KS_455 hK88)) rfl (k_fetchw hc46 hm89.1.choose_spec hK88 (by omega)) (Nat.le_refl _) (Nat.le_refl _) rfl (fun φ91 hR91 => ?_)
  obtain ⟨hK91, frn91⟩ := hR91
  refine q_store (loc2 := [(6, 455, 0), (0, 60, 0), (6, 225, 0), (0, 12, 0), (0, 1, 0)]) (p2 := 31) rfl rfl rfl rfl rfl ?_
  refine q_load (v := (0, 1, 0)) (p2 := 32) rfl rfl rfl rfl ?_
  refine q_const (p2 := 33) rfl rfl ?_
  refine q_icmp_s (p2 := 34) rfl (by decide) (by omega) (by omega) rfl (fun hb => absurd hb (show ¬ (10 < 1) by omega)) (fun _ => ?_)
  refine q_load (v := (6, 455, 0)) (p2 := 35) rfl rfl rfl rfl ?_
  refine q_load (v := (0, 1, 0)) (p2 := 36) rfl rfl rfl rfl ?_
  refine x_n_lt (fun hlt93 => ?_)
  have hm92 := (x_PS_at hm89 (fun j hj hne => by have hj2 := x_some_lt hlt90 hne; exact (frn91 j (by omega))))
  refine q_callvB (xs := [(0, 1, 0), (6, 455, 0)]) (p2 := 37) rfl rfl rfl rfl (x_rcv_s 455 (x_KS_455 hK91)) rfl (k_plain_1w hc47 hm92.1.choose_spec hK91 (by omega) (by omega) (by omega) (by omega)) rfl (fun φ94 n94 sl94 hn94 hN94 hs94 hT94 hR94 => ?_)
  obtain ⟨hK94, frn94⟩ := hR94
  refine q_goto rfl ?_
  refine q_iinc (z := 13) (loc2 := [(6, 455, 0), (0, 60, 0), (6, 225, 0), (0, 13, 0), (0, 1, 0)]) (p2 := 49) rfl rfl (by decide) rfl rfl ?_
  refine q_goto rfl ?_
  refine q_load (v := (0, 13, 0)) (p2 := 20) rfl rfl rfl rfl ?_
  refine q_const (p2 := 21) rfl rfl ?_
  refine q_icmp_s (p2 := 22) rfl (by decide) (by omega) (by omega) rfl (fun hb => absurd hb (show ¬ (¬ (13 < 1000000)) by omega)) (fun _ => ?_)
  refine q_load (v := (6, 455, 0)) (p2 := 23) rfl rfl rfl rfl ?_
  refine q_getv (v := (0, 2, 0)) (p2 := 24) rfl (x_KS_455 hK94) (by decide) hK94.1.choose_spec.2.2.2.2.2.2.2.2.2.2.2.1 rfl ?_
  refine q_if0_s (p2 := 25) rfl (by decide) (by omega) rfl (fun hb => absurd hb (show ¬ (¬ (0 < 2)) by omega)) (fun _ => ?_)
  refine q_load (v := (6, 455, 0)) (p2 := 26) rfl rfl rfl rfl ?_
  refine q_getv (v := (0, 0, 0)) (p2 := 27) rfl (x_KS_455 hK94) (by decide) hK94.1.choose_spec.2.2.2.2.2.2.2.2.2.2.2.2.2.2.2.2.2.1 rfl ?_
  refine q_if0_s (p2 := 28) rfl (by decide) (by omega) rfl (fun hb => absurd hb (show ¬ (¬ (0 = 0)) by omega)) (fun _ => ?_)
  refine q_load (v := (6, 455, 0)) (p2 := 29) rfl rfl rfl rfl ?_
  refine x_n_lt (fun hlt96 => ?_)
  have hm95 := (x_PS_at hm92 (fun j hj hne => by have hj2 := x_some_lt hlt93 hne; exact (frn94 j (by omega))))
  refine q_callrE (xs := [(6, 455, 0)]) (p2 := 30) rfl rfl rfl rfl (x_rcv_s 455 (x_KS_455 hK94)) rfl (k_fetchw hc48 hm95.1.choose_spec hK94 (by omega)) (Nat.le_refl _) (Nat.le_refl _) rfl (fun φ97 hR97 => ?_)
  obtain ⟨hK97, frn97⟩ := hR97
  refine q_store (loc2 := [(6, 455, 0), (0, 60, 0), (6, 225, 0), (0, 13, 0), (0, 10, 0)]) (p2 := 31) rfl rfl rfl rfl rfl ?_
  refine q_load (v := (0, 10, 0)) (p2 := 32) rfl rfl rfl rfl ?_
  refine q_const (p2 := 33) rfl rfl ?_
  refine q_icmp_s (p2 := 34) rfl (by decide) (by omega) (by omega) rfl (fun hb => absurd hb (show ¬ (10 < 10) by omega)) (fun _ => ?_)
  refine q_load (v := (6, 455, 0)) (p2 := 35) rfl rfl rfl rfl ?_
  refine q_load (v := (0, 10, 0)) (p2 := 36) rfl rfl rfl rfl ?_
  refine x_n_lt (fun hlt99 => ?_)
  have hm98 := (x_PS_at hm95 (fun j hj hne => by have hj2 := x_some_lt hlt96 hne; exact (frn97 j (by omega))))
  have hv100 := x_mv_at hv65 (fun j hj hne => by have hj2 := x_some_lt hlt64 hne; exact ((frn97 j (by omega)).trans ((frn94 j (by omega)).trans ((frn91 j (by omega)).trans ((frn88 j (by omega)).trans ((frn85 j (by omega)).trans ((frn82 j (by omega)).trans ((frn78 j (by omega)).trans ((frn74 j (by omega) (by omega)).trans ((frn70 j (by omega)).trans (frn66 j (by omega))))))))))))
  refine q_callvB (xs := [(0, 10, 0), (6, 455, 0)]) (p2 := 37) rfl rfl rfl rfl (x_rcv_s 455 (x_KS_455 hK97)) rfl (k_plain_10w (fr := 1) hc49 hm98.1.choose_spec hK97 (by omega) (by omega) hv100 (by omega) (by omega)) rfl (fun φ101 n101 sl101 hn101 hN101 hs101 hT101 hR101 => ?_)
  obtain ⟨hK101, frn101⟩ := hR101
  refine q_goto rfl ?_
  refine q_iinc (z := 14) (loc2 := [(6, 455, 0), (0, 60, 0), (6, 225, 0), (0, 14, 0), (0, 10, 0)]) (p2 := 49) rfl rfl (by decide) rfl rfl ?_
  refine q_goto rfl ?_
  refine q_load (v := (0, 14, 0)) (p2 := 20) rfl rfl rfl rfl ?_
  refine q_const (p2 := 21) rfl rfl ?_
  refine q_icmp_s (p2 := 22) rfl (by decide) (by omega) (by omega) rfl (fun hb => absurd hb (show ¬ (¬ (14 < 1000000)) by omega)) (fun _ => ?_)
  refine q_load (v := (6, 455, 0)) (p2 := 23) rfl rfl rfl rfl ?_
  refine q_getv (v := (0, 2, 0)) (p2 := 24) rfl (x_KS_455 hK101) (by decide) hK101.1.choose_spec.2.2.2.2.2.2.2.2.2.2.2.1 rfl ?_
  refine q_if0_s (p2 := 25) rfl (by decide) (by omega) rfl (fun hb => absurd hb (show ¬ (¬ (0 < 2)) by omega)) (fun _ => ?_)
  refine q_load (v := (6, 455, 0)) (p2 := 26) rfl rfl rfl rfl ?_
  refine q_getv (v := (0, 0, 0)) (p2 := 27) rfl (x_KS_455 hK101) (by decide) hK101.1.choose_spec.2.2.2.2.2.2.2.2.2.2.2.2.2.2.2.2.2.1 rfl ?_
  refine q_if0_s (p2 := 28) rfl (by decide) (by omega) rfl (fun hb => absurd hb (show ¬ (¬ (0 = 0)) by omega)) (fun _ => ?_)
  refine q_load (v := (6, 455, 0)) (p2 := 29) rfl rfl rfl rfl ?_
  refine x_n_lt (fun hlt103 => ?_)
  have hm102 := (x_PS_at hm98 (fun j hj hne => by have hj2 := x_some_lt hlt99 hne; exact (frn101 j (by omega))))
  refine q_callrE (xs := [(6, 455, 0)]) (p2 := 30) rfl rfl rfl rfl (x_rcv_s 455 (x_KS_455 hK101)) rfl (k_fetchw hc50 hm102.1.choose_spec hK101 (by omega)) (Nat.le_refl _) (Nat.le_refl _) rfl (fun φ104 hR104 => ?_)
  obtain ⟨hK104, frn104⟩ := hR104
  refine q_store (loc2 := [(6, 455, 0), (0, 60, 0), (6, 225, 0), (0, 14, 0), (0, 11, 0)]) (p2 := 31) rfl rfl rfl rfl rfl ?_
  refine q_load (v := (0, 11, 0)) (p2 := 32) rfl rfl rfl rfl ?_
  refine q_const (p2 := 33) rfl rfl ?_
  refine q_icmp_s (p2 := 34) rfl (by decide) (by omega) (by omega) rfl (fun _ => ?_) (fun hb => absurd (show 10 < 11 by omega) hb)
  refine q_load (v := (0, 11, 0)) (p2 := 39) rfl rfl rfl rfl ?_
  refine q_const (p2 := 40) rfl rfl ?_
  refine q_icmp_s (p2 := 41) rfl (by decide) (by omega) (by omega) rfl (fun hb => absurd hb (show ¬ (19 < 11) by omega)) (fun _ => ?_)
  refine q_load (v := (6, 455, 0)) (p2 := 42) rfl rfl rfl rfl ?_
  refine q_load (v := (0, 11, 0)) (p2 := 43) rfl rfl rfl rfl ?_
  refine x_n_lt (fun hlt106 => ?_)
  have hm105 := (x_PS_at hm102 (fun j hj hne => by have hj2 := x_some_lt hlt103 hne; exact (frn104 j (by omega))))
  have hv107 := x_mv_at hv100 (fun j hj hne => by have hj2 := x_some_lt hlt99 hne; exact ((frn104 j (by omega)).trans (frn101 j (by omega))))
  refine q_callvB (xs := [(0, 11, 0), (6, 455, 0)]) (p2 := 44) rfl rfl rfl rfl (x_rcv_s 455 (x_KS_455 hK104)) rfl (k_op_11_0 hm105.1.choose_spec hK104 (by omega) (by omega) hm105.2.1 (x_PS_H hm105) (x_PS_M hm105) (x_PS_N hm105) hv107 hc51) rfl (fun φ108 n108 sl108 hn108 hN108 hs108 hT108 hR108 => ?_)
  obtain ⟨v108, hK108, hV108, frn108⟩ := hR108
  rw [if_pos ⟨rfl, hisA⟩] at hV108
  rw [hk] at hV108
  refine x_n_lt (fun hlt109 => ?_)
  have hz110 := x_mv_lt hV108 hlt109
  have hy110 := hV108.1
  refine q_goto rfl ?_
  refine q_iinc (z := 15) (loc2 := [(6, 455, 0), (0, 60, 0), (6, 225, 0), (0, 15, 0), (0, 11, 0)]) (p2 := 49) rfl rfl (by decide) rfl rfl ?_
  refine q_goto rfl ?_
  refine q_load (v := (0, 15, 0)) (p2 := 20) rfl rfl rfl rfl ?_
  refine q_const (p2 := 21) rfl rfl ?_
  refine q_icmp_s (p2 := 22) rfl (by decide) (by omega) (by omega) rfl (fun hb => absurd hb (show ¬ (¬ (15 < 1000000)) by omega)) (fun _ => ?_)
  refine q_load (v := (6, 455, 0)) (p2 := 23) rfl rfl rfl rfl ?_
  refine q_getv (v := (0, 2, 0)) (p2 := 24) rfl (x_KS_455 hK108) (by decide) hK108.1.choose_spec.2.2.2.2.2.2.2.2.2.2.2.1 rfl ?_
  refine q_if0_s (p2 := 25) rfl (by decide) (by omega) rfl (fun hb => absurd hb (show ¬ (¬ (0 < 2)) by omega)) (fun _ => ?_)
  refine q_load (v := (6, 455, 0)) (p2 := 26) rfl rfl rfl rfl ?_
  refine q_getv (v := (0, 0, 0)) (p2 := 27) rfl (x_KS_455 hK108) (by decide) hK108.1.choose_spec.2.2.2.2.2.2.2.2.2.2.2.2.2.2.2.2.2.1 rfl ?_
  refine q_if0_s (p2 := 28) rfl (by decide) (by omega) rfl (fun hb => absurd hb (show ¬ (¬ (0 = 0)) by omega)) (fun _ => ?_)
  refine q_load (v := (6, 455, 0)) (p2 := 29) rfl rfl rfl rfl ?_
  have hm111 := (x_PS_at hm105 (fun j hj hne => by have hj2 := x_some_lt hlt106 hne; exact (frn108 j (by omega))))
  refine q_callrE (xs := [(6, 455, 0)]) (p2 := 30) rfl rfl rfl rfl (x_rcv_s 455 (x_KS_455 hK108)) rfl (k_fetchw hc52 hm111.1.choose_spec hK108 (by omega)) (Nat.le_refl _) (Nat.le_refl _) rfl (fun φ112 hR112 => ?_)
  obtain ⟨hK112, frn112⟩ := hR112
  refine q_store (loc2 := [(6, 455, 0), (0, 60, 0), (6, 225, 0), (0, 15, 0), (0, 1, 0)]) (p2 := 31) rfl rfl rfl rfl rfl ?_
  refine q_load (v := (0, 1, 0)) (p2 := 32) rfl rfl rfl rfl ?_
  refine q_const (p2 := 33) rfl rfl ?_
  refine q_icmp_s (p2 := 34) rfl (by decide) (by omega) (by omega) rfl (fun hb => absurd hb (show ¬ (10 < 1) by omega)) (fun _ => ?_)
  refine q_load (v := (6, 455, 0)) (p2 := 35) rfl rfl rfl rfl ?_
  refine q_load (v := (0, 1, 0)) (p2 := 36) rfl rfl rfl rfl ?_
  refine x_n_lt (fun hlt114 => ?_)
  have hm113 := (x_PS_at hm111 (fun j hj hne => by have hj2 := x_some_lt hlt109 hne; exact (frn112 j (by omega))))
  refine q_callvB (xs := [(0, 1, 0), (6, 455, 0)]) (p2 := 37) rfl rfl rfl rfl (x_rcv_s 455 (x_KS_455 hK112)) rfl (k_plain_1w hc53 hm113.1.choose_spec hK112 (by omega) (by omega) (by omega) (by omega)) rfl (fun φ115 n115 sl115 hn115 hN115 hs115 hT115 hR115 => ?_)
  obtain ⟨hK115, frn115⟩ := hR115
  refine q_goto rfl ?_
  refine q_iinc (z := 16) (loc2 := [(6, 455, 0), (0, 60, 0), (6, 225, 0), (0, 16, 0), (0, 1, 0)]) (p2 := 49) rfl rfl (by decide) rfl rfl ?_
  refine q_goto rfl ?_
  refine q_load (v := (0, 16, 0)) (p2 := 20) rfl rfl rfl rfl ?_
  refine q_const (p2 := 21) rfl rfl ?_
  refine q_icmp_s (p2 := 22) rfl (by decide) (by omega) (by omega) rfl (fun hb => absurd hb (show ¬ (¬ (16 < 1000000)) by omega)) (fun _ => ?_)
  refine q_load (v := (6, 455, 0)) (p2 := 23) rfl rfl rfl rfl ?_
  refine q_getv (v := (0, 2, 0)) (p2 := 24) rfl (x_KS_455 hK115) (by decide) hK115.1.choose_spec.2.2.2.2.2.2.2.2.2.2.2.1 rfl ?_
  refine q_if0_s (p2 := 25) rfl (by decide) (by omega) rfl (fun hb => absurd hb (show ¬ (¬ (0 < 2)) by omega)) (fun _ => ?_)
  refine q_load (v := (6, 455, 0)) (p2 := 26) rfl rfl rfl rfl ?_
  refine q_getv (v := (0, 0, 0)) (p2 := 27) rfl (x_KS_455 hK115) (by decide) hK115.1.choose_spec.2.2.2.2.2.2.2.2.2.2.2.2.2.2.2.2.2.1 rfl ?_
  refine q_if0_s (p2 := 28) rfl (by decide) (by omega) rfl (fun hb => absurd hb (show ¬ (¬ (0 = 0)) by omega)) (fun _ => ?_)
  refine q_load (v := (6, 455, 0)) (p2 := 29) rfl rfl rfl rfl ?_
  refine x_n_lt (fun hlt117 => ?_)
  have hm116 := (x_PS_at hm113 (fun j hj hne => by have hj2 := x_some_lt hlt114 hne; exact (frn115 j (by omega))))
  refine q_callrE (xs := [(6, 455, 0)]) (p2 := 30) rfl rfl rfl rfl (x_rcv_s 455 (x_KS_455 hK115)) rfl (k_fetchw hc54 hm116.1.choose_spec hK115 (by omega)) (Nat.le_refl _) (Nat.le_refl _) rfl (fun φ118 hR118 => ?_)
  obtain ⟨hK118, frn118⟩ := hR118
  refine q_store (loc2 := [(6, 455, 0), (0, 60, 0), (6, 225, 0), (0, 16, 0), (0, 3, 0)]) (p2 := 31) rfl rfl rfl rfl rfl ?_
  refine q_load (v := (0, 3, 0)) (p2 := 32) rfl rfl rfl rfl ?_
  refine q_const (p2 := 33) rfl rfl ?_
  refine q_icmp_s (p2 := 34) rfl (by decide) (by omega) (by omega) rfl (fun hb => absurd hb (show ¬ (10 < 3) by omega)) (fun _ => ?_)
  refine q_load (v := (6, 455, 0)) (p2 := 35) rfl rfl rfl rfl ?_
  refine q_load (v := (0, 3, 0)) (p2 := 36) rfl rfl rfl rfl ?_
  refine x_n_lt (fun hlt120 => ?_)
  have hm119 := (x_PS_at hm116 (fun j hj hne => by have hj2 := x_some_lt hlt117 hne; exact (frn118 j (by omega))))
  refine q_callvB (xs := [(0, 3, 0), (6, 455, 0)]) (p2 := 37) rfl rfl rfl rfl (x_rcv_s 455 (x_KS_455 hK118)) rfl (k_plain_3w hc55 hm119.1.choose_spec hK118 (by omega) (by omega) (by omega) (by omega)) rfl (fun φ121 n121 sl121 hn121 hN121 hs121 hT121 hR121 => ?_)
  obtain ⟨v121, hK121, hV121, frn121⟩ := hR121
  refine x_n_lt (fun hlt122 => ?_)
  have hz123 := x_mv_lt hV121 hlt122
  have hy123 := hV121.1
  refine q_goto rfl ?_
  refine q_iinc (z := 17) (loc2 := [(6, 455, 0), (0, 60, 0), (6, 225, 0), (0, 17, 0), (0, 3, 0)]) (p2 := 49) rfl rfl (by decide) rfl rfl ?_
  refine q_goto rfl ?_
  refine q_load (v := (0, 17, 0)) (p2 := 20) rfl rfl rfl rfl ?_
  refine q_const (p2 := 21) rfl rfl ?_
  refine q_icmp_s (p2 := 22) rfl (by decide) (by omega) (by omega) rfl (fun hb => absurd hb (show ¬ (¬ (17 < 1000000)) by omega)) (fun _ => ?_)
  refine q_load (v := (6, 455, 0)) (p2 := 23) rfl rfl rfl rfl ?_
  refine q_getv (v := (0, 2, 0)) (p2 := 24) rfl (x_KS_455 hK121) (by decide) hK121.1.choose_spec.2.2.2.2.2.2.2.2.2.2.2.1 rfl ?_
  refine q_if0_s (p2 := 25) rfl (by decide) (by omega) rfl (fun hb => absurd hb (show ¬ (¬ (0 < 2)) by omega)) (fun _ => ?_)
  refine q_load (v := (6, 455, 0)) (p2 := 26) rfl rfl rfl rfl ?_
  refine q_getv (v := (0, 0, 0)) (p2 := 27) rfl (x_KS_455 hK121) (by decide) hK121.1.choose_spec.2.2.2.2.2.2.2.2.2.2.2.2.2.2.2.2.2.1 rfl ?_
  refine q_if0_s (p2 := 28) rfl (by decide) (by omega) rfl (fun hb => absurd hb (show ¬ (¬ (0 = 0)) by omega)) (fun _ => ?_)
  refine q_load (v := (6, 455, 0)) (p2 := 29) rfl rfl rfl rfl ?_
  have hm124 := (x_PS_at hm119 (fun j hj hne => by have hj2 := x_some_lt hlt120 hne; exact (frn121 j (by omega) (by omega))))
  refine q_callrE (xs := [(6, 455, 0)]) (p2 := 30) rfl rfl rfl rfl (x_rcv_s 455 (x_KS_455 hK121)) rfl (k_fetchw hc56 hm124.1.choose_spec hK121 (by omega)) (Nat.le_refl _) (Nat.le_refl _) rfl (fun φ125 hR125 => ?_)
  obtain ⟨hK125, frn125⟩ := hR125
  refine q_store (loc2 := [(6, 455, 0), (0, 60, 0), (6, 225, 0), (0, 17, 0), (0, 13, 0)]) (p2 := 31) rfl rfl rfl rfl rfl ?_
  refine q_load (v := (0, 13, 0)) (p2 := 32) rfl rfl rfl rfl ?_
  refine q_const (p2 := 33) rfl rfl ?_
  refine q_icmp_s (p2 := 34) rfl (by decide) (by omega) (by omega) rfl (fun _ => ?_) (fun hb => absurd (show 10 < 13 by omega) hb)
  refine q_load (v := (0, 13, 0)) (p2 := 39) rfl rfl rfl rfl ?_
  refine q_const (p2 := 40) rfl rfl ?_
  refine q_icmp_s (p2 := 41) rfl (by decide) (by omega) (by omega) rfl (fun hb => absurd hb (show ¬ (19 < 13) by omega)) (fun _ => ?_)
  refine q_load (v := (6, 455, 0)) (p2 := 42) rfl rfl rfl rfl ?_
  refine q_load (v := (0, 13, 0)) (p2 := 43) rfl rfl rfl rfl ?_
  refine x_n_lt (fun hlt127 => ?_)
  have hm126 := (x_PS_at hm124 (fun j hj hne => by have hj2 := x_some_lt hlt122 hne; exact (frn125 j (by omega))))
  have hv128 := x_mv_at hV121 (fun j hj hne => by have hj2 := x_some_lt hlt122 hne; exact (frn125 j (by omega)))
  have hv129 := x_mv_at hV108 (fun j hj hne => by have hj2 := x_some_lt hlt109 hne; exact ((frn125 j (by omega)).trans ((frn121 j (by omega) (by omega)).trans ((frn118 j (by omega)).trans ((frn115 j (by omega)).trans (frn112 j (by omega)))))))
  refine q_callvB (xs := [(0, 13, 0), (6, 455, 0)]) (p2 := 44) rfl rfl rfl rfl (x_rcv_s 455 (x_KS_455 hK125)) rfl (k_op_13_69 (top := 0) hm126.1.choose_spec hK125 (by omega) (by omega) (by omega) (x_PS_N hm126) hv129 hv128 hc57 (fun h => absurd h.1 (by show ¬ (1 = 6); decide)) (by show (1 : Nat) ≠ 2; decide) (by show (1 : Nat) ≠ 2; decide) (by show kk + 1 < 2147483648; omega) (by omega)) rfl (fun φ130 n130 sl130 hn130 hN130 hs130 hT130 hR130 => ?_)
  obtain ⟨v130, hK130, hV130, frn130⟩ := hR130
  rw [if_pos ⟨rfl, rfl⟩] at hV130
  refine x_n_lt (fun hlt131 => ?_)
  have hz132 := x_mv_lt hV130 hlt131
  have hy132 := hV130.1
  refine q_goto rfl ?_
  refine q_iinc (z := 18) (loc2 := [(6, 455, 0), (0, 60, 0), (6, 225, 0), (0, 18, 0), (0, 13, 0)]) (p2 := 49) rfl rfl (by decide) rfl rfl ?_
  refine q_goto rfl ?_
  refine q_load (v := (0, 18, 0)) (p2 := 20) rfl rfl rfl rfl ?_
  refine q_const (p2 := 21) rfl rfl ?_
  refine q_icmp_s (p2 := 22) rfl (by decide) (by omega) (by omega) rfl (fun hb => absurd hb (show ¬ (¬ (18 < 1000000)) by omega)) (fun _ => ?_)
  refine q_load (v := (6, 455, 0)) (p2 := 23) rfl rfl rfl rfl ?_
  refine q_getv (v := (0, 2, 0)) (p2 := 24) rfl (x_KS_455 hK130) (by decide) hK130.1.choose_spec.2.2.2.2.2.2.2.2.2.2.2.1 rfl ?_
  refine q_if0_s (p2 := 25) rfl (by decide) (by omega) rfl (fun hb => absurd hb (show ¬ (¬ (0 < 2)) by omega)) (fun _ => ?_)
  refine q_load (v := (6, 455, 0)) (p2 := 26) rfl rfl rfl rfl ?_
  refine q_getv (v := (0, 0, 0)) (p2 := 27) rfl (x_KS_455 hK130) (by decide) hK130.1.choose_spec.2.2.2.2.2.2.2.2.2.2.2.2.2.2.2.2.2.1 rfl ?_
  refine q_if0_s (p2 := 28) rfl (by decide) (by omega) rfl (fun hb => absurd hb (show ¬ (¬ (0 = 0)) by omega)) (fun _ => ?_)
  refine q_load (v := (6, 455, 0)) (p2 := 29) rfl rfl rfl rfl ?_
  have hm133 := (x_PS_at hm126 (fun j hj hne => by have hj2 := x_some_lt hlt127 hne; exact (frn130 j (by omega) (by omega))))
  refine q_callrE (xs := [(6, 455, 0)]) (p2 := 30) rfl rfl rfl rfl (x_rcv_s 455 (x_KS_455 hK130)) rfl (k_fetchw hc58 hm133.1.choose_spec hK130 (by omega)) (Nat.le_refl _) (Nat.le_refl _) rfl (fun φ134 hR134 => ?_)
  obtain ⟨hK134, frn134⟩ := hR134
  refine q_store (loc2 := [(6, 455, 0), (0, 60, 0), (6, 225, 0), (0, 18, 0), (0, 31, 0)]) (p2 := 31) rfl rfl rfl rfl rfl ?_
  refine q_load (v := (0, 31, 0)) (p2 := 32) rfl rfl rfl rfl ?_
  refine q_const (p2 := 33) rfl rfl ?_
  refine q_icmp_s (p2 := 34) rfl (by decide) (by omega) (by omega) rfl (fun _ => ?_) (fun hb => absurd (show 10 < 31 by omega) hb)
  refine q_load (v := (0, 31, 0)) (p2 := 39) rfl rfl rfl rfl ?_
  refine q_const (p2 := 40) rfl rfl ?_
  refine q_icmp_s (p2 := 41) rfl (by decide) (by omega) (by omega) rfl (fun _ => ?_) (fun hb => absurd (show 19 < 31 by omega) hb)
  refine q_load (v := (6, 455, 0)) (p2 := 46) rfl rfl rfl rfl ?_
  refine q_load (v := (0, 31, 0)) (p2 := 47) rfl rfl rfl rfl ?_
  refine x_n_lt (fun hlt136 => ?_)
  have hm135 := (x_PS_at hm133 (fun j hj hne => by have hj2 := x_some_lt hlt131 hne; exact (frn134 j (by omega))))
  have hv137 := x_mv_at hV130 (fun j hj hne => by have hj2 := x_some_lt hlt131 hne; exact (frn134 j (by omega)))
  refine q_callvB (xs := [(0, 31, 0), (6, 455, 0)]) (p2 := 48) rfl rfl rfl rfl (x_rcv_s 455 (x_KS_455 hK134)) rfl (k_lead_31 (top := 0) (fr := 1) hm135.1.choose_spec hK134 (by omega) (by omega) hv137 (Or.inr (Or.inr ⟨rfl, by show (1 : Nat) ≤ 1; decide⟩)) (by omega) (by show (0 : Nat) < 4096; decide)) rfl (fun φ138 n138 sl138 hn138 hN138 hs138 hT138 hR138 => ?_)
  obtain ⟨hK138, frn138⟩ := hR138
  refine q_iinc (z := 19) (loc2 := [(6, 455, 0), (0, 60, 0), (6, 225, 0), (0, 19, 0), (0, 31, 0)]) (p2 := 49) rfl rfl (by decide) rfl rfl ?_
  refine q_goto rfl ?_
  refine q_load (v := (0, 19, 0)) (p2 := 20) rfl rfl rfl rfl ?_
  refine q_const (p2 := 21) rfl rfl ?_
  refine q_icmp_s (p2 := 22) rfl (by decide) (by omega) (by omega) rfl (fun hb => absurd hb (show ¬ (¬ (19 < 1000000)) by omega)) (fun _ => ?_)
  refine q_load (v := (6, 455, 0)) (p2 := 23) rfl rfl rfl rfl ?_
  refine q_getv (v := (0, 1, 0)) (p2 := 24) rfl (x_KS_455 hK138) (by decide) hK138.1.choose_spec.2.2.2.2.2.2.2.2.2.2.2.1 rfl ?_
  refine q_if0_s (p2 := 25) rfl (by decide) (by omega) rfl (fun hb => absurd hb (show ¬ (¬ (0 < 1)) by omega)) (fun _ => ?_)
  refine q_load (v := (6, 455, 0)) (p2 := 26) rfl rfl rfl rfl ?_
  refine q_getv (v := (0, 0, 0)) (p2 := 27) rfl (x_KS_455 hK138) (by decide) hK138.1.choose_spec.2.2.2.2.2.2.2.2.2.2.2.2.2.2.2.2.2.1 rfl ?_
  refine q_if0_s (p2 := 28) rfl (by decide) (by omega) rfl (fun hb => absurd hb (show ¬ (¬ (0 = 0)) by omega)) (fun _ => ?_)
  refine q_load (v := (6, 455, 0)) (p2 := 29) rfl rfl rfl rfl ?_
  refine x_n_lt (fun hlt140 => ?_)
  have hm139 := (x_PS_at hm135 (fun j hj hne => by have hj2 := x_some_lt hlt136 hne; exact (frn138 j (by omega))))
  refine q_callrE (xs := [(6, 455, 0)]) (p2 := 30) rfl rfl rfl rfl (x_rcv_s 455 (x_KS_455 hK138)) rfl (k_fetchw hc68 hm139.1.choose_spec hK138 (by omega)) (Nat.le_refl _) (Nat.le_refl _) rfl (fun φ141 hR141 => ?_)
  obtain ⟨hK141, frn141⟩ := hR141
  refine q_store (loc2 := [(6, 455, 0), (0, 60, 0), (6, 225, 0), (0, 19, 0), (0, 31, 0)]) (p2 := 31) rfl rfl rfl rfl rfl ?_
  refine q_load (v := (0, 31, 0)) (p2 := 32) rfl rfl rfl rfl ?_
  refine q_const (p2 := 33) rfl rfl ?_
  refine q_icmp_s (p2 := 34) rfl (by decide) (by omega) (by omega) rfl (fun _ => ?_) (fun hb => absurd (show 10 < 31 by omega) hb)
  refine q_load (v := (0, 31, 0)) (p2 := 39) rfl rfl rfl rfl ?_
  refine q_const (p2 := 40) rfl rfl ?_
  refine q_icmp_s (p2 := 41) rfl (by decide) (by omega) (by omega) rfl (fun _ => ?_) (fun hb => absurd (show 19 < 31 by omega) hb)
  refine q_load (v := (6, 455, 0)) (p2 := 46) rfl rfl rfl rfl ?_
  refine q_load (v := (0, 31, 0)) (p2 := 47) rfl rfl rfl rfl ?_
  refine x_n_lt (fun hlt143 => ?_)
  have hm142 := (x_PS_at hm139 (fun j hj hne => by have hj2 := x_some_lt hlt140 hne; exact (frn141 j (by omega))))
  have hv144 := x_mv_at hv137 (fun j hj hne => by have hj2 := x_some_lt hlt136 hne; exact ((frn141 j (by omega)).trans (frn138 j (by omega))))
  refine q_callvB (xs := [(0, 31, 0), (6, 455, 0)]) (p2 := 48) rfl rfl rfl rfl (x_rcv_s 455 (x_KS_455 hK141)) rfl (k_lead_31 (top := 0) (fr := 0) hm142.1.choose_spec hK141 (by omega) (by omega) hv144 (Or.inl rfl) (by omega) (by show (0 : Nat) < 4096; decide)) rfl (fun φ145 n145 sl145 hn145 hN145 hs145 hT145 hR145 => ?_)
  obtain ⟨hK145, frn145⟩ := hR145
  refine q_iinc (z := 20) (loc2 := [(6, 455, 0), (0, 60, 0), (6, 225, 0), (0, 20, 0), (0, 31, 0)]) (p2 := 49) rfl rfl (by decide) rfl rfl ?_
  refine q_goto rfl ?_
  refine q_load (v := (0, 20, 0)) (p2 := 20) rfl rfl rfl rfl ?_
  refine q_const (p2 := 21) rfl rfl ?_
  refine q_icmp_s (p2 := 22) rfl (by decide) (by omega) (by omega) rfl (fun hb => absurd hb (show ¬ (¬ (20 < 1000000)) by omega)) (fun _ => ?_)
  refine q_load (v := (6, 455, 0)) (p2 := 23) rfl rfl rfl rfl ?_
  refine q_getv (v := (0, 0, 0)) (p2 := 24) rfl (x_KS_455 hK145) (by decide) hK145.1.choose_spec.2.2.2.2.2.2.2.2.2.2.2.1 rfl ?_
  refine q_if0_s (p2 := 25) rfl (by decide) (by omega) rfl (fun _ => ?_) (fun hb => absurd (show ¬ (0 < 0) by omega) hb)
  refine q_load (v := (6, 455, 0)) (p2 := 51) rfl rfl rfl rfl ?_
  refine q_getv (v := (0, 0, 0)) (p2 := 52) rfl (x_KS_455 hK145) (by decide) hK145.1.choose_spec.2.2.2.2.2.2.2.2.2.2.2.2.2.2.2.2.2.1 rfl ?_
  refine q_if0_s (p2 := 53) rfl (by decide) (by omega) rfl (fun _ => ?_) (fun hb => absurd (show 0 = 0 by omega) hb)
  refine q_load (v := (6, 455, 0)) (p2 := 57) rfl rfl rfl rfl ?_
  refine q_callrE (xs := [(6, 455, 0)]) (p2 := 58) rfl rfl rfl rfl (x_rcv_s 455 (x_KS_455 hK145)) rfl (k_pop (top := 0) hK145 (by omega)) (Nat.le_refl _) (Nat.le_refl _) rfl (fun φ146 hR146 => ?_)
  obtain ⟨hK146, frn146⟩ := hR146
  refine x_n_lt (fun hlt148 => ?_)
  have hv147 := x_mv_at hv144 (fun j hj hne => by have hj2 := x_some_lt hlt143 hne; exact ((frn146 j (by omega)).trans (frn145 j (by omega))))
  exact q_retv (v := (6, v130, 0)) rfl rfl (⟨rfl, ⟨by omega, by omega⟩, ⟨by omega, by omega⟩, v130, rfl, ⟨_, _, _, _, _, _, _, _, _, _, hK146⟩, hv147, fun j hj1 hj2 => ((frn146 j (by omega)).trans ((frn145 j (by omega)).trans ((frn141 j (by omega)).trans ((frn138 j (by omega)).trans ((frn134 j (by omega)).trans ((frn130 j (by omega) (by omega)).trans ((frn125 j (by omega)).trans ((frn121 j (by omega) (by omega)).trans ((frn118 j (by omega)).trans ((frn115 j (by omega)).trans ((frn112 j (by omega)).trans ((frn108 j (by omega)).trans ((frn104 j (by omega)).trans ((frn101 j (by omega)).trans ((frn97 j (by omega)).trans ((frn94 j (by omega)).trans ((frn91 j (by omega)).trans ((frn88 j (by omega)).trans ((frn85 j (by omega)).trans ((frn82 j (by omega)).trans ((frn78 j (by omega)).trans ((frn74 j (by omega) (by omega)).trans ((frn70 j (by omega)).trans ((frn66 j (by omega)).trans ((frn62 j (by omega)).trans ((frn59 j (by omega)).trans ((frn55 j (by omega)).trans ((frn52 j (by omega)).trans ((frn49 j (by omega)).trans ((frn46 j (by omega)).trans ((frn43 j (by omega)).trans ((frn40 j (by omega)).trans ((frn37 j (by omega)).trans ((frn34 j (by omega)).trans ((frn30 j (by omega)).trans ((frn26 j (by omega) (by omega)).trans ((frn23 j (by omega)).trans ((frn20 j (by omega)).trans ((frn17 j (by omega)).trans ((frn14 j (by omega)).trans ((frn11 j (by omega)).trans ((frn8 j (by omega)).trans ((fr4 j (by omega)).trans ((fr3 j (by omega)).trans ((fr2 j (by omega)).trans (fr1 j (by omega)))))))))))))))))))))))))))))))))))))))))))))))⟩)
set_option maxHeartbeats 1000000 in
theorem zc_run_where {d n sl : Nat} {φ : FH} {A : Nat} {B : Nat} {made : Nat} {sv : Nat} {svm : Nat} {s9 : Nat} {comb : Nat → Nat} {hm : Nat → MV} {top : Nat} {fr : Nat} {pc_ : Nat} {mm : Nat} {mi : Nat} {st : Nat → Nat} {lo : Nat → Nat} {re : Nat → Nat} {rs : Nat → Nat} {fl : Nat → Nat} {se : Nat → Nat} {co : Nat → Nat} {w1 vs : Nat} (hPS : x_PS φ A B made sv svm s9 comb hm) (hKS : x_KS φ top fr pc_ mm mi st lo re rs fl se co) (hn0 : 486 ≤ n) (hmi : mi + 30 ≤ 20000) (hc20 : co 20 = 1) (hc21 : co 21 = 1) (hc22 : co 22 = 1) (hc23 : co 23 = 1) (hc24 : co 24 = 9) (hc25 : co 25 = 11) (hc26 : co 26 = 0) (hc27 : co 27 = 19) (hc28 : co 28 = 8) (hc29 : co 29 = 31) (hvs : x_mv φ vs (5, w1, 0, 0, [])) (hw1 : w1 < 512) (hisA : x_isA made comb w1 0) : x_f x_P (d + 6) 56 [(6, 455, 0), (0, 20, 0), (6, vs, 0), (11, 0, 0), (11, 0, 0)] φ n sl (x_bR n sl 1 7 (fun zw φ2 => ∃ v, zw = (6, v, 0) ∧ x_KJ φ2 (mi + 2) co ∧ x_mv φ2 v (if (hm (w1 * 40 + 0)).1 = 0 then (3, 0, 0, 0, []) else (3, 2, 0, 0, [])) ∧ ∀ j, j < n → (j < 455 ∨ 466 ≤ j) → φ2 j = φ j)) := by
  refine x_f_of rfl ?_
  refine x_n_lt (fun hlt0 => ?_)
  have hz1 := x_mv_lt hvs hlt0
  have hy1 := hvs.1
  refine q_load (v := (6, 455, 0)) (p2 := 1) rfl rfl rfl rfl ?_
  refine q_const (p2 := 2) rfl rfl ?_
  refine q_putfE (v := (0, 0, 0)) (p2 := 3) rfl (x_KS_455 hKS) (by decide) rfl rfl (fun φ2 f2 hh2 hg2 ho2 fr2 => ?_)
  have hs2 := x_KS_put_18 hKS hh2 hg2 ho2 fr2
  refine q_load (v := (6, 455, 0)) (p2 := 4) rfl rfl rfl rfl ?_
  refine q_const (p2 := 5) rfl rfl ?_
  refine q_putfE (v := (0, 0, 0)) (p2 := 6) rfl (x_KS_455 hs2) (by decide) rfl rfl (fun φ3 f3 hh3 hg3 ho3 fr3 => ?_)
  have hs3 := x_KS_put_16 hs2 hh3 hg3 ho3 fr3
  refine q_load (v := (6, 455, 0)) (p2 := 7) rfl rfl rfl rfl ?_
  refine q_const (p2 := 8) rfl rfl ?_
  refine q_putfE (v := (0, 0, 0)) (p2 := 9) rfl (x_KS_455 hs3) (by decide) rfl rfl (fun φ4 f4 hh4 hg4 ho4 fr4 => ?_)
  have hs4 := x_KS_put_4 hs3 hh4 hg4 ho4 fr4
  refine q_load (v := (6, 455, 0)) (p2 := 10) rfl rfl rfl rfl ?_
  refine q_const (p2 := 11) rfl rfl ?_
  refine q_putfE (v := (0, 0, 0)) (p2 := 12) rfl (x_KS_455 hs4) (by decide) rfl rfl (fun φ5 f5 hh5 hg5 ho5 fr5 => ?_)
  have hs5 := x_KS_put_10 hs4 hh5 hg5 ho5 fr5
  refine q_load (v := (6, 455, 0)) (p2 := 13) rfl rfl rfl rfl ?_
  refine q_load (v := (0, 20, 0)) (p2 := 14) rfl rfl rfl rfl ?_
  refine q_const (p2 := 15) rfl rfl ?_
  refine q_load (v := (6, vs, 0)) (p2 := 16) rfl rfl rfl rfl ?_
  refine x_n_lt (fun hlt7 => ?_)
  have hm6 := (x_PS_at hPS (fun j hj hne => by have hj2 := x_some_lt hlt0 hne; exact ((fr5 j (by omega)).trans ((fr4 j (by omega)).trans ((fr3 j (by omega)).trans (fr2 j (by omega)))))))
  have hv8 := x_mv_at hvs (fun j hj hne => by have hj2 := x_some_lt hlt0 hne; exact ((fr5 j (by omega)).trans ((fr4 j (by omega)).trans ((fr3 j (by omega)).trans (fr2 j (by omega))))))
  refine q_callvE (xs := [(6, vs, 0), (0, 4294967293, 0), (0, 20, 0), (6, 455, 0)]) (p2 := 17) rfl rfl rfl rfl (x_rcv_s 455 (x_KS_455 hs5)) rfl (k_open hs5 (x_PS_N hm6) hv8 (by omega)) (Nat.le_refl _) (Nat.le_refl _) rfl (fun φ9 hR9 => ?_)
  obtain ⟨hK9, frn9⟩ := hR9
  refine q_const (p2 := 18) rfl rfl ?_
  refine q_store (loc2 := [(6, 455, 0), (0, 20, 0), (6, vs, 0), (0, 0, 0), (11, 0, 0)]) (p2 := 19) rfl rfl rfl rfl rfl ?_
  refine q_load (v := (0, 0, 0)) (p2 := 20) rfl rfl rfl rfl ?_
  refine q_const (p2 := 21) rfl rfl ?_
  refine q_icmp_s (p2 := 22) rfl (by decide) (by omega) (by omega) rfl (fun hb => absurd hb (show ¬ (¬ (0 < 1000000)) by omega)) (fun _ => ?_)
  refine q_load (v := (6, 455, 0)) (p2 := 23) rfl rfl rfl rfl ?_
  refine q_getv (v := (0, 1, 0)) (p2 := 24) rfl (x_KS_455 hK9) (by decide) hK9.1.choose_spec.2.2.2.2.2.2.2.2.2.2.2.1 rfl ?_
  refine q_if0_s (p2 := 25) rfl (by decide) (by omega) rfl (fun hb => absurd hb (show ¬ (¬ (0 < 1)) by omega)) (fun _ => ?_)
  refine q_load (v := (6, 455, 0)) (p2 := 26) rfl rfl rfl rfl ?_
  refine q_getv (v := (0, 0, 0)) (p2 := 27) rfl (x_KS_455 hK9) (by decide) hK9.1.choose_spec.2.2.2.2.2.2.2.2.2.2.2.2.2.2.2.2.2.1 rfl ?_
  refine q_if0_s (p2 := 28) rfl (by decide) (by omega) rfl (fun hb => absurd hb (show ¬ (¬ (0 = 0)) by omega)) (fun _ => ?_)
  refine q_load (v := (6, 455, 0)) (p2 := 29) rfl rfl rfl rfl ?_
  refine x_n_lt (fun hlt11 => ?_)
  have hm10 := (x_PS_at hm6 (fun j hj hne => by have hj2 := x_some_lt hlt7 hne; exact (frn9 j (by omega))))
  refine q_callrE (xs := [(6, 455, 0)]) (p2 := 30) rfl rfl rfl rfl (x_rcv_s 455 (x_KS_455 hK9)) rfl (k_fetchw hc20 hm10.1.choose_spec hK9 (by omega)) (Nat.le_refl _) (Nat.le_refl _) rfl (fun φ12 hR12 => ?_)
  obtain ⟨hK12, frn12⟩ := hR12
  refine q_store (loc2 := [(6, 455, 0), (0, 20, 0), (6, vs, 0), (0, 0, 0), (0, 1, 0)]) (p2 := 31) rfl rfl rfl rfl rfl ?_
  refine q_load (v := (0, 1, 0)) (p2 := 32) rfl rfl rfl rfl ?_
  refine q_const (p2 := 33) rfl rfl ?_
  refine q_icmp_s (p2 := 34) rfl (by decide) (by omega) (by omega) rfl (fun hb => absurd hb (show ¬ (10 < 1) by omega)) (fun _ => ?_)
  refine q_load (v := (6, 455, 0)) (p2 := 35) rfl rfl rfl rfl ?_
  refine q_load (v := (0, 1, 0)) (p2 := 36) rfl rfl rfl rfl ?_
  refine x_n_lt (fun hlt14 => ?_)
  have hm13 := (x_PS_at hm10 (fun j hj hne => by have hj2 := x_some_lt hlt11 hne; exact (frn12 j (by omega))))
  refine q_callvB (xs := [(0, 1, 0), (6, 455, 0)]) (p2 := 37) rfl rfl rfl rfl (x_rcv_s 455 (x_KS_455 hK12)) rfl (k_plain_1w hc21 hm13.1.choose_spec hK12 (by omega) (by omega) (by omega) (by omega)) rfl (fun φ15 n15 sl15 hn15 hN15 hs15 hT15 hR15 => ?_)
  obtain ⟨hK15, frn15⟩ := hR15
  refine q_goto rfl ?_
  refine q_iinc (z := 1) (loc2 := [(6, 455, 0), (0, 20, 0), (6, vs, 0), (0, 1, 0), (0, 1, 0)]) (p2 := 49) rfl rfl (by decide) rfl rfl ?_
  refine q_goto rfl ?_
  refine q_load (v := (0, 1, 0)) (p2 := 20) rfl rfl rfl rfl ?_
  refine q_const (p2 := 21) rfl rfl ?_
  refine q_icmp_s (p2 := 22) rfl (by decide) (by omega) (by omega) rfl (fun hb => absurd hb (show ¬ (¬ (1 < 1000000)) by omega)) (fun _ => ?_)
  refine q_load (v := (6, 455, 0)) (p2 := 23) rfl rfl rfl rfl ?_
  refine q_getv (v := (0, 1, 0)) (p2 := 24) rfl (x_KS_455 hK15) (by decide) hK15.1.choose_spec.2.2.2.2.2.2.2.2.2.2.2.1 rfl ?_
  refine q_if0_s (p2 := 25) rfl (by decide) (by omega) rfl (fun hb => absurd hb (show ¬ (¬ (0 < 1)) by omega)) (fun _ => ?_)
  refine q_load (v := (6, 455, 0)) (p2 := 26) rfl rfl rfl rfl ?_
  refine q_getv (v := (0, 0, 0)) (p2 := 27) rfl (x_KS_455 hK15) (by decide) hK15.1.choose_spec.2.2.2.2.2.2.2.2.2.2.2.2.2.2.2.2.2.1 rfl ?_
  refine q_if0_s (p2 := 28) rfl (by decide) (by omega) rfl (fun hb => absurd hb (show ¬ (¬ (0 = 0)) by omega)) (fun _ => ?_)
  refine q_load (v := (6, 455, 0)) (p2 := 29) rfl rfl rfl rfl ?_
  refine x_n_lt (fun hlt17 => ?_)
  have hm16 := (x_PS_at hm13 (fun j hj hne => by have hj2 := x_some_lt hlt14 hne; exact (frn15 j (by omega))))
  refine q_callrE (xs := [(6, 455, 0)]) (p2 := 30) rfl rfl rfl rfl (x_rcv_s 455 (x_KS_455 hK15)) rfl (k_fetchw hc22 hm16.1.choose_spec hK15 (by omega)) (Nat.le_refl _) (Nat.le_refl _) rfl (fun φ18 hR18 => ?_)
  obtain ⟨hK18, frn18⟩ := hR18
  refine q_store (loc2 := [(6, 455, 0), (0, 20, 0), (6, vs, 0), (0, 1, 0), (0, 1, 0)]) (p2 := 31) rfl rfl rfl rfl rfl ?_
  refine q_load (v := (0, 1, 0)) (p2 := 32) rfl rfl rfl rfl ?_
  refine q_const (p2 := 33) rfl rfl ?_
  refine q_icmp_s (p2 := 34) rfl (by decide) (by omega) (by omega) rfl (fun hb => absurd hb (show ¬ (10 < 1) by omega)) (fun _ => ?_)
  refine q_load (v := (6, 455, 0)) (p2 := 35) rfl rfl rfl rfl ?_
  refine q_load (v := (0, 1, 0)) (p2 := 36) rfl rfl rfl rfl ?_
  refine x_n_lt (fun hlt20 => ?_)
  have hm19 := (x_PS_at hm16 (fun j hj hne => by have hj2 := x_some_lt hlt17 hne; exact (frn18 j (by omega))))
  refine q_callvB (xs := [(0, 1, 0), (6, 455, 0)]) (p2 := 37) rfl rfl rfl rfl (x_rcv_s 455 (x_KS_455 hK18)) rfl (k_plain_1w hc23 hm19.1.choose_spec hK18 (by omega) (by omega) (by omega) (by omega)) rfl (fun φ21 n21 sl21 hn21 hN21 hs21 hT21 hR21 => ?_)
  obtain ⟨hK21, frn21⟩ := hR21
  refine q_goto rfl ?_
  refine q_iinc (z := 2) (loc2 := [(6, 455, 0), (0, 20, 0), (6, vs, 0), (0, 2, 0), (0, 1, 0)]) (p2 := 49) rfl rfl (by decide) rfl rfl ?_
  refine q_goto rfl ?_
  refine q_load (v := (0, 2, 0)) (p2 := 20) rfl rfl rfl rfl ?_
  refine q_const (p2 := 21) rfl rfl ?_
  refine q_icmp_s (p2 := 22) rfl (by decide) (by omega) (by omega) rfl (fun hb => absurd hb (show ¬ (¬ (2 < 1000000)) by omega)) (fun _ => ?_)
  refine q_load (v := (6, 455, 0)) (p2 := 23) rfl rfl rfl rfl ?_
  refine q_getv (v := (0, 1, 0)) (p2 := 24) rfl (x_KS_455 hK21) (by decide) hK21.1.choose_spec.2.2.2.2.2.2.2.2.2.2.2.1 rfl ?_
  refine q_if0_s (p2 := 25) rfl (by decide) (by omega) rfl (fun hb => absurd hb (show ¬ (¬ (0 < 1)) by omega)) (fun _ => ?_)
  refine q_load (v := (6, 455, 0)) (p2 := 26) rfl rfl rfl rfl ?_
  refine q_getv (v := (0, 0, 0)) (p2 := 27) rfl (x_KS_455 hK21) (by decide) hK21.1.choose_spec.2.2.2.2.2.2.2.2.2.2.2.2.2.2.2.2.2.1 rfl ?_
  refine q_if0_s (p2 := 28) rfl (by decide) (by omega) rfl (fun hb => absurd hb (show ¬ (¬ (0 = 0)) by omega)) (fun _ => ?_)
  refine q_load (v := (6, 455, 0)) (p2 := 29) rfl rfl rfl rfl ?_
  refine x_n_lt (fun hlt23 => ?_)
  have hm22 := (x_PS_at hm19 (fun j hj hne => by have hj2 := x_some_lt hlt20 hne; exact (frn21 j (by omega))))
  refine q_callrE (xs := [(6, 455, 0)]) (p2 := 30) rfl rfl rfl rfl (x_rcv_s 455 (x_KS_455 hK21)) rfl (k_fetchw hc24 hm22.1.choose_spec hK21 (by omega)) (Nat.le_refl _) (Nat.le_refl _) rfl (fun φ24 hR24 => ?_)
  obtain ⟨hK24, frn24⟩ := hR24
  refine q_store (loc2 := [(6, 455, 0), (0, 20, 0), (6, vs, 0), (0, 2, 0), (0, 9, 0)]) (p2 := 31) rfl rfl rfl rfl rfl ?_
  refine q_load (v := (0, 9, 0)) (p2 := 32) rfl rfl rfl rfl ?_
  refine q_const (p2 := 33) rfl rfl ?_
  refine q_icmp_s (p2 := 34) rfl (by decide) (by omega) (by omega) rfl (fun hb => absurd hb (show ¬ (10 < 9) by omega)) (fun _ => ?_)
  refine q_load (v := (6, 455, 0)) (p2 := 35) rfl rfl rfl rfl ?_
  refine q_load (v := (0, 9, 0)) (p2 := 36) rfl rfl rfl rfl ?_
  refine x_n_lt (fun hlt26 => ?_)
  have hm25 := (x_PS_at hm22 (fun j hj hne => by have hj2 := x_some_lt hlt23 hne; exact (frn24 j (by omega))))
  have hv27 := x_mv_at hv8 (fun j hj hne => by have hj2 := x_some_lt hlt7 hne; exact ((frn24 j (by omega)).trans ((frn21 j (by omega)).trans ((frn18 j (by omega)).trans ((frn15 j (by omega)).trans ((frn12 j (by omega)).trans (frn9 j (by omega))))))))
  refine q_callvB (xs := [(0, 9, 0), (6, 455, 0)]) (p2 := 37) rfl rfl rfl rfl (x_rcv_s 455 (x_KS_455 hK24)) rfl (k_plain_9 hm25.1.choose_spec hK24 (by omega) (by omega) hv27 (by omega)) rfl (fun φ28 n28 sl28 hn28 hN28 hs28 hT28 hR28 => ?_)
  obtain ⟨hK28, frn28⟩ := hR28
  refine q_goto rfl ?_
  refine q_iinc (z := 3) (loc2 := [(6, 455, 0), (0, 20, 0), (6, vs, 0), (0, 3, 0), (0, 9, 0)]) (p2 := 49) rfl rfl (by decide) rfl rfl ?_
  refine q_goto rfl ?_
  refine q_load (v := (0, 3, 0)) (p2 := 20) rfl rfl rfl rfl ?_
  refine q_const (p2 := 21) rfl rfl ?_
  refine q_icmp_s (p2 := 22) rfl (by decide) (by omega) (by omega) rfl (fun hb => absurd hb (show ¬ (¬ (3 < 1000000)) by omega)) (fun _ => ?_)
  refine q_load (v := (6, 455, 0)) (p2 := 23) rfl rfl rfl rfl ?_
  refine q_getv (v := (0, 1, 0)) (p2 := 24) rfl (x_KS_455 hK28) (by decide) hK28.1.choose_spec.2.2.2.2.2.2.2.2.2.2.2.1 rfl ?_
  refine q_if0_s (p2 := 25) rfl (by decide) (by omega) rfl (fun hb => absurd hb (show ¬ (¬ (0 < 1)) by omega)) (fun _ => ?_)
  refine q_load (v := (6, 455, 0)) (p2 := 26) rfl rfl rfl rfl ?_
  refine q_getv (v := (0, 0, 0)) (p2 := 27) rfl (x_KS_455 hK28) (by decide) hK28.1.choose_spec.2.2.2.2.2.2.2.2.2.2.2.2.2.2.2.2.2.1 rfl ?_
  refine q_if0_s (p2 := 28) rfl (by decide) (by omega) rfl (fun hb => absurd hb (show ¬ (¬ (0 = 0)) by omega)) (fun _ => ?_)
  refine q_load (v := (6, 455, 0)) (p2 := 29) rfl rfl rfl rfl ?_
  refine x_n_lt (fun hlt30 => ?_)
  have hm29 := (x_PS_at hm25 (fun j hj hne => by have hj2 := x_some_lt hlt26 hne; exact (frn28 j (by omega))))
  refine q_callrE (xs := [(6, 455, 0)]) (p2 := 30) rfl rfl rfl rfl (x_rcv_s 455 (x_KS_455 hK28)) rfl (k_fetchw hc25 hm29.1.choose_spec hK28 (by omega)) (Nat.le_refl _) (Nat.le_refl _) rfl (fun φ31 hR31 => ?_)
  obtain ⟨hK31, frn31⟩ := hR31
  refine q_store (loc2 := [(6, 455, 0), (0, 20, 0), (6, vs, 0), (0, 3, 0), (0, 11, 0)]) (p2 := 31) rfl rfl rfl rfl rfl ?_
  refine q_load (v := (0, 11, 0)) (p2 := 32) rfl rfl rfl rfl ?_
  refine q_const (p2 := 33) rfl rfl ?_
  refine q_icmp_s (p2 := 34) rfl (by decide) (by omega) (by omega) rfl (fun _ => ?_) (fun hb => absurd (show 10 < 11 by omega) hb)
  refine q_load (v := (0, 11, 0)) (p2 := 39) rfl rfl rfl rfl ?_
  refine q_const (p2 := 40) rfl rfl ?_
  refine q_icmp_s (p2 := 41) rfl (by decide) (by omega) (by omega) rfl (fun hb => absurd hb (show ¬ (19 < 11) by omega)) (fun _ => ?_)
  refine q_load (v := (6, 455, 0)) (p2 := 42) rfl rfl rfl rfl ?_
  refine q_load (v := (0, 11, 0)) (p2 := 43) rfl rfl rfl rfl ?_
  refine x_n_lt (fun hlt33 => ?_)
  have hm32 := (x_PS_at hm29 (fun j hj hne => by have hj2 := x_some_lt hlt30 hne; exact (frn31 j (by omega))))
  have hv34 := x_mv_at hv27 (fun j hj hne => by have hj2 := x_some_lt hlt26 hne; exact ((frn31 j (by omega)).trans (frn28 j (by omega))))
  refine q_callvB (xs := [(0, 11, 0), (6, 455, 0)]) (p2 := 44) rfl rfl rfl rfl (x_rcv_s 455 (x_KS_455 hK31)) rfl (k_op_11_0 hm32.1.choose_spec hK31 (by omega) (by omega) hm32.2.1 (x_PS_H hm32) (x_PS_M hm32) (x_PS_N hm32) hv34 hc26) rfl (fun φ35 n35 sl35 hn35 hN35 hs35 hT35 hR35 => ?_)
  obtain ⟨v35, hK35, hV35, frn35⟩ := hR35
  rw [if_pos ⟨rfl, hisA⟩] at hV35
  refine x_n_lt (fun hlt36 => ?_)
  have hz37 := x_mv_lt hV35 hlt36
  have hy37 := hV35.1
  refine q_goto rfl ?_
  refine q_iinc (z := 4) (loc2 := [(6, 455, 0), (0, 20, 0), (6, vs, 0), (0, 4, 0), (0, 11, 0)]) (p2 := 49) rfl rfl (by decide) rfl rfl ?_
  refine q_goto rfl ?_
  refine q_load (v := (0, 4, 0)) (p2 := 20) rfl rfl rfl rfl ?_
  refine q_const (p2 := 21) rfl rfl ?_
  refine q_icmp_s (p2 := 22) rfl (by decide) (by omega) (by omega) rfl (fun hb => absurd hb (show ¬ (¬ (4 < 1000000)) by omega)) (fun _ => ?_)
  refine q_load (v := (6, 455, 0)) (p2 := 23) rfl rfl rfl rfl ?_
  refine q_getv (v := (0, 1, 0)) (p2 := 24) rfl (x_KS_455 hK35) (by decide) hK35.1.choose_spec.2.2.2.2.2.2.2.2.2.2.2.1 rfl ?_
  refine q_if0_s (p2 := 25) rfl (by decide) (by omega) rfl (fun hb => absurd hb (show ¬ (¬ (0 < 1)) by omega)) (fun _ => ?_)
  refine q_load (v := (6, 455, 0)) (p2 := 26) rfl rfl rfl rfl ?_
  refine q_getv (v := (0, 0, 0)) (p2 := 27) rfl (x_KS_455 hK35) (by decide) hK35.1.choose_spec.2.2.2.2.2.2.2.2.2.2.2.2.2.2.2.2.2.1 rfl ?_
  refine q_if0_s (p2 := 28) rfl (by decide) (by omega) rfl (fun hb => absurd hb (show ¬ (¬ (0 = 0)) by omega)) (fun _ => ?_)
  refine q_load (v := (6, 455, 0)) (p2 := 29) rfl rfl rfl rfl ?_
  have hm38 := (x_PS_at hm32 (fun j hj hne => by have hj2 := x_some_lt hlt33 hne; exact (frn35 j (by omega))))
  refine q_callrE (xs := [(6, 455, 0)]) (p2 := 30) rfl rfl rfl rfl (x_rcv_s 455 (x_KS_455 hK35)) rfl (k_fetchw hc27 hm38.1.choose_spec hK35 (by omega)) (Nat.le_refl _) (Nat.le_refl _) rfl (fun φ39 hR39 => ?_)
  obtain ⟨hK39, frn39⟩ := hR39
  refine q_store (loc2 := [(6, 455, 0), (0, 20, 0), (6, vs, 0), (0, 4, 0), (0, 19, 0)]) (p2 := 31) rfl rfl rfl rfl rfl ?_
  refine q_load (v := (0, 19, 0)) (p2 := 32) rfl rfl rfl rfl ?_
  refine q_const (p2 := 33) rfl rfl ?_
  refine q_icmp_s (p2 := 34) rfl (by decide) (by omega) (by omega) rfl (fun _ => ?_) (fun hb => absurd (show 10 < 19 by omega) hb)
  refine q_load (v := (0, 19, 0)) (p2 := 39) rfl rfl rfl rfl ?_
  refine q_const (p2 := 40) rfl rfl ?_
  refine q_icmp_s (p2 := 41) rfl (by decide) (by omega) (by omega) rfl (fun hb => absurd hb (show ¬ (19 < 19) by omega)) (fun _ => ?_)
  refine q_load (v := (6, 455, 0)) (p2 := 42) rfl rfl rfl rfl ?_
  refine q_load (v := (0, 19, 0)) (p2 := 43) rfl rfl rfl rfl ?_
  refine x_n_lt (fun hlt41 => ?_)
  have hm40 := (x_PS_at hm38 (fun j hj hne => by have hj2 := x_some_lt hlt36 hne; exact (frn39 j (by omega))))
  have hv42 := x_mv_at hV35 (fun j hj hne => by have hj2 := x_some_lt hlt36 hne; exact (frn39 j (by omega)))
  refine q_callvB (xs := [(0, 19, 0), (6, 455, 0)]) (p2 := 44) rfl rfl rfl rfl (x_rcv_s 455 (x_KS_455 hK39)) rfl (k_op_19_8 hm40.1.choose_spec hK39 (by omega) (by omega) hv42 hc28 (by omega)) rfl (fun φ43 n43 sl43 hn43 hN43 hs43 hT43 hR43 => ?_)
  obtain ⟨v43, hK43, hV43, frn43⟩ := hR43
  refine x_n_lt (fun hlt44 => ?_)
  have hz45 := x_mv_lt hV43 hlt44
  have hy45 := hV43.1
  refine q_goto rfl ?_
  refine q_iinc (z := 5) (loc2 := [(6, 455, 0), (0, 20, 0), (6, vs, 0), (0, 5, 0), (0, 19, 0)]) (p2 := 49) rfl rfl (by decide) rfl rfl ?_
  refine q_goto rfl ?_
  refine q_load (v := (0, 5, 0)) (p2 := 20) rfl rfl rfl rfl ?_
  refine q_const (p2 := 21) rfl rfl ?_
  refine q_icmp_s (p2 := 22) rfl (by decide) (by omega) (by omega) rfl (fun hb => absurd hb (show ¬ (¬ (5 < 1000000)) by omega)) (fun _ => ?_)
  refine q_load (v := (6, 455, 0)) (p2 := 23) rfl rfl rfl rfl ?_
  refine q_getv (v := (0, 1, 0)) (p2 := 24) rfl (x_KS_455 hK43) (by decide) hK43.1.choose_spec.2.2.2.2.2.2.2.2.2.2.2.1 rfl ?_
  refine q_if0_s (p2 := 25) rfl (by decide) (by omega) rfl (fun hb => absurd hb (show ¬ (¬ (0 < 1)) by omega)) (fun _ => ?_)
  refine q_load (v := (6, 455, 0)) (p2 := 26) rfl rfl rfl rfl ?_
  refine q_getv (v := (0, 0, 0)) (p2 := 27) rfl (x_KS_455 hK43) (by decide) hK43.1.choose_spec.2.2.2.2.2.2.2.2.2.2.2.2.2.2.2.2.2.1 rfl ?_
  refine q_if0_s (p2 := 28) rfl (by decide) (by omega) rfl (fun hb => absurd hb (show ¬ (¬ (0 = 0)) by omega)) (fun _ => ?_)
  refine q_load (v := (6, 455, 0)) (p2 := 29) rfl rfl rfl rfl ?_
  have hm46 := (x_PS_at hm40 (fun j hj hne => by have hj2 := x_some_lt hlt41 hne; exact (frn43 j (by omega) (by omega))))
  refine q_callrE (xs := [(6, 455, 0)]) (p2 := 30) rfl rfl rfl rfl (x_rcv_s 455 (x_KS_455 hK43)) rfl (k_fetchw hc29 hm46.1.choose_spec hK43 (by omega)) (Nat.le_refl _) (Nat.le_refl _) rfl (fun φ47 hR47 => ?_)
  obtain ⟨hK47, frn47⟩ := hR47
  refine q_store (loc2 := [(6, 455, 0), (0, 20, 0), (6, vs, 0), (0, 5, 0), (0, 31, 0)]) (p2 := 31) rfl rfl rfl rfl rfl ?_
  refine q_load (v := (0, 31, 0)) (p2 := 32) rfl rfl rfl rfl ?_
  refine q_const (p2 := 33) rfl rfl ?_
  refine q_icmp_s (p2 := 34) rfl (by decide) (by omega) (by omega) rfl (fun _ => ?_) (fun hb => absurd (show 10 < 31 by omega) hb)
  refine q_load (v := (0, 31, 0)) (p2 := 39) rfl rfl rfl rfl ?_
  refine q_const (p2 := 40) rfl rfl ?_
  refine q_icmp_s (p2 := 41) rfl (by decide) (by omega) (by omega) rfl (fun _ => ?_) (fun hb => absurd (show 19 < 31 by omega) hb)
  refine q_load (v := (6, 455, 0)) (p2 := 46) rfl rfl rfl rfl ?_
  refine q_load (v := (0, 31, 0)) (p2 := 47) rfl rfl rfl rfl ?_
  refine x_n_lt (fun hlt49 => ?_)
  have hm48 := (x_PS_at hm46 (fun j hj hne => by have hj2 := x_some_lt hlt44 hne; exact (frn47 j (by omega))))
  have hv50 := x_mv_at hV43 (fun j hj hne => by have hj2 := x_some_lt hlt44 hne; exact (frn47 j (by omega)))
  refine q_callvB (xs := [(0, 31, 0), (6, 455, 0)]) (p2 := 48) rfl rfl rfl rfl (x_rcv_s 455 (x_KS_455 hK47)) rfl (k_lead_31 (top := 0) (fr := 0) hm48.1.choose_spec hK47 (by omega) (by omega) hv50 (Or.inl rfl) (by omega) (by show (0 : Nat) < 4096; decide)) rfl (fun φ51 n51 sl51 hn51 hN51 hs51 hT51 hR51 => ?_)
  obtain ⟨hK51, frn51⟩ := hR51
  refine q_iinc (z := 6) (loc2 := [(6, 455, 0), (0, 20, 0), (6, vs, 0), (0, 6, 0), (0, 31, 0)]) (p2 := 49) rfl rfl (by decide) rfl rfl ?_
  refine q_goto rfl ?_
  refine q_load (v := (0, 6, 0)) (p2 := 20) rfl rfl rfl rfl ?_
  refine q_const (p2 := 21) rfl rfl ?_
  refine q_icmp_s (p2 := 22) rfl (by decide) (by omega) (by omega) rfl (fun hb => absurd hb (show ¬ (¬ (6 < 1000000)) by omega)) (fun _ => ?_)
  refine q_load (v := (6, 455, 0)) (p2 := 23) rfl rfl rfl rfl ?_
  refine q_getv (v := (0, 0, 0)) (p2 := 24) rfl (x_KS_455 hK51) (by decide) hK51.1.choose_spec.2.2.2.2.2.2.2.2.2.2.2.1 rfl ?_
  refine q_if0_s (p2 := 25) rfl (by decide) (by omega) rfl (fun _ => ?_) (fun hb => absurd (show ¬ (0 < 0) by omega) hb)
  refine q_load (v := (6, 455, 0)) (p2 := 51) rfl rfl rfl rfl ?_
  refine q_getv (v := (0, 0, 0)) (p2 := 52) rfl (x_KS_455 hK51) (by decide) hK51.1.choose_spec.2.2.2.2.2.2.2.2.2.2.2.2.2.2.2.2.2.1 rfl ?_
  refine q_if0_s (p2 := 53) rfl (by decide) (by omega) rfl (fun _ => ?_) (fun hb => absurd (show 0 = 0 by omega) hb)
  refine q_load (v := (6, 455, 0)) (p2 := 57) rfl rfl rfl rfl ?_
  refine q_callrE (xs := [(6, 455, 0)]) (p2 := 58) rfl rfl rfl rfl (x_rcv_s 455 (x_KS_455 hK51)) rfl (k_pop (top := 0) hK51 (by omega)) (Nat.le_refl _) (Nat.le_refl _) rfl (fun φ52 hR52 => ?_)
  obtain ⟨hK52, frn52⟩ := hR52
  refine x_n_lt (fun hlt54 => ?_)
  have hv53 := x_mv_at hv50 (fun j hj hne => by have hj2 := x_some_lt hlt49 hne; exact ((frn52 j (by omega)).trans (frn51 j (by omega))))
  exact q_retv (v := (6, v43, 0)) rfl rfl (⟨rfl, ⟨by omega, by omega⟩, ⟨by omega, by omega⟩, v43, rfl, ⟨_, _, _, _, _, _, _, _, _, _, hK52⟩, hv53, fun j hj1 hj2 => ((frn52 j (by omega)).trans ((frn51 j (by omega)).trans ((frn47 j (by omega)).trans ((frn43 j (by omega) (by omega)).trans ((frn39 j (by omega)).trans ((frn35 j (by omega)).trans ((frn31 j (by omega)).trans ((frn28 j (by omega)).trans ((frn24 j (by omega)).trans ((frn21 j (by omega)).trans ((frn18 j (by omega)).trans ((frn15 j (by omega)).trans ((frn12 j (by omega)).trans ((frn9 j (by omega)).trans ((fr5 j (by omega)).trans ((fr4 j (by omega)).trans ((fr3 j (by omega)).trans (fr2 j (by omega)))))))))))))))))))⟩)
set_option maxHeartbeats 1000000 in
theorem zc_run_get0 {d n sl : Nat} {φ : FH} {A : Nat} {B : Nat} {made : Nat} {sv : Nat} {svm : Nat} {s9 : Nat} {comb : Nat → Nat} {hm : Nat → MV} {top : Nat} {fr : Nat} {pc_ : Nat} {mm : Nat} {mi : Nat} {st : Nat → Nat} {lo : Nat → Nat} {re : Nat → Nat} {rs : Nat → Nat} {fl : Nat → Nat} {se : Nat → Nat} {co : Nat → Nat} {w1 vs : Nat} (hPS : x_PS φ A B made sv svm s9 comb hm) (hKS : x_KS φ top fr pc_ mm mi st lo re rs fl se co) (hn0 : 486 ≤ n) (hmi : mi + 30 ≤ 20000) (hc60 : co 60 = 9) (hc61 : co 61 = 11) (hc62 : co 62 = 0) (hc63 : co 63 = 31) (hvs : x_mv φ vs (5, w1, 0, 0, [])) (hw1 : w1 < 512) (hisA : x_isA made comb w1 0) : x_f x_P (d + 6) 56 [(6, 455, 0), (0, 60, 0), (6, vs, 0), (11, 0, 0), (11, 0, 0)] φ n sl (x_bR n sl 0 0 (fun zw φ2 => ∃ v, zw = (6, v, 0) ∧ x_KJ φ2 (mi) co ∧ x_mv φ2 v (hm (w1 * 40 + 0)) ∧ ∀ j, j < n → (j < 455 ∨ 466 ≤ j) → φ2 j = φ j)) := by
  refine x_f_of rfl ?_
  refine x_n_lt (fun hlt0 => ?_)
  have hz1 := x_mv_lt hvs hlt0
  have hy1 := hvs.1
  refine q_load (v := (6, 455, 0)) (p2 := 1) rfl rfl rfl rfl ?_
  refine q_const (p2 := 2) rfl rfl ?_
  refine q_putfE (v := (0, 0, 0)) (p2 := 3) rfl (x_KS_455 hKS) (by decide) rfl rfl (fun φ2 f2 hh2 hg2 ho2 fr2 => ?_)
  have hs2 := x_KS_put_18 hKS hh2 hg2 ho2 fr2
  refine q_load (v := (6, 455, 0)) (p2 := 4) rfl rfl rfl rfl ?_
  refine q_const (p2 := 5) rfl rfl ?_
  refine q_putfE (v := (0, 0, 0)) (p2 := 6) rfl (x_KS_455 hs2) (by decide) rfl rfl (fun φ3 f3 hh3 hg3 ho3 fr3 => ?_)
  have hs3 := x_KS_put_16 hs2 hh3 hg3 ho3 fr3
  refine q_load (v := (6, 455, 0)) (p2 := 7) rfl rfl rfl rfl ?_
  refine q_const (p2 := 8) rfl rfl ?_
  refine q_putfE (v := (0, 0, 0)) (p2 := 9) rfl (x_KS_455 hs3) (by decide) rfl rfl (fun φ4 f4 hh4 hg4 ho4 fr4 => ?_)
  have hs4 := x_KS_put_4 hs3 hh4 hg4 ho4 fr4
  refine q_load (v := (6, 455, 0)) (p2 := 10) rfl rfl rfl rfl ?_
  refine q_const (p2 := 11) rfl rfl ?_
  refine q_putfE (v := (0, 0, 0)) (p2 := 12) rfl (x_KS_455 hs4) (by decide) rfl rfl (fun φ5 f5 hh5 hg5 ho5 fr5 => ?_)
  have hs5 := x_KS_put_10 hs4 hh5 hg5 ho5 fr5
  refine q_load (v := (6, 455, 0)) (p2 := 13) rfl rfl rfl rfl ?_
  refine q_load (v := (0, 60, 0)) (p2 := 14) rfl rfl rfl rfl ?_
  refine q_const (p2 := 15) rfl rfl ?_
  refine q_load (v := (6, vs, 0)) (p2 := 16) rfl rfl rfl rfl ?_
  refine x_n_lt (fun hlt7 => ?_)
  have hm6 := (x_PS_at hPS (fun j hj hne => by have hj2 := x_some_lt hlt0 hne; exact ((fr5 j (by omega)).trans ((fr4 j (by omega)).trans ((fr3 j (by omega)).trans (fr2 j (by omega)))))))
  have hv8 := x_mv_at hvs (fun j hj hne => by have hj2 := x_some_lt hlt0 hne; exact ((fr5 j (by omega)).trans ((fr4 j (by omega)).trans ((fr3 j (by omega)).trans (fr2 j (by omega))))))
  refine q_callvE (xs := [(6, vs, 0), (0, 4294967293, 0), (0, 60, 0), (6, 455, 0)]) (p2 := 17) rfl rfl rfl rfl (x_rcv_s 455 (x_KS_455 hs5)) rfl (k_open hs5 (x_PS_N hm6) hv8 (by omega)) (Nat.le_refl _) (Nat.le_refl _) rfl (fun φ9 hR9 => ?_)
  obtain ⟨hK9, frn9⟩ := hR9
  refine q_const (p2 := 18) rfl rfl ?_
  refine q_store (loc2 := [(6, 455, 0), (0, 60, 0), (6, vs, 0), (0, 0, 0), (11, 0, 0)]) (p2 := 19) rfl rfl rfl rfl rfl ?_
  refine q_load (v := (0, 0, 0)) (p2 := 20) rfl rfl rfl rfl ?_
  refine q_const (p2 := 21) rfl rfl ?_
  refine q_icmp_s (p2 := 22) rfl (by decide) (by omega) (by omega) rfl (fun hb => absurd hb (show ¬ (¬ (0 < 1000000)) by omega)) (fun _ => ?_)
  refine q_load (v := (6, 455, 0)) (p2 := 23) rfl rfl rfl rfl ?_
  refine q_getv (v := (0, 1, 0)) (p2 := 24) rfl (x_KS_455 hK9) (by decide) hK9.1.choose_spec.2.2.2.2.2.2.2.2.2.2.2.1 rfl ?_
  refine q_if0_s (p2 := 25) rfl (by decide) (by omega) rfl (fun hb => absurd hb (show ¬ (¬ (0 < 1)) by omega)) (fun _ => ?_)
  refine q_load (v := (6, 455, 0)) (p2 := 26) rfl rfl rfl rfl ?_
  refine q_getv (v := (0, 0, 0)) (p2 := 27) rfl (x_KS_455 hK9) (by decide) hK9.1.choose_spec.2.2.2.2.2.2.2.2.2.2.2.2.2.2.2.2.2.1 rfl ?_
  refine q_if0_s (p2 := 28) rfl (by decide) (by omega) rfl (fun hb => absurd hb (show ¬ (¬ (0 = 0)) by omega)) (fun _ => ?_)
  refine q_load (v := (6, 455, 0)) (p2 := 29) rfl rfl rfl rfl ?_
  refine x_n_lt (fun hlt11 => ?_)
  have hm10 := (x_PS_at hm6 (fun j hj hne => by have hj2 := x_some_lt hlt7 hne; exact (frn9 j (by omega))))
  refine q_callrE (xs := [(6, 455, 0)]) (p2 := 30) rfl rfl rfl rfl (x_rcv_s 455 (x_KS_455 hK9)) rfl (k_fetchw hc60 hm10.1.choose_spec hK9 (by omega)) (Nat.le_refl _) (Nat.le_refl _) rfl (fun φ12 hR12 => ?_)
  obtain ⟨hK12, frn12⟩ := hR12
  refine q_store (loc2 := [(6, 455, 0), (0, 60, 0), (6, vs, 0), (0, 0, 0), (0, 9, 0)]) (p2 := 31) rfl rfl rfl rfl rfl ?_
  refine q_load (v := (0, 9, 0)) (p2 := 32) rfl rfl rfl rfl ?_
  refine q_const (p2 := 33) rfl rfl ?_
  refine q_icmp_s (p2 := 34) rfl (by decide) (by omega) (by omega) rfl (fun hb => absurd hb (show ¬ (10 < 9) by omega)) (fun _ => ?_)
  refine q_load (v := (6, 455, 0)) (p2 := 35) rfl rfl rfl rfl ?_
  refine q_load (v := (0, 9, 0)) (p2 := 36) rfl rfl rfl rfl ?_
  refine x_n_lt (fun hlt14 => ?_)
  have hm13 := (x_PS_at hm10 (fun j hj hne => by have hj2 := x_some_lt hlt11 hne; exact (frn12 j (by omega))))
  have hv15 := x_mv_at hv8 (fun j hj hne => by have hj2 := x_some_lt hlt7 hne; exact ((frn12 j (by omega)).trans (frn9 j (by omega))))
  refine q_callvB (xs := [(0, 9, 0), (6, 455, 0)]) (p2 := 37) rfl rfl rfl rfl (x_rcv_s 455 (x_KS_455 hK12)) rfl (k_plain_9 hm13.1.choose_spec hK12 (by omega) (by omega) hv15 (by omega)) rfl (fun φ16 n16 sl16 hn16 hN16 hs16 hT16 hR16 => ?_)
  obtain ⟨hK16, frn16⟩ := hR16
  refine q_goto rfl ?_
  refine q_iinc (z := 1) (loc2 := [(6, 455, 0), (0, 60, 0), (6, vs, 0), (0, 1, 0), (0, 9, 0)]) (p2 := 49) rfl rfl (by decide) rfl rfl ?_
  refine q_goto rfl ?_
  refine q_load (v := (0, 1, 0)) (p2 := 20) rfl rfl rfl rfl ?_
  refine q_const (p2 := 21) rfl rfl ?_
  refine q_icmp_s (p2 := 22) rfl (by decide) (by omega) (by omega) rfl (fun hb => absurd hb (show ¬ (¬ (1 < 1000000)) by omega)) (fun _ => ?_)
  refine q_load (v := (6, 455, 0)) (p2 := 23) rfl rfl rfl rfl ?_
  refine q_getv (v := (0, 1, 0)) (p2 := 24) rfl (x_KS_455 hK16) (by decide) hK16.1.choose_spec.2.2.2.2.2.2.2.2.2.2.2.1 rfl ?_
  refine q_if0_s (p2 := 25) rfl (by decide) (by omega) rfl (fun hb => absurd hb (show ¬ (¬ (0 < 1)) by omega)) (fun _ => ?_)
  refine q_load (v := (6, 455, 0)) (p2 := 26) rfl rfl rfl rfl ?_
  refine q_getv (v := (0, 0, 0)) (p2 := 27) rfl (x_KS_455 hK16) (by decide) hK16.1.choose_spec.2.2.2.2.2.2.2.2.2.2.2.2.2.2.2.2.2.1 rfl ?_
  refine q_if0_s (p2 := 28) rfl (by decide) (by omega) rfl (fun hb => absurd hb (show ¬ (¬ (0 = 0)) by omega)) (fun _ => ?_)
  refine q_load (v := (6, 455, 0)) (p2 := 29) rfl rfl rfl rfl ?_
  refine x_n_lt (fun hlt18 => ?_)
  have hm17 := (x_PS_at hm13 (fun j hj hne => by have hj2 := x_some_lt hlt14 hne; exact (frn16 j (by omega))))
  refine q_callrE (xs := [(6, 455, 0)]) (p2 := 30) rfl rfl rfl rfl (x_rcv_s 455 (x_KS_455 hK16)) rfl (k_fetchw hc61 hm17.1.choose_spec hK16 (by omega)) (Nat.le_refl _) (Nat.le_refl _) rfl (fun φ19 hR19 => ?_)
  obtain ⟨hK19, frn19⟩ := hR19
  refine q_store (loc2 := [(6, 455, 0), (0, 60, 0), (6, vs, 0), (0, 1, 0), (0, 11, 0)]) (p2 := 31) rfl rfl rfl rfl rfl ?_
  refine q_load (v := (0, 11, 0)) (p2 := 32) rfl rfl rfl rfl ?_
  refine q_const (p2 := 33) rfl rfl ?_
  refine q_icmp_s (p2 := 34) rfl (by decide) (by omega) (by omega) rfl (fun _ => ?_) (fun hb => absurd (show 10 < 11 by omega) hb)
  refine q_load (v := (0, 11, 0)) (p2 := 39) rfl rfl rfl rfl ?_
  refine q_const (p2 := 40) rfl rfl ?_
  refine q_icmp_s (p2 := 41) rfl (by decide) (by omega) (by omega) rfl (fun hb => absurd hb (show ¬ (19 < 11) by omega)) (fun _ => ?_)
  refine q_load (v := (6, 455, 0)) (p2 := 42) rfl rfl rfl rfl ?_
  refine q_load (v := (0, 11, 0)) (p2 := 43) rfl rfl rfl rfl ?_
  refine x_n_lt (fun hlt21 => ?_)
  have hm20 := (x_PS_at hm17 (fun j hj hne => by have hj2 := x_some_lt hlt18 hne; exact (frn19 j (by omega))))
  have hv22 := x_mv_at hv15 (fun j hj hne => by have hj2 := x_some_lt hlt14 hne; exact ((frn19 j (by omega)).trans (frn16 j (by omega))))
  refine q_callvB (xs := [(0, 11, 0), (6, 455, 0)]) (p2 := 44) rfl rfl rfl rfl (x_rcv_s 455 (x_KS_455 hK19)) rfl (k_op_11_0 hm20.1.choose_spec hK19 (by omega) (by omega) hm20.2.1 (x_PS_H hm20) (x_PS_M hm20) (x_PS_N hm20) hv22 hc62) rfl (fun φ23 n23 sl23 hn23 hN23 hs23 hT23 hR23 => ?_)
  obtain ⟨v23, hK23, hV23, frn23⟩ := hR23
  rw [if_pos ⟨rfl, hisA⟩] at hV23
  refine x_n_lt (fun hlt24 => ?_)
  have hz25 := x_mv_lt hV23 hlt24
  have hy25 := hV23.1
  refine q_goto rfl ?_
  refine q_iinc (z := 2) (loc2 := [(6, 455, 0), (0, 60, 0), (6, vs, 0), (0, 2, 0), (0, 11, 0)]) (p2 := 49) rfl rfl (by decide) rfl rfl ?_
  refine q_goto rfl ?_
  refine q_load (v := (0, 2, 0)) (p2 := 20) rfl rfl rfl rfl ?_
  refine q_const (p2 := 21) rfl rfl ?_
  refine q_icmp_s (p2 := 22) rfl (by decide) (by omega) (by omega) rfl (fun hb => absurd hb (show ¬ (¬ (2 < 1000000)) by omega)) (fun _ => ?_)
  refine q_load (v := (6, 455, 0)) (p2 := 23) rfl rfl rfl rfl ?_
  refine q_getv (v := (0, 1, 0)) (p2 := 24) rfl (x_KS_455 hK23) (by decide) hK23.1.choose_spec.2.2.2.2.2.2.2.2.2.2.2.1 rfl ?_
  refine q_if0_s (p2 := 25) rfl (by decide) (by omega) rfl (fun hb => absurd hb (show ¬ (¬ (0 < 1)) by omega)) (fun _ => ?_)
  refine q_load (v := (6, 455, 0)) (p2 := 26) rfl rfl rfl rfl ?_
  refine q_getv (v := (0, 0, 0)) (p2 := 27) rfl (x_KS_455 hK23) (by decide) hK23.1.choose_spec.2.2.2.2.2.2.2.2.2.2.2.2.2.2.2.2.2.1 rfl ?_
  refine q_if0_s (p2 := 28) rfl (by decide) (by omega) rfl (fun hb => absurd hb (show ¬ (¬ (0 = 0)) by omega)) (fun _ => ?_)
  refine q_load (v := (6, 455, 0)) (p2 := 29) rfl rfl rfl rfl ?_
  have hm26 := (x_PS_at hm20 (fun j hj hne => by have hj2 := x_some_lt hlt21 hne; exact (frn23 j (by omega))))
  refine q_callrE (xs := [(6, 455, 0)]) (p2 := 30) rfl rfl rfl rfl (x_rcv_s 455 (x_KS_455 hK23)) rfl (k_fetchw hc63 hm26.1.choose_spec hK23 (by omega)) (Nat.le_refl _) (Nat.le_refl _) rfl (fun φ27 hR27 => ?_)
  obtain ⟨hK27, frn27⟩ := hR27
  refine q_store (loc2 := [(6, 455, 0), (0, 60, 0), (6, vs, 0), (0, 2, 0), (0, 31, 0)]) (p2 := 31) rfl rfl rfl rfl rfl ?_
  refine q_load (v := (0, 31, 0)) (p2 := 32) rfl rfl rfl rfl ?_
  refine q_const (p2 := 33) rfl rfl ?_
  refine q_icmp_s (p2 := 34) rfl (by decide) (by omega) (by omega) rfl (fun _ => ?_) (fun hb => absurd (show 10 < 31 by omega) hb)
  refine q_load (v := (0, 31, 0)) (p2 := 39) rfl rfl rfl rfl ?_
  refine q_const (p2 := 40) rfl rfl ?_
  refine q_icmp_s (p2 := 41) rfl (by decide) (by omega) (by omega) rfl (fun _ => ?_) (fun hb => absurd (show 19 < 31 by omega) hb)
  refine q_load (v := (6, 455, 0)) (p2 := 46) rfl rfl rfl rfl ?_
  refine q_load (v := (0, 31, 0)) (p2 := 47) rfl rfl rfl rfl ?_
  refine x_n_lt (fun hlt29 => ?_)
  have hm28 := (x_PS_at hm26 (fun j hj hne => by have hj2 := x_some_lt hlt24 hne; exact (frn27 j (by omega))))
  have hv30 := x_mv_at hV23 (fun j hj hne => by have hj2 := x_some_lt hlt24 hne; exact (frn27 j (by omega)))
  refine q_callvB (xs := [(0, 31, 0), (6, 455, 0)]) (p2 := 48) rfl rfl rfl rfl (x_rcv_s 455 (x_KS_455 hK27)) rfl (k_lead_31 (top := 0) (fr := 0) hm28.1.choose_spec hK27 (by omega) (by omega) hv30 (Or.inl rfl) (by omega) (by show (0 : Nat) < 4096; decide)) rfl (fun φ31 n31 sl31 hn31 hN31 hs31 hT31 hR31 => ?_)
  obtain ⟨hK31, frn31⟩ := hR31
  refine q_iinc (z := 3) (loc2 := [(6, 455, 0), (0, 60, 0), (6, vs, 0), (0, 3, 0), (0, 31, 0)]) (p2 := 49) rfl rfl (by decide) rfl rfl ?_
  refine q_goto rfl ?_
  refine q_load (v := (0, 3, 0)) (p2 := 20) rfl rfl rfl rfl ?_
  refine q_const (p2 := 21) rfl rfl ?_
  refine q_icmp_s (p2 := 22) rfl (by decide) (by omega) (by omega) rfl (fun hb => absurd hb (show ¬ (¬ (3 < 1000000)) by omega)) (fun _ => ?_)
  refine q_load (v := (6, 455, 0)) (p2 := 23) rfl rfl rfl rfl ?_
  refine q_getv (v := (0, 0, 0)) (p2 := 24) rfl (x_KS_455 hK31) (by decide) hK31.1.choose_spec.2.2.2.2.2.2.2.2.2.2.2.1 rfl ?_
  refine q_if0_s (p2 := 25) rfl (by decide) (by omega) rfl (fun _ => ?_) (fun hb => absurd (show ¬ (0 < 0) by omega) hb)
  refine q_load (v := (6, 455, 0)) (p2 := 51) rfl rfl rfl rfl ?_
  refine q_getv (v := (0, 0, 0)) (p2 := 52) rfl (x_KS_455 hK31) (by decide) hK31.1.choose_spec.2.2.2.2.2.2.2.2.2.2.2.2.2.2.2.2.2.1 rfl ?_
  refine q_if0_s (p2 := 53) rfl (by decide) (by omega) rfl (fun _ => ?_) (fun hb => absurd (show 0 = 0 by omega) hb)
  refine q_load (v := (6, 455, 0)) (p2 := 57) rfl rfl rfl rfl ?_
  refine q_callrE (xs := [(6, 455, 0)]) (p2 := 58) rfl rfl rfl rfl (x_rcv_s 455 (x_KS_455 hK31)) rfl (k_pop (top := 0) hK31 (by omega)) (Nat.le_refl _) (Nat.le_refl _) rfl (fun φ32 hR32 => ?_)
  obtain ⟨hK32, frn32⟩ := hR32
  refine x_n_lt (fun hlt34 => ?_)
  have hv33 := x_mv_at hv30 (fun j hj hne => by have hj2 := x_some_lt hlt29 hne; exact ((frn32 j (by omega)).trans (frn31 j (by omega))))
  exact q_retv (v := (6, v23, 0)) rfl rfl (⟨rfl, ⟨by omega, by omega⟩, ⟨by omega, by omega⟩, v23, rfl, ⟨_, _, _, _, _, _, _, _, _, _, hK32⟩, hv33, fun j hj1 hj2 => ((frn32 j (by omega)).trans ((frn31 j (by omega)).trans ((frn27 j (by omega)).trans ((frn23 j (by omega)).trans ((frn19 j (by omega)).trans ((frn16 j (by omega)).trans ((frn12 j (by omega)).trans ((frn9 j (by omega)).trans ((fr5 j (by omega)).trans ((fr4 j (by omega)).trans ((fr3 j (by omega)).trans (fr2 j (by omega)))))))))))))⟩)
set_option maxHeartbeats 1000000 in
theorem zc_run_get1 {d n sl : Nat} {φ : FH} {A : Nat} {B : Nat} {made : Nat} {sv : Nat} {svm : Nat} {s9 : Nat} {comb : Nat → Nat} {hm : Nat → MV} {top : Nat} {fr : Nat} {pc_ : Nat} {mm : Nat} {mi : Nat} {st : Nat → Nat} {lo : Nat → Nat} {re : Nat → Nat} {rs : Nat → Nat} {fl : Nat → Nat} {se : Nat → Nat} {co : Nat → Nat} {w1 vs : Nat} (hPS : x_PS φ A B made sv svm s9 comb hm) (hKS : x_KS φ top fr pc_ mm mi st lo re rs fl se co) (hn0 : 486 ≤ n) (hmi : mi + 30 ≤ 20000) (hc60 : co 60 = 9) (hc61 : co 61 = 11) (hc62 : co 62 = 1) (hc63 : co 63 = 31) (hvs : x_mv φ vs (5, w1, 0, 0, [])) (hw1 : w1 < 512) (hisA : x_isA made comb w1 0) : x_f x_P (d + 6) 56 [(6, 455, 0), (0, 60, 0), (6, vs, 0), (11, 0, 0), (11, 0, 0)] φ n sl (x_bR n sl 0 0 (fun zw φ2 => ∃ v, zw = (6, v, 0) ∧ x_KJ φ2 (mi) co ∧ x_mv φ2 v (hm (w1 * 40 + 1)) ∧ ∀ j, j < n → (j < 455 ∨ 466 ≤ j) → φ2 j = φ j)) := by
  refine x_f_of rfl ?_
  refine x_n_lt (fun hlt0 => ?_)
  have hz1 := x_mv_lt hvs hlt0
  have hy1 := hvs.1
  refine q_load (v := (6, 455, 0)) (p2 := 1) rfl rfl rfl rfl ?_
  refine q_const (p2 := 2) rfl rfl ?_
  refine q_putfE (v := (0, 0, 0)) (p2 := 3) rfl (x_KS_455 hKS) (by decide) rfl rfl (fun φ2 f2 hh2 hg2 ho2 fr2 => ?_)
  have hs2 := x_KS_put_18 hKS hh2 hg2 ho2 fr2
  refine q_load (v := (6, 455, 0)) (p2 := 4) rfl rfl rfl rfl ?_
  refine q_const (p2 := 5) rfl rfl ?_
  refine q_putfE (v := (0, 0, 0)) (p2 := 6) rfl (x_KS_455 hs2) (by decide) rfl rfl (fun φ3 f3 hh3 hg3 ho3 fr3 => ?_)
  have hs3 := x_KS_put_16 hs2 hh3 hg3 ho3 fr3
  refine q_load (v := (6, 455, 0)) (p2 := 7) rfl rfl rfl rfl ?_
  refine q_const (p2 := 8) rfl rfl ?_
  refine q_putfE (v := (0, 0, 0)) (p2 := 9) rfl (x_KS_455 hs3) (by decide) rfl rfl (fun φ4 f4 hh4 hg4 ho4 fr4 => ?_)
  have hs4 := x_KS_put_4 hs3 hh4 hg4 ho4 fr4
  refine q_load (v := (6, 455, 0)) (p2 := 10) rfl rfl rfl rfl ?_
  refine q_const (p2 := 11) rfl rfl ?_
  refine q_putfE (v := (0, 0, 0)) (p2 := 12) rfl (x_KS_455 hs4) (by decide) rfl rfl (fun φ5 f5 hh5 hg5 ho5 fr5 => ?_)
  have hs5 := x_KS_put_10 hs4 hh5 hg5 ho5 fr5
  refine q_load (v := (6, 455, 0)) (p2 := 13) rfl rfl rfl rfl ?_
  refine q_load (v := (0, 60, 0)) (p2 := 14) rfl rfl rfl rfl ?_
  refine q_const (p2 := 15) rfl rfl ?_
  refine q_load (v := (6, vs, 0)) (p2 := 16) rfl rfl rfl rfl ?_
  refine x_n_lt (fun hlt7 => ?_)
  have hm6 := (x_PS_at hPS (fun j hj hne => by have hj2 := x_some_lt hlt0 hne; exact ((fr5 j (by omega)).trans ((fr4 j (by omega)).trans ((fr3 j (by omega)).trans (fr2 j (by omega)))))))
  have hv8 := x_mv_at hvs (fun j hj hne => by have hj2 := x_some_lt hlt0 hne; exact ((fr5 j (by omega)).trans ((fr4 j (by omega)).trans ((fr3 j (by omega)).trans (fr2 j (by omega))))))
  refine q_callvE (xs := [(6, vs, 0), (0, 4294967293, 0), (0, 60, 0), (6, 455, 0)]) (p2 := 17) rfl rfl rfl rfl (x_rcv_s 455 (x_KS_455 hs5)) rfl (k_open hs5 (x_PS_N hm6) hv8 (by omega)) (Nat.le_refl _) (Nat.le_refl _) rfl (fun φ9 hR9 => ?_)
  obtain ⟨hK9, frn9⟩ := hR9
  refine q_const (p2 := 18) rfl rfl ?_
  refine q_store (loc2 := [(6, 455, 0), (0, 60, 0), (6, vs, 0), (0, 0, 0), (11, 0, 0)]) (p2 := 19) rfl rfl rfl rfl rfl ?_
  refine q_load (v := (0, 0, 0)) (p2 := 20) rfl rfl rfl rfl ?_
  refine q_const (p2 := 21) rfl rfl ?_
  refine q_icmp_s (p2 := 22) rfl (by decide) (by omega) (by omega) rfl (fun hb => absurd hb (show ¬ (¬ (0 < 1000000)) by omega)) (fun _ => ?_)
  refine q_load (v := (6, 455, 0)) (p2 := 23) rfl rfl rfl rfl ?_
  refine q_getv (v := (0, 1, 0)) (p2 := 24) rfl (x_KS_455 hK9) (by decide) hK9.1.choose_spec.2.2.2.2.2.2.2.2.2.2.2.1 rfl ?_
  refine q_if0_s (p2 := 25) rfl (by decide) (by omega) rfl (fun hb => absurd hb (show ¬ (¬ (0 < 1)) by omega)) (fun _ => ?_)
  refine q_load (v := (6, 455, 0)) (p2 := 26) rfl rfl rfl rfl ?_
  refine q_getv (v := (0, 0, 0)) (p2 := 27) rfl (x_KS_455 hK9) (by decide) hK9.1.choose_spec.2.2.2.2.2.2.2.2.2.2.2.2.2.2.2.2.2.1 rfl ?_
  refine q_if0_s (p2 := 28) rfl (by decide) (by omega) rfl (fun hb => absurd hb (show ¬ (¬ (0 = 0)) by omega)) (fun _ => ?_)
  refine q_load (v := (6, 455, 0)) (p2 := 29) rfl rfl rfl rfl ?_
  refine x_n_lt (fun hlt11 => ?_)
  have hm10 := (x_PS_at hm6 (fun j hj hne => by have hj2 := x_some_lt hlt7 hne; exact (frn9 j (by omega))))
  refine q_callrE (xs := [(6, 455, 0)]) (p2 := 30) rfl rfl rfl rfl (x_rcv_s 455 (x_KS_455 hK9)) rfl (k_fetchw hc60 hm10.1.choose_spec hK9 (by omega)) (Nat.le_refl _) (Nat.le_refl _) rfl (fun φ12 hR12 => ?_)
  obtain ⟨hK12, frn12⟩ := hR12
  refine q_store (loc2 := [(6, 455, 0), (0, 60, 0), (6, vs, 0), (0, 0, 0), (0, 9, 0)]) (p2 := 31) rfl rfl rfl rfl rfl ?_
  refine q_load (v := (0, 9, 0)) (p2 := 32) rfl rfl rfl rfl ?_
  refine q_const (p2 := 33) rfl rfl ?_
  refine q_icmp_s (p2 := 34) rfl (by decide) (by omega) (by omega) rfl (fun hb => absurd hb (show ¬ (10 < 9) by omega)) (fun _ => ?_)
  refine q_load (v := (6, 455, 0)) (p2 := 35) rfl rfl rfl rfl ?_
  refine q_load (v := (0, 9, 0)) (p2 := 36) rfl rfl rfl rfl ?_
  refine x_n_lt (fun hlt14 => ?_)
  have hm13 := (x_PS_at hm10 (fun j hj hne => by have hj2 := x_some_lt hlt11 hne; exact (frn12 j (by omega))))
  have hv15 := x_mv_at hv8 (fun j hj hne => by have hj2 := x_some_lt hlt7 hne; exact ((frn12 j (by omega)).trans (frn9 j (by omega))))
  refine q_callvB (xs := [(0, 9, 0), (6, 455, 0)]) (p2 := 37) rfl rfl rfl rfl (x_rcv_s 455 (x_KS_455 hK12)) rfl (k_plain_9 hm13.1.choose_spec hK12 (by omega) (by omega) hv15 (by omega)) rfl (fun φ16 n16 sl16 hn16 hN16 hs16 hT16 hR16 => ?_)
  obtain ⟨hK16, frn16⟩ := hR16
  refine q_goto rfl ?_
  refine q_iinc (z := 1) (loc2 := [(6, 455, 0), (0, 60, 0), (6, vs, 0), (0, 1, 0), (0, 9, 0)]) (p2 := 49) rfl rfl (by decide) rfl rfl ?_
  refine q_goto rfl ?_
  refine q_load (v := (0, 1, 0)) (p2 := 20) rfl rfl rfl rfl ?_
  refine q_const (p2 := 21) rfl rfl ?_
  refine q_icmp_s (p2 := 22) rfl (by decide) (by omega) (by omega) rfl (fun hb => absurd hb (show ¬ (¬ (1 < 1000000)) by omega)) (fun _ => ?_)
  refine q_load (v := (6, 455, 0)) (p2 := 23) rfl rfl rfl rfl ?_
  refine q_getv (v := (0, 1, 0)) (p2 := 24) rfl (x_KS_455 hK16) (by decide) hK16.1.choose_spec.2.2.2.2.2.2.2.2.2.2.2.1 rfl ?_
  refine q_if0_s (p2 := 25) rfl (by decide) (by omega) rfl (fun hb => absurd hb (show ¬ (¬ (0 < 1)) by omega)) (fun _ => ?_)
  refine q_load (v := (6, 455, 0)) (p2 := 26) rfl rfl rfl rfl ?_
  refine q_getv (v := (0, 0, 0)) (p2 := 27) rfl (x_KS_455 hK16) (by decide) hK16.1.choose_spec.2.2.2.2.2.2.2.2.2.2.2.2.2.2.2.2.2.1 rfl ?_
  refine q_if0_s (p2 := 28) rfl (by decide) (by omega) rfl (fun hb => absurd hb (show ¬ (¬ (0 = 0)) by omega)) (fun _ => ?_)
  refine q_load (v := (6, 455, 0)) (p2 := 29) rfl rfl rfl rfl ?_
  refine x_n_lt (fun hlt18 => ?_)
  have hm17 := (x_PS_at hm13 (fun j hj hne => by have hj2 := x_some_lt hlt14 hne; exact (frn16 j (by omega))))
  refine q_callrE (xs := [(6, 455, 0)]) (p2 := 30) rfl rfl rfl rfl (x_rcv_s 455 (x_KS_455 hK16)) rfl (k_fetchw hc61 hm17.1.choose_spec hK16 (by omega)) (Nat.le_refl _) (Nat.le_refl _) rfl (fun φ19 hR19 => ?_)
  obtain ⟨hK19, frn19⟩ := hR19
  refine q_store (loc2 := [(6, 455, 0), (0, 60, 0), (6, vs, 0), (0, 1, 0), (0, 11, 0)]) (p2 := 31) rfl rfl rfl rfl rfl ?_
  refine q_load (v := (0, 11, 0)) (p2 := 32) rfl rfl rfl rfl ?_
  refine q_const (p2 := 33) rfl rfl ?_
  refine q_icmp_s (p2 := 34) rfl (by decide) (by omega) (by omega) rfl (fun _ => ?_) (fun hb => absurd (show 10 < 11 by omega) hb)
  refine q_load (v := (0, 11, 0)) (p2 := 39) rfl rfl rfl rfl ?_
  refine q_const (p2 := 40) rfl rfl ?_
  refine q_icmp_s (p2 := 41) rfl (by decide) (by omega) (by omega) rfl (fun hb => absurd hb (show ¬ (19 < 11) by omega)) (fun _ => ?_)
  refine q_load (v := (6, 455, 0)) (p2 := 42) rfl rfl rfl rfl ?_
  refine q_load (v := (0, 11, 0)) (p2 := 43) rfl rfl rfl rfl ?_
  refine x_n_lt (fun hlt21 => ?_)
  have hm20 := (x_PS_at hm17 (fun j hj hne => by have hj2 := x_some_lt hlt18 hne; exact (frn19 j (by omega))))
  have hv22 := x_mv_at hv15 (fun j hj hne => by have hj2 := x_some_lt hlt14 hne; exact ((frn19 j (by omega)).trans (frn16 j (by omega))))
  refine q_callvB (xs := [(0, 11, 0), (6, 455, 0)]) (p2 := 44) rfl rfl rfl rfl (x_rcv_s 455 (x_KS_455 hK19)) rfl (k_op_11_1 hm20.1.choose_spec hK19 (by omega) (by omega) hm20.2.1 (x_PS_H hm20) (x_PS_M hm20) (x_PS_N hm20) hv22 hc62) rfl (fun φ23 n23 sl23 hn23 hN23 hs23 hT23 hR23 => ?_)
  obtain ⟨v23, hK23, hV23, frn23⟩ := hR23
  rw [if_pos ⟨rfl, hisA⟩] at hV23
  refine x_n_lt (fun hlt24 => ?_)
  have hz25 := x_mv_lt hV23 hlt24
  have hy25 := hV23.1
  refine q_goto rfl ?_
  refine q_iinc (z := 2) (loc2 := [(6, 455, 0), (0, 60, 0), (6, vs, 0), (0, 2, 0), (0, 11, 0)]) (p2 := 49) rfl rfl (by decide) rfl rfl ?_
  refine q_goto rfl ?_
  refine q_load (v := (0, 2, 0)) (p2 := 20) rfl rfl rfl rfl ?_
  refine q_const (p2 := 21) rfl rfl ?_
  refine q_icmp_s (p2 := 22) rfl (by decide) (by omega) (by omega) rfl (fun hb => absurd hb (show ¬ (¬ (2 < 1000000)) by omega)) (fun _ => ?_)
  refine q_load (v := (6, 455, 0)) (p2 := 23) rfl rfl rfl rfl ?_
  refine q_getv (v := (0, 1, 0)) (p2 := 24) rfl (x_KS_455 hK23) (by decide) hK23.1.choose_spec.2.2.2.2.2.2.2.2.2.2.2.1 rfl ?_
  refine q_if0_s (p2 := 25) rfl (by decide) (by omega) rfl (fun hb => absurd hb (show ¬ (¬ (0 < 1)) by omega)) (fun _ => ?_)
  refine q_load (v := (6, 455, 0)) (p2 := 26) rfl rfl rfl rfl ?_
  refine q_getv (v := (0, 0, 0)) (p2 := 27) rfl (x_KS_455 hK23) (by decide) hK23.1.choose_spec.2.2.2.2.2.2.2.2.2.2.2.2.2.2.2.2.2.1 rfl ?_
  refine q_if0_s (p2 := 28) rfl (by decide) (by omega) rfl (fun hb => absurd hb (show ¬ (¬ (0 = 0)) by omega)) (fun _ => ?_)
  refine q_load (v := (6, 455, 0)) (p2 := 29) rfl rfl rfl rfl ?_
  have hm26 := (x_PS_at hm20 (fun j hj hne => by have hj2 := x_some_lt hlt21 hne; exact (frn23 j (by omega))))
  refine q_callrE (xs := [(6, 455, 0)]) (p2 := 30) rfl rfl rfl rfl (x_rcv_s 455 (x_KS_455 hK23)) rfl (k_fetchw hc63 hm26.1.choose_spec hK23 (by omega)) (Nat.le_refl _) (Nat.le_refl _) rfl (fun φ27 hR27 => ?_)
  obtain ⟨hK27, frn27⟩ := hR27
  refine q_store (loc2 := [(6, 455, 0), (0, 60, 0), (6, vs, 0), (0, 2, 0), (0, 31, 0)]) (p2 := 31) rfl rfl rfl rfl rfl ?_
  refine q_load (v := (0, 31, 0)) (p2 := 32) rfl rfl rfl rfl ?_
  refine q_const (p2 := 33) rfl rfl ?_
  refine q_icmp_s (p2 := 34) rfl (by decide) (by omega) (by omega) rfl (fun _ => ?_) (fun hb => absurd (show 10 < 31 by omega) hb)
  refine q_load (v := (0, 31, 0)) (p2 := 39) rfl rfl rfl rfl ?_
  refine q_const (p2 := 40) rfl rfl ?_
  refine q_icmp_s (p2 := 41) rfl (by decide) (by omega) (by omega) rfl (fun _ => ?_) (fun hb => absurd (show 19 < 31 by omega) hb)
  refine q_load (v := (6, 455, 0)) (p2 := 46) rfl rfl rfl rfl ?_
  refine q_load (v := (0, 31, 0)) (p2 := 47) rfl rfl rfl rfl ?_
  refine x_n_lt (fun hlt29 => ?_)
  have hm28 := (x_PS_at hm26 (fun j hj hne => by have hj2 := x_some_lt hlt24 hne; exact (frn27 j (by omega))))
  have hv30 := x_mv_at hV23 (fun j hj hne => by have hj2 := x_some_lt hlt24 hne; exact (frn27 j (by omega)))
  refine q_callvB (xs := [(0, 31, 0), (6, 455, 0)]) (p2 := 48) rfl rfl rfl rfl (x_rcv_s 455 (x_KS_455 hK27)) rfl (k_lead_31 (top := 0) (fr := 0) hm28.1.choose_spec hK27 (by omega) (by omega) hv30 (Or.inl rfl) (by omega) (by show (0 : Nat) < 4096; decide)) rfl (fun φ31 n31 sl31 hn31 hN31 hs31 hT31 hR31 => ?_)
  obtain ⟨hK31, frn31⟩ := hR31
  refine q_iinc (z := 3) (loc2 := [(6, 455, 0), (0, 60, 0), (6, vs, 0), (0, 3, 0), (0, 31, 0)]) (p2 := 49) rfl rfl (by decide) rfl rfl ?_
  refine q_goto rfl ?_
  refine q_load (v := (0, 3, 0)) (p2 := 20) rfl rfl rfl rfl ?_
  refine q_const (p2 := 21) rfl rfl ?_
  refine q_icmp_s (p2 := 22) rfl (by decide) (by omega) (by omega) rfl (fun hb => absurd hb (show ¬ (¬ (3 < 1000000)) by omega)) (fun _ => ?_)
  refine q_load (v := (6, 455, 0)) (p2 := 23) rfl rfl rfl rfl ?_
  refine q_getv (v := (0, 0, 0)) (p2 := 24) rfl (x_KS_455 hK31) (by decide) hK31.1.choose_spec.2.2.2.2.2.2.2.2.2.2.2.1 rfl ?_
  refine q_if0_s (p2 := 25) rfl (by decide) (by omega) rfl (fun _ => ?_) (fun hb => absurd (show ¬ (0 < 0) by omega) hb)
  refine q_load (v := (6, 455, 0)) (p2 := 51) rfl rfl rfl rfl ?_
  refine q_getv (v := (0, 0, 0)) (p2 := 52) rfl (x_KS_455 hK31) (by decide) hK31.1.choose_spec.2.2.2.2.2.2.2.2.2.2.2.2.2.2.2.2.2.1 rfl ?_
  refine q_if0_s (p2 := 53) rfl (by decide) (by omega) rfl (fun _ => ?_) (fun hb => absurd (show 0 = 0 by omega) hb)
  refine q_load (v := (6, 455, 0)) (p2 := 57) rfl rfl rfl rfl ?_
  refine q_callrE (xs := [(6, 455, 0)]) (p2 := 58) rfl rfl rfl rfl (x_rcv_s 455 (x_KS_455 hK31)) rfl (k_pop (top := 0) hK31 (by omega)) (Nat.le_refl _) (Nat.le_refl _) rfl (fun φ32 hR32 => ?_)
  obtain ⟨hK32, frn32⟩ := hR32
  refine x_n_lt (fun hlt34 => ?_)
  have hv33 := x_mv_at hv30 (fun j hj hne => by have hj2 := x_some_lt hlt29 hne; exact ((frn32 j (by omega)).trans (frn31 j (by omega))))
  exact q_retv (v := (6, v23, 0)) rfl rfl (⟨rfl, ⟨by omega, by omega⟩, ⟨by omega, by omega⟩, v23, rfl, ⟨_, _, _, _, _, _, _, _, _, _, hK32⟩, hv33, fun j hj1 hj2 => ((frn32 j (by omega)).trans ((frn31 j (by omega)).trans ((frn27 j (by omega)).trans ((frn23 j (by omega)).trans ((frn19 j (by omega)).trans ((frn16 j (by omega)).trans ((frn12 j (by omega)).trans ((frn9 j (by omega)).trans ((fr5 j (by omega)).trans ((fr4 j (by omega)).trans ((fr3 j (by omega)).trans (fr2 j (by omega)))))))))))))⟩)
set_option maxHeartbeats 1000000 in
theorem zc_run_get3 {d n sl : Nat} {φ : FH} {A : Nat} {B : Nat} {made : Nat} {sv : Nat} {svm : Nat} {s9 : Nat} {comb : Nat → Nat} {hm : Nat → MV} {top : Nat} {fr : Nat} {pc_ : Nat} {mm : Nat} {mi : Nat} {st : Nat → Nat} {lo : Nat → Nat} {re : Nat → Nat} {rs : Nat → Nat} {fl : Nat → Nat} {se : Nat → Nat} {co : Nat → Nat} {w1 vs : Nat} (hPS : x_PS φ A B made sv svm s9 comb hm) (hKS : x_KS φ top fr pc_ mm mi st lo re rs fl se co) (hn0 : 486 ≤ n) (hmi : mi + 30 ≤ 20000) (hc60 : co 60 = 9) (hc61 : co 61 = 11) (hc62 : co 62 = 3) (hc63 : co 63 = 31) (hvs : x_mv φ vs (5, w1, 0, 0, [])) (hw1 : w1 < 512) (hisA : x_isA made comb w1 1) : x_f x_P (d + 6) 56 [(6, 455, 0), (0, 60, 0), (6, vs, 0), (11, 0, 0), (11, 0, 0)] φ n sl (x_bR n sl 0 0 (fun zw φ2 => ∃ v, zw = (6, v, 0) ∧ x_KJ φ2 (mi) co ∧ x_mv φ2 v (hm (w1 * 40 + 3)) ∧ ∀ j, j < n → (j < 455 ∨ 466 ≤ j) → φ2 j = φ j)) := by
  refine x_f_of rfl ?_
  refine x_n_lt (fun hlt0 => ?_)
  have hz1 := x_mv_lt hvs hlt0
  have hy1 := hvs.1
  refine q_load (v := (6, 455, 0)) (p2 := 1) rfl rfl rfl rfl ?_
  refine q_const (p2 := 2) rfl rfl ?_
  refine q_putfE (v := (0, 0, 0)) (p2 := 3) rfl (x_KS_455 hKS) (by decide) rfl rfl (fun φ2 f2 hh2 hg2 ho2 fr2 => ?_)
  have hs2 := x_KS_put_18 hKS hh2 hg2 ho2 fr2
  refine q_load (v := (6, 455, 0)) (p2 := 4) rfl rfl rfl rfl ?_
  refine q_const (p2 := 5) rfl rfl ?_
  refine q_putfE (v := (0, 0, 0)) (p2 := 6) rfl (x_KS_455 hs2) (by decide) rfl rfl (fun φ3 f3 hh3 hg3 ho3 fr3 => ?_)
  have hs3 := x_KS_put_16 hs2 hh3 hg3 ho3 fr3
  refine q_load (v := (6, 455, 0)) (p2 := 7) rfl rfl rfl rfl ?_
  refine q_const (p2 := 8) rfl rfl ?_
  refine q_putfE (v := (0, 0, 0)) (p2 := 9) rfl (x_KS_455 hs3) (by decide) rfl rfl (fun φ4 f4 hh4 hg4 ho4 fr4 => ?_)
  have hs4 := x_KS_put_4 hs3 hh4 hg4 ho4 fr4
  refine q_load (v := (6, 455, 0)) (p2 := 10) rfl rfl rfl rfl ?_
  refine q_const (p2 := 11) rfl rfl ?_
  refine q_putfE (v := (0, 0, 0)) (p2 := 12) rfl (x_KS_455 hs4) (by decide) rfl rfl (fun φ5 f5 hh5 hg5 ho5 fr5 => ?_)
  have hs5 := x_KS_put_10 hs4 hh5 hg5 ho5 fr5
  refine q_load (v := (6, 455, 0)) (p2 := 13) rfl rfl rfl rfl ?_
  refine q_load (v := (0, 60, 0)) (p2 := 14) rfl rfl rfl rfl ?_
  refine q_const (p2 := 15) rfl rfl ?_
  refine q_load (v := (6, vs, 0)) (p2 := 16) rfl rfl rfl rfl ?_
  refine x_n_lt (fun hlt7 => ?_)
  have hm6 := (x_PS_at hPS (fun j hj hne => by have hj2 := x_some_lt hlt0 hne; exact ((fr5 j (by omega)).trans ((fr4 j (by omega)).trans ((fr3 j (by omega)).trans (fr2 j (by omega)))))))
  have hv8 := x_mv_at hvs (fun j hj hne => by have hj2 := x_some_lt hlt0 hne; exact ((fr5 j (by omega)).trans ((fr4 j (by omega)).trans ((fr3 j (by omega)).trans (fr2 j (by omega))))))
  refine q_callvE (xs := [(6, vs, 0), (0, 4294967293, 0), (0, 60, 0), (6, 455, 0)]) (p2 := 17) rfl rfl rfl rfl (x_rcv_s 455 (x_KS_455 hs5)) rfl (k_open hs5 (x_PS_N hm6) hv8 (by omega)) (Nat.le_refl _) (Nat.le_refl _) rfl (fun φ9 hR9 => ?_)
  obtain ⟨hK9, frn9⟩ := hR9
  refine q_const (p2 := 18) rfl rfl ?_
  refine q_store (loc2 := [(6, 455, 0), (0, 60, 0), (6, vs, 0), (0, 0, 0), (11, 0, 0)]) (p2 := 19) rfl rfl rfl rfl rfl ?_
  refine q_load (v := (0, 0, 0)) (p2 := 20) rfl rfl rfl rfl ?_
  refine q_const (p2 := 21) rfl rfl ?_
  refine q_icmp_s (p2 := 22) rfl (by decide) (by omega) (by omega) rfl (fun hb => absurd hb (show ¬ (¬ (0 < 1000000)) by omega)) (fun _ => ?_)
  refine q_load (v := (6, 455, 0)) (p2 := 23) rfl rfl rfl rfl ?_
  refine q_getv (v := (0, 1, 0)) (p2 := 24) rfl (x_KS_455 hK9) (by decide) hK9.1.choose_spec.2.2.2.2.2.2.2.2.2.2.2.1 rfl ?_
  refine q_if0_s (p2 := 25) rfl (by decide) (by omega) rfl (fun hb => absurd hb (show ¬ (¬ (0 < 1)) by omega)) (fun _ => ?_)
  refine q_load (v := (6, 455, 0)) (p2 := 26) rfl rfl rfl rfl ?_
  refine q_getv (v := (0, 0, 0)) (p2 := 27) rfl (x_KS_455 hK9) (by decide) hK9.1.choose_spec.2.2.2.2.2.2.2.2.2.2.2.2.2.2.2.2.2.1 rfl ?_
  refine q_if0_s (p2 := 28) rfl (by decide) (by omega) rfl (fun hb => absurd hb (show ¬ (¬ (0 = 0)) by omega)) (fun _ => ?_)
  refine q_load (v := (6, 455, 0)) (p2 := 29) rfl rfl rfl rfl ?_
  refine x_n_lt (fun hlt11 => ?_)
  have hm10 := (x_PS_at hm6 (fun j hj hne => by have hj2 := x_some_lt hlt7 hne; exact (frn9 j (by omega))))
  refine q_callrE (xs := [(6, 455, 0)]) (p2 := 30) rfl rfl rfl rfl (x_rcv_s 455 (x_KS_455 hK9)) rfl (k_fetchw hc60 hm10.1.choose_spec hK9 (by omega)) (Nat.le_refl _) (Nat.le_refl _) rfl (fun φ12 hR12 => ?_)
  obtain ⟨hK12, frn12⟩ := hR12
  refine q_store (loc2 := [(6, 455, 0), (0, 60, 0), (6, vs, 0), (0, 0, 0), (0, 9, 0)]) (p2 := 31) rfl rfl rfl rfl rfl ?_
  refine q_load (v := (0, 9, 0)) (p2 := 32) rfl rfl rfl rfl ?_
  refine q_const (p2 := 33) rfl rfl ?_
  refine q_icmp_s (p2 := 34) rfl (by decide) (by omega) (by omega) rfl (fun hb => absurd hb (show ¬ (10 < 9) by omega)) (fun _ => ?_)
  refine q_load (v := (6, 455, 0)) (p2 := 35) rfl rfl rfl rfl ?_
  refine q_load (v := (0, 9, 0)) (p2 := 36) rfl rfl rfl rfl ?_
  refine x_n_lt (fun hlt14 => ?_)
  have hm13 := (x_PS_at hm10 (fun j hj hne => by have hj2 := x_some_lt hlt11 hne; exact (frn12 j (by omega))))
  have hv15 := x_mv_at hv8 (fun j hj hne => by have hj2 := x_some_lt hlt7 hne; exact ((frn12 j (by omega)).trans (frn9 j (by omega))))
  refine q_callvB (xs := [(0, 9, 0), (6, 455, 0)]) (p2 := 37) rfl rfl rfl rfl (x_rcv_s 455 (x_KS_455 hK12)) rfl (k_plain_9 hm13.1.choose_spec hK12 (by omega) (by omega) hv15 (by omega)) rfl (fun φ16 n16 sl16 hn16 hN16 hs16 hT16 hR16 => ?_)
  obtain ⟨hK16, frn16⟩ := hR16
  refine q_goto rfl ?_
  refine q_iinc (z := 1) (loc2 := [(6, 455, 0), (0, 60, 0), (6, vs, 0), (0, 1, 0), (0, 9, 0)]) (p2 := 49) rfl rfl (by decide) rfl rfl ?_
  refine q_goto rfl ?_
  refine q_load (v := (0, 1, 0)) (p2 := 20) rfl rfl rfl rfl ?_
  refine q_const (p2 := 21) rfl rfl ?_
  refine q_icmp_s (p2 := 22) rfl (by decide) (by omega) (by omega) rfl (fun hb => absurd hb (show ¬ (¬ (1 < 1000000)) by omega)) (fun _ => ?_)
  refine q_load (v := (6, 455, 0)) (p2 := 23) rfl rfl rfl rfl ?_
  refine q_getv (v := (0, 1, 0)) (p2 := 24) rfl (x_KS_455 hK16) (by decide) hK16.1.choose_spec.2.2.2.2.2.2.2.2.2.2.2.1 rfl ?_
  refine q_if0_s (p2 := 25) rfl (by decide) (by omega) rfl (fun hb => absurd hb (show ¬ (¬ (0 < 1)) by omega)) (fun _ => ?_)
  refine q_load (v := (6, 455, 0)) (p2 := 26) rfl rfl rfl rfl ?_
  refine q_getv (v := (0, 0, 0)) (p2 := 27) rfl (x_KS_455 hK16) (by decide) hK16.1.choose_spec.2.2.2.2.2.2.2.2.2.2.2.2.2.2.2.2.2.1 rfl ?_
  refine q_if0_s (p2 := 28) rfl (by decide) (by omega) rfl (fun hb => absurd hb (show ¬ (¬ (0 = 0)) by omega)) (fun _ => ?_)
  refine q_load (v := (6, 455, 0)) (p2 := 29) rfl rfl rfl rfl ?_
  refine x_n_lt (fun hlt18 => ?_)
  have hm17 := (x_PS_at hm13 (fun j hj hne => by have hj2 := x_some_lt hlt14 hne; exact (frn16 j (by omega))))
  refine q_callrE (xs := [(6, 455, 0)]) (p2 := 30) rfl rfl rfl rfl (x_rcv_s 455 (x_KS_455 hK16)) rfl (k_fetchw hc61 hm17.1.choose_spec hK16 (by omega)) (Nat.le_refl _) (Nat.le_refl _) rfl (fun φ19 hR19 => ?_)
  obtain ⟨hK19, frn19⟩ := hR19
  refine q_store (loc2 := [(6, 455, 0), (0, 60, 0), (6, vs, 0), (0, 1, 0), (0, 11, 0)]) (p2 := 31) rfl rfl rfl rfl rfl ?_
  refine q_load (v := (0, 11, 0)) (p2 := 32) rfl rfl rfl rfl ?_
  refine q_const (p2 := 33) rfl rfl ?_
  refine q_icmp_s (p2 := 34) rfl (by decide) (by omega) (by omega) rfl (fun _ => ?_) (fun hb => absurd (show 10 < 11 by omega) hb)
  refine q_load (v := (0, 11, 0)) (p2 := 39) rfl rfl rfl rfl ?_
  refine q_const (p2 := 40) rfl rfl ?_
  refine q_icmp_s (p2 := 41) rfl (by decide) (by omega) (by omega) rfl (fun hb => absurd hb (show ¬ (19 < 11) by omega)) (fun _ => ?_)
  refine q_load (v := (6, 455, 0)) (p2 := 42) rfl rfl rfl rfl ?_
  refine q_load (v := (0, 11, 0)) (p2 := 43) rfl rfl rfl rfl ?_
  refine x_n_lt (fun hlt21 => ?_)
  have hm20 := (x_PS_at hm17 (fun j hj hne => by have hj2 := x_some_lt hlt18 hne; exact (frn19 j (by omega))))
  have hv22 := x_mv_at hv15 (fun j hj hne => by have hj2 := x_some_lt hlt14 hne; exact ((frn19 j (by omega)).trans (frn16 j (by omega))))
  refine q_callvB (xs := [(0, 11, 0), (6, 455, 0)]) (p2 := 44) rfl rfl rfl rfl (x_rcv_s 455 (x_KS_455 hK19)) rfl (k_op_11_3 hm20.1.choose_spec hK19 (by omega) (by omega) hm20.2.1 (x_PS_H hm20) (x_PS_M hm20) (x_PS_N hm20) hv22 hc62) rfl (fun φ23 n23 sl23 hn23 hN23 hs23 hT23 hR23 => ?_)
  obtain ⟨v23, hK23, hV23, frn23⟩ := hR23
  rw [if_pos ⟨rfl, hisA⟩] at hV23
  refine x_n_lt (fun hlt24 => ?_)
  have hz25 := x_mv_lt hV23 hlt24
  have hy25 := hV23.1
  refine q_goto rfl ?_
  refine q_iinc (z := 2) (loc2 := [(6, 455, 0), (0, 60, 0), (6, vs, 0), (0, 2, 0), (0, 11, 0)]) (p2 := 49) rfl rfl (by decide) rfl rfl ?_
  refine q_goto rfl ?_
  refine q_load (v := (0, 2, 0)) (p2 := 20) rfl rfl rfl rfl ?_
  refine q_const (p2 := 21) rfl rfl ?_
  refine q_icmp_s (p2 := 22) rfl (by decide) (by omega) (by omega) rfl (fun hb => absurd hb (show ¬ (¬ (2 < 1000000)) by omega)) (fun _ => ?_)
  refine q_load (v := (6, 455, 0)) (p2 := 23) rfl rfl rfl rfl ?_
  refine q_getv (v := (0, 1, 0)) (p2 := 24) rfl (x_KS_455 hK23) (by decide) hK23.1.choose_spec.2.2.2.2.2.2.2.2.2.2.2.1 rfl ?_
  refine q_if0_s (p2 := 25) rfl (by decide) (by omega) rfl (fun hb => absurd hb (show ¬ (¬ (0 < 1)) by omega)) (fun _ => ?_)
  refine q_load (v := (6, 455, 0)) (p2 := 26) rfl rfl rfl rfl ?_
  refine q_getv (v := (0, 0, 0)) (p2 := 27) rfl (x_KS_455 hK23) (by decide) hK23.1.choose_spec.2.2.2.2.2.2.2.2.2.2.2.2.2.2.2.2.2.1 rfl ?_
  refine q_if0_s (p2 := 28) rfl (by decide) (by omega) rfl (fun hb => absurd hb (show ¬ (¬ (0 = 0)) by omega)) (fun _ => ?_)
  refine q_load (v := (6, 455, 0)) (p2 := 29) rfl rfl rfl rfl ?_
  have hm26 := (x_PS_at hm20 (fun j hj hne => by have hj2 := x_some_lt hlt21 hne; exact (frn23 j (by omega))))
  refine q_callrE (xs := [(6, 455, 0)]) (p2 := 30) rfl rfl rfl rfl (x_rcv_s 455 (x_KS_455 hK23)) rfl (k_fetchw hc63 hm26.1.choose_spec hK23 (by omega)) (Nat.le_refl _) (Nat.le_refl _) rfl (fun φ27 hR27 => ?_)
  obtain ⟨hK27, frn27⟩ := hR27
  refine q_store (loc2 := [(6, 455, 0), (0, 60, 0), (6, vs, 0), (0, 2, 0), (0, 31, 0)]) (p2 := 31) rfl rfl rfl rfl rfl ?_
  refine q_load (v := (0, 31, 0)) (p2 := 32) rfl rfl rfl rfl ?_
  refine q_const (p2 := 33) rfl rfl ?_
  refine q_icmp_s (p2 := 34) rfl (by decide) (by omega) (by omega) rfl (fun _ => ?_) (fun hb => absurd (show 10 < 31 by omega) hb)
  refine q_load (v := (0, 31, 0)) (p2 := 39) rfl rfl rfl rfl ?_
  refine q_const (p2 := 40) rfl rfl ?_
  refine q_icmp_s (p2 := 41) rfl (by decide) (by omega) (by omega) rfl (fun _ => ?_) (fun hb => absurd (show 19 < 31 by omega) hb)
  refine q_load (v := (6, 455, 0)) (p2 := 46) rfl rfl rfl rfl ?_
  refine q_load (v := (0, 31, 0)) (p2 := 47) rfl rfl rfl rfl ?_
  refine x_n_lt (fun hlt29 => ?_)
  have hm28 := (x_PS_at hm26 (fun j hj hne => by have hj2 := x_some_lt hlt24 hne; exact (frn27 j (by omega))))
  have hv30 := x_mv_at hV23 (fun j hj hne => by have hj2 := x_some_lt hlt24 hne; exact (frn27 j (by omega)))
  refine q_callvB (xs := [(0, 31, 0), (6, 455, 0)]) (p2 := 48) rfl rfl rfl rfl (x_rcv_s 455 (x_KS_455 hK27)) rfl (k_lead_31 (top := 0) (fr := 0) hm28.1.choose_spec hK27 (by omega) (by omega) hv30 (Or.inl rfl) (by omega) (by show (0 : Nat) < 4096; decide)) rfl (fun φ31 n31 sl31 hn31 hN31 hs31 hT31 hR31 => ?_)
  obtain ⟨hK31, frn31⟩ := hR31
  refine q_iinc (z := 3) (loc2 := [(6, 455, 0), (0, 60, 0), (6, vs, 0), (0, 3, 0), (0, 31, 0)]) (p2 := 49) rfl rfl (by decide) rfl rfl ?_
  refine q_goto rfl ?_
  refine q_load (v := (0, 3, 0)) (p2 := 20) rfl rfl rfl rfl ?_
  refine q_const (p2 := 21) rfl rfl ?_
  refine q_icmp_s (p2 := 22) rfl (by decide) (by omega) (by omega) rfl (fun hb => absurd hb (show ¬ (¬ (3 < 1000000)) by omega)) (fun _ => ?_)
  refine q_load (v := (6, 455, 0)) (p2 := 23) rfl rfl rfl rfl ?_
  refine q_getv (v := (0, 0, 0)) (p2 := 24) rfl (x_KS_455 hK31) (by decide) hK31.1.choose_spec.2.2.2.2.2.2.2.2.2.2.2.1 rfl ?_
  refine q_if0_s (p2 := 25) rfl (by decide) (by omega) rfl (fun _ => ?_) (fun hb => absurd (show ¬ (0 < 0) by omega) hb)
  refine q_load (v := (6, 455, 0)) (p2 := 51) rfl rfl rfl rfl ?_
  refine q_getv (v := (0, 0, 0)) (p2 := 52) rfl (x_KS_455 hK31) (by decide) hK31.1.choose_spec.2.2.2.2.2.2.2.2.2.2.2.2.2.2.2.2.2.1 rfl ?_
  refine q_if0_s (p2 := 53) rfl (by decide) (by omega) rfl (fun _ => ?_) (fun hb => absurd (show 0 = 0 by omega) hb)
  refine q_load (v := (6, 455, 0)) (p2 := 57) rfl rfl rfl rfl ?_
  refine q_callrE (xs := [(6, 455, 0)]) (p2 := 58) rfl rfl rfl rfl (x_rcv_s 455 (x_KS_455 hK31)) rfl (k_pop (top := 0) hK31 (by omega)) (Nat.le_refl _) (Nat.le_refl _) rfl (fun φ32 hR32 => ?_)
  obtain ⟨hK32, frn32⟩ := hR32
  refine x_n_lt (fun hlt34 => ?_)
  have hv33 := x_mv_at hv30 (fun j hj hne => by have hj2 := x_some_lt hlt29 hne; exact ((frn32 j (by omega)).trans (frn31 j (by omega))))
  exact q_retv (v := (6, v23, 0)) rfl rfl (⟨rfl, ⟨by omega, by omega⟩, ⟨by omega, by omega⟩, v23, rfl, ⟨_, _, _, _, _, _, _, _, _, _, hK32⟩, hv33, fun j hj1 hj2 => ((frn32 j (by omega)).trans ((frn31 j (by omega)).trans ((frn27 j (by omega)).trans ((frn23 j (by omega)).trans ((frn19 j (by omega)).trans ((frn16 j (by omega)).trans ((frn12 j (by omega)).trans ((frn9 j (by omega)).trans ((fr5 j (by omega)).trans ((fr4 j (by omega)).trans ((fr3 j (by omega)).trans (fr2 j (by omega)))))))))))))⟩)
set_option maxHeartbeats 1000000 in
theorem zc_run_get4 {d n sl : Nat} {φ : FH} {A : Nat} {B : Nat} {made : Nat} {sv : Nat} {svm : Nat} {s9 : Nat} {comb : Nat → Nat} {hm : Nat → MV} {top : Nat} {fr : Nat} {pc_ : Nat} {mm : Nat} {mi : Nat} {st : Nat → Nat} {lo : Nat → Nat} {re : Nat → Nat} {rs : Nat → Nat} {fl : Nat → Nat} {se : Nat → Nat} {co : Nat → Nat} {w1 vs : Nat} (hPS : x_PS φ A B made sv svm s9 comb hm) (hKS : x_KS φ top fr pc_ mm mi st lo re rs fl se co) (hn0 : 486 ≤ n) (hmi : mi + 30 ≤ 20000) (hc60 : co 60 = 9) (hc61 : co 61 = 11) (hc62 : co 62 = 4) (hc63 : co 63 = 31) (hvs : x_mv φ vs (5, w1, 0, 0, [])) (hw1 : w1 < 512) (hisA : x_isA made comb w1 2) : x_f x_P (d + 6) 56 [(6, 455, 0), (0, 60, 0), (6, vs, 0), (11, 0, 0), (11, 0, 0)] φ n sl (x_bR n sl 3 55 (fun zw φ2 => ∃ v, zw = (6, v, 0) ∧ x_KJ φ2 (mi) co ∧ x_mv φ2 v (if (x_fl (fun y => comb y ≠ 0 ∧ x_ho (hm (y * 40 + 3)) w1) made).length ≤ 24 then (6, 0, 3, 5, (x_fl (fun y => comb y ≠ 0 ∧ x_ho (hm (y * 40 + 3)) w1) made)) else MV0) ∧ ∀ j, j < n → (j < 455 ∨ 466 ≤ j) → φ2 j = φ j)) := by
  refine x_f_of rfl ?_
  refine x_n_lt (fun hlt0 => ?_)
  have hz1 := x_mv_lt hvs hlt0
  have hy1 := hvs.1
  refine q_load (v := (6, 455, 0)) (p2 := 1) rfl rfl rfl rfl ?_
  refine q_const (p2 := 2) rfl rfl ?_
  refine q_putfE (v := (0, 0, 0)) (p2 := 3) rfl (x_KS_455 hKS) (by decide) rfl rfl (fun φ2 f2 hh2 hg2 ho2 fr2 => ?_)
  have hs2 := x_KS_put_18 hKS hh2 hg2 ho2 fr2
  refine q_load (v := (6, 455, 0)) (p2 := 4) rfl rfl rfl rfl ?_
  refine q_const (p2 := 5) rfl rfl ?_
  refine q_putfE (v := (0, 0, 0)) (p2 := 6) rfl (x_KS_455 hs2) (by decide) rfl rfl (fun φ3 f3 hh3 hg3 ho3 fr3 => ?_)
  have hs3 := x_KS_put_16 hs2 hh3 hg3 ho3 fr3
  refine q_load (v := (6, 455, 0)) (p2 := 7) rfl rfl rfl rfl ?_
  refine q_const (p2 := 8) rfl rfl ?_
  refine q_putfE (v := (0, 0, 0)) (p2 := 9) rfl (x_KS_455 hs3) (by decide) rfl rfl (fun φ4 f4 hh4 hg4 ho4 fr4 => ?_)
  have hs4 := x_KS_put_4 hs3 hh4 hg4 ho4 fr4
  refine q_load (v := (6, 455, 0)) (p2 := 10) rfl rfl rfl rfl ?_
  refine q_const (p2 := 11) rfl rfl ?_
  refine q_putfE (v := (0, 0, 0)) (p2 := 12) rfl (x_KS_455 hs4) (by decide) rfl rfl (fun φ5 f5 hh5 hg5 ho5 fr5 => ?_)
  have hs5 := x_KS_put_10 hs4 hh5 hg5 ho5 fr5
  refine q_load (v := (6, 455, 0)) (p2 := 13) rfl rfl rfl rfl ?_
  refine q_load (v := (0, 60, 0)) (p2 := 14) rfl rfl rfl rfl ?_
  refine q_const (p2 := 15) rfl rfl ?_
  refine q_load (v := (6, vs, 0)) (p2 := 16) rfl rfl rfl rfl ?_
  refine x_n_lt (fun hlt7 => ?_)
  have hm6 := (x_PS_at hPS (fun j hj hne => by have hj2 := x_some_lt hlt0 hne; exact ((fr5 j (by omega)).trans ((fr4 j (by omega)).trans ((fr3 j (by omega)).trans (fr2 j (by omega)))))))
  have hv8 := x_mv_at hvs (fun j hj hne => by have hj2 := x_some_lt hlt0 hne; exact ((fr5 j (by omega)).trans ((fr4 j (by omega)).trans ((fr3 j (by omega)).trans (fr2 j (by omega))))))
  refine q_callvE (xs := [(6, vs, 0), (0, 4294967293, 0), (0, 60, 0), (6, 455, 0)]) (p2 := 17) rfl rfl rfl rfl (x_rcv_s 455 (x_KS_455 hs5)) rfl (k_open hs5 (x_PS_N hm6) hv8 (by omega)) (Nat.le_refl _) (Nat.le_refl _) rfl (fun φ9 hR9 => ?_)
  obtain ⟨hK9, frn9⟩ := hR9
  refine q_const (p2 := 18) rfl rfl ?_
  refine q_store (loc2 := [(6, 455, 0), (0, 60, 0), (6, vs, 0), (0, 0, 0), (11, 0, 0)]) (p2 := 19) rfl rfl rfl rfl rfl ?_
  refine q_load (v := (0, 0, 0)) (p2 := 20) rfl rfl rfl rfl ?_
  refine q_const (p2 := 21) rfl rfl ?_
  refine q_icmp_s (p2 := 22) rfl (by decide) (by omega) (by omega) rfl (fun hb => absurd hb (show ¬ (¬ (0 < 1000000)) by omega)) (fun _ => ?_)
  refine q_load (v := (6, 455, 0)) (p2 := 23) rfl rfl rfl rfl ?_
  refine q_getv (v := (0, 1, 0)) (p2 := 24) rfl (x_KS_455 hK9) (by decide) hK9.1.choose_spec.2.2.2.2.2.2.2.2.2.2.2.1 rfl ?_
  refine q_if0_s (p2 := 25) rfl (by decide) (by omega) rfl (fun hb => absurd hb (show ¬ (¬ (0 < 1)) by omega)) (fun _ => ?_)
  refine q_load (v := (6, 455, 0)) (p2 := 26) rfl rfl rfl rfl ?_
  refine q_getv (v := (0, 0, 0)) (p2 := 27) rfl (x_KS_455 hK9) (by decide) hK9.1.choose_spec.2.2.2.2.2.2.2.2.2.2.2.2.2.2.2.2.2.1 rfl ?_
  refine q_if0_s (p2 := 28) rfl (by decide) (by omega) rfl (fun hb => absurd hb (show ¬ (¬ (0 = 0)) by omega)) (fun _ => ?_)
  refine q_load (v := (6, 455, 0)) (p2 := 29) rfl rfl rfl rfl ?_
  refine x_n_lt (fun hlt11 => ?_)
  have hm10 := (x_PS_at hm6 (fun j hj hne => by have hj2 := x_some_lt hlt7 hne; exact (frn9 j (by omega))))
  refine q_callrE (xs := [(6, 455, 0)]) (p2 := 30) rfl rfl rfl rfl (x_rcv_s 455 (x_KS_455 hK9)) rfl (k_fetchw hc60 hm10.1.choose_spec hK9 (by omega)) (Nat.le_refl _) (Nat.le_refl _) rfl (fun φ12 hR12 => ?_)
  obtain ⟨hK12, frn12⟩ := hR12
  refine q_store (loc2 := [(6, 455, 0), (0, 60, 0), (6, vs, 0), (0, 0, 0), (0, 9, 0)]) (p2 := 31) rfl rfl rfl rfl rfl ?_
  refine q_load (v := (0, 9, 0)) (p2 := 32) rfl rfl rfl rfl ?_
  refine q_const (p2 := 33) rfl rfl ?_
  refine q_icmp_s (p2 := 34) rfl (by decide) (by omega) (by omega) rfl (fun hb => absurd hb (show ¬ (10 < 9) by omega)) (fun _ => ?_)
  refine q_load (v := (6, 455, 0)) (p2 := 35) rfl rfl rfl rfl ?_
  refine q_load (v := (0, 9, 0)) (p2 := 36) rfl rfl rfl rfl ?_
  refine x_n_lt (fun hlt14 => ?_)
  have hm13 := (x_PS_at hm10 (fun j hj hne => by have hj2 := x_some_lt hlt11 hne; exact (frn12 j (by omega))))
  have hv15 := x_mv_at hv8 (fun j hj hne => by have hj2 := x_some_lt hlt7 hne; exact ((frn12 j (by omega)).trans (frn9 j (by omega))))
  refine q_callvB (xs := [(0, 9, 0), (6, 455, 0)]) (p2 := 37) rfl rfl rfl rfl (x_rcv_s 455 (x_KS_455 hK12)) rfl (k_plain_9 hm13.1.choose_spec hK12 (by omega) (by omega) hv15 (by omega)) rfl (fun φ16 n16 sl16 hn16 hN16 hs16 hT16 hR16 => ?_)
  obtain ⟨hK16, frn16⟩ := hR16
  refine q_goto rfl ?_
  refine q_iinc (z := 1) (loc2 := [(6, 455, 0), (0, 60, 0), (6, vs, 0), (0, 1, 0), (0, 9, 0)]) (p2 := 49) rfl rfl (by decide) rfl rfl ?_
  refine q_goto rfl ?_
  refine q_load (v := (0, 1, 0)) (p2 := 20) rfl rfl rfl rfl ?_
  refine q_const (p2 := 21) rfl rfl ?_
  refine q_icmp_s (p2 := 22) rfl (by decide) (by omega) (by omega) rfl (fun hb => absurd hb (show ¬ (¬ (1 < 1000000)) by omega)) (fun _ => ?_)
  refine q_load (v := (6, 455, 0)) (p2 := 23) rfl rfl rfl rfl ?_
  refine q_getv (v := (0, 1, 0)) (p2 := 24) rfl (x_KS_455 hK16) (by decide) hK16.1.choose_spec.2.2.2.2.2.2.2.2.2.2.2.1 rfl ?_
  refine q_if0_s (p2 := 25) rfl (by decide) (by omega) rfl (fun hb => absurd hb (show ¬ (¬ (0 < 1)) by omega)) (fun _ => ?_)
  refine q_load (v := (6, 455, 0)) (p2 := 26) rfl rfl rfl rfl ?_
  refine q_getv (v := (0, 0, 0)) (p2 := 27) rfl (x_KS_455 hK16) (by decide) hK16.1.choose_spec.2.2.2.2.2.2.2.2.2.2.2.2.2.2.2.2.2.1 rfl ?_
  refine q_if0_s (p2 := 28) rfl (by decide) (by omega) rfl (fun hb => absurd hb (show ¬ (¬ (0 = 0)) by omega)) (fun _ => ?_)
  refine q_load (v := (6, 455, 0)) (p2 := 29) rfl rfl rfl rfl ?_
  refine x_n_lt (fun hlt18 => ?_)
  have hm17 := (x_PS_at hm13 (fun j hj hne => by have hj2 := x_some_lt hlt14 hne; exact (frn16 j (by omega))))
  refine q_callrE (xs := [(6, 455, 0)]) (p2 := 30) rfl rfl rfl rfl (x_rcv_s 455 (x_KS_455 hK16)) rfl (k_fetchw hc61 hm17.1.choose_spec hK16 (by omega)) (Nat.le_refl _) (Nat.le_refl _) rfl (fun φ19 hR19 => ?_)
  obtain ⟨hK19, frn19⟩ := hR19
  refine q_store (loc2 := [(6, 455, 0), (0, 60, 0), (6, vs, 0), (0, 1, 0), (0, 11, 0)]) (p2 := 31) rfl rfl rfl rfl rfl ?_
  refine q_load (v := (0, 11, 0)) (p2 := 32) rfl rfl rfl rfl ?_
  refine q_const (p2 := 33) rfl rfl ?_
  refine q_icmp_s (p2 := 34) rfl (by decide) (by omega) (by omega) rfl (fun _ => ?_) (fun hb => absurd (show 10 < 11 by omega) hb)
  refine q_load (v := (0, 11, 0)) (p2 := 39) rfl rfl rfl rfl ?_
  refine q_const (p2 := 40) rfl rfl ?_
  refine q_icmp_s (p2 := 41) rfl (by decide) (by omega) (by omega) rfl (fun hb => absurd hb (show ¬ (19 < 11) by omega)) (fun _ => ?_)
  refine q_load (v := (6, 455, 0)) (p2 := 42) rfl rfl rfl rfl ?_
  refine q_load (v := (0, 11, 0)) (p2 := 43) rfl rfl rfl rfl ?_
  refine x_n_lt (fun hlt21 => ?_)
  have hm20 := (x_PS_at hm17 (fun j hj hne => by have hj2 := x_some_lt hlt18 hne; exact (frn19 j (by omega))))
  have hv22 := x_mv_at hv15 (fun j hj hne => by have hj2 := x_some_lt hlt14 hne; exact ((frn19 j (by omega)).trans (frn16 j (by omega))))
  refine q_callvB (xs := [(0, 11, 0), (6, 455, 0)]) (p2 := 44) rfl rfl rfl rfl (x_rcv_s 455 (x_KS_455 hK19)) rfl (k_op_11_4 hm20.1.choose_spec hK19 (by omega) (by omega) hm20 hm20.2.1 hv22 rfl hisA (by omega) hc62) rfl (fun φ23 n23 sl23 hn23 hN23 hs23 hT23 hR23 => ?_)
  obtain ⟨v23, hK23, hV23, frn23⟩ := hR23
  refine x_n_lt (fun hlt24 => ?_)
  have hz25 := x_mv_lt hV23 hlt24
  have hy25 := hV23.1
  refine q_goto rfl ?_
  refine q_iinc (z := 2) (loc2 := [(6, 455, 0), (0, 60, 0), (6, vs, 0), (0, 2, 0), (0, 11, 0)]) (p2 := 49) rfl rfl (by decide) rfl rfl ?_
  refine q_goto rfl ?_
  refine q_load (v := (0, 2, 0)) (p2 := 20) rfl rfl rfl rfl ?_
  refine q_const (p2 := 21) rfl rfl ?_
  refine q_icmp_s (p2 := 22) rfl (by decide) (by omega) (by omega) rfl (fun hb => absurd hb (show ¬ (¬ (2 < 1000000)) by omega)) (fun _ => ?_)
  refine q_load (v := (6, 455, 0)) (p2 := 23) rfl rfl rfl rfl ?_
  refine q_getv (v := (0, 1, 0)) (p2 := 24) rfl (x_KS_455 hK23) (by decide) hK23.1.choose_spec.2.2.2.2.2.2.2.2.2.2.2.1 rfl ?_
  refine q_if0_s (p2 := 25) rfl (by decide) (by omega) rfl (fun hb => absurd hb (show ¬ (¬ (0 < 1)) by omega)) (fun _ => ?_)
  refine q_load (v := (6, 455, 0)) (p2 := 26) rfl rfl rfl rfl ?_
  refine q_getv (v := (0, 0, 0)) (p2 := 27) rfl (x_KS_455 hK23) (by decide) hK23.1.choose_spec.2.2.2.2.2.2.2.2.2.2.2.2.2.2.2.2.2.1 rfl ?_
  refine q_if0_s (p2 := 28) rfl (by decide) (by omega) rfl (fun hb => absurd hb (show ¬ (¬ (0 = 0)) by omega)) (fun _ => ?_)
  refine q_load (v := (6, 455, 0)) (p2 := 29) rfl rfl rfl rfl ?_
  have hm26 := (x_PS_at hm20 (fun j hj hne => by have hj2 := x_some_lt hlt21 hne; exact (frn23 j (by omega) (by omega))))
  refine q_callrE (xs := [(6, 455, 0)]) (p2 := 30) rfl rfl rfl rfl (x_rcv_s 455 (x_KS_455 hK23)) rfl (k_fetchw hc63 hm26.1.choose_spec hK23 (by omega)) (Nat.le_refl _) (Nat.le_refl _) rfl (fun φ27 hR27 => ?_)
  obtain ⟨hK27, frn27⟩ := hR27
  refine q_store (loc2 := [(6, 455, 0), (0, 60, 0), (6, vs, 0), (0, 2, 0), (0, 31, 0)]) (p2 := 31) rfl rfl rfl rfl rfl ?_
  refine q_load (v := (0, 31, 0)) (p2 := 32) rfl rfl rfl rfl ?_
  refine q_const (p2 := 33) rfl rfl ?_
  refine q_icmp_s (p2 := 34) rfl (by decide) (by omega) (by omega) rfl (fun _ => ?_) (fun hb => absurd (show 10 < 31 by omega) hb)
  refine q_load (v := (0, 31, 0)) (p2 := 39) rfl rfl rfl rfl ?_
  refine q_const (p2 := 40) rfl rfl ?_
  refine q_icmp_s (p2 := 41) rfl (by decide) (by omega) (by omega) rfl (fun _ => ?_) (fun hb => absurd (show 19 < 31 by omega) hb)
  refine q_load (v := (6, 455, 0)) (p2 := 46) rfl rfl rfl rfl ?_
  refine q_load (v := (0, 31, 0)) (p2 := 47) rfl rfl rfl rfl ?_
  refine x_n_lt (fun hlt29 => ?_)
  have hm28 := (x_PS_at hm26 (fun j hj hne => by have hj2 := x_some_lt hlt24 hne; exact (frn27 j (by omega))))
  have hv30 := x_mv_at hV23 (fun j hj hne => by have hj2 := x_some_lt hlt24 hne; exact (frn27 j (by omega)))
  refine q_callvB (xs := [(0, 31, 0), (6, 455, 0)]) (p2 := 48) rfl rfl rfl rfl (x_rcv_s 455 (x_KS_455 hK27)) rfl (k_lead_31 (top := 0) (fr := 0) hm28.1.choose_spec hK27 (by omega) (by omega) hv30 (Or.inl rfl) (by omega) (by show (0 : Nat) < 4096; decide)) rfl (fun φ31 n31 sl31 hn31 hN31 hs31 hT31 hR31 => ?_)
  obtain ⟨hK31, frn31⟩ := hR31
  refine q_iinc (z := 3) (loc2 := [(6, 455, 0), (0, 60, 0), (6, vs, 0), (0, 3, 0), (0, 31, 0)]) (p2 := 49) rfl rfl (by decide) rfl rfl ?_
  refine q_goto rfl ?_
  refine q_load (v := (0, 3, 0)) (p2 := 20) rfl rfl rfl rfl ?_
  refine q_const (p2 := 21) rfl rfl ?_
  refine q_icmp_s (p2 := 22) rfl (by decide) (by omega) (by omega) rfl (fun hb => absurd hb (show ¬ (¬ (3 < 1000000)) by omega)) (fun _ => ?_)
  refine q_load (v := (6, 455, 0)) (p2 := 23) rfl rfl rfl rfl ?_
  refine q_getv (v := (0, 0, 0)) (p2 := 24) rfl (x_KS_455 hK31) (by decide) hK31.1.choose_spec.2.2.2.2.2.2.2.2.2.2.2.1 rfl ?_
  refine q_if0_s (p2 := 25) rfl (by decide) (by omega) rfl (fun _ => ?_) (fun hb => absurd (show ¬ (0 < 0) by omega) hb)
  refine q_load (v := (6, 455, 0)) (p2 := 51) rfl rfl rfl rfl ?_
  refine q_getv (v := (0, 0, 0)) (p2 := 52) rfl (x_KS_455 hK31) (by decide) hK31.1.choose_spec.2.2.2.2.2.2.2.2.2.2.2.2.2.2.2.2.2.1 rfl ?_
  refine q_if0_s (p2 := 53) rfl (by decide) (by omega) rfl (fun _ => ?_) (fun hb => absurd (show 0 = 0 by omega) hb)
  refine q_load (v := (6, 455, 0)) (p2 := 57) rfl rfl rfl rfl ?_
  refine q_callrE (xs := [(6, 455, 0)]) (p2 := 58) rfl rfl rfl rfl (x_rcv_s 455 (x_KS_455 hK31)) rfl (k_pop (top := 0) hK31 (by omega)) (Nat.le_refl _) (Nat.le_refl _) rfl (fun φ32 hR32 => ?_)
  obtain ⟨hK32, frn32⟩ := hR32
  refine x_n_lt (fun hlt34 => ?_)
  have hv33 := x_mv_at hv30 (fun j hj hne => by have hj2 := x_some_lt hlt29 hne; exact ((frn32 j (by omega)).trans (frn31 j (by omega))))
  exact q_retv (v := (6, v23, 0)) rfl rfl (⟨rfl, ⟨by omega, by omega⟩, ⟨by omega, by omega⟩, v23, rfl, ⟨_, _, _, _, _, _, _, _, _, _, hK32⟩, hv33, fun j hj1 hj2 => ((frn32 j (by omega)).trans ((frn31 j (by omega)).trans ((frn27 j (by omega)).trans ((frn23 j (by omega) (by omega)).trans ((frn19 j (by omega)).trans ((frn16 j (by omega)).trans ((frn12 j (by omega)).trans ((frn9 j (by omega)).trans ((fr5 j (by omega)).trans ((fr4 j (by omega)).trans ((fr3 j (by omega)).trans (fr2 j (by omega)))))))))))))⟩)
set_option maxHeartbeats 1000000 in
theorem zc_run_get2_0 {d n sl : Nat} {φ : FH} {A : Nat} {B : Nat} {made : Nat} {sv : Nat} {svm : Nat} {s9 : Nat} {comb : Nat → Nat} {hm : Nat → MV} {top : Nat} {fr : Nat} {pc_ : Nat} {mm : Nat} {mi : Nat} {st : Nat → Nat} {lo : Nat → Nat} {re : Nat → Nat} {rs : Nat → Nat} {fl : Nat → Nat} {se : Nat → Nat} {co : Nat → Nat} {w1 vs : Nat} (hPS : x_PS φ A B made sv svm s9 comb hm) (hKS : x_KS φ top fr pc_ mm mi st lo re rs fl se co) (hn0 : 486 ≤ n) (hmi : mi + 30 ≤ 20000) (hc60 : co 60 = 9) (hc61 : co 61 = 11) (hc62 : co 62 = 2) (hc63 : co 63 = 31) (hc8 : co 8 = 1) (hc9 : co 9 = 2) (hc10 : co 10 = 9) (hc11 : co 11 = 11) (hc12 : co 12 = 0) (hc13 : co 13 = 1) (hc14 : co 14 = 1) (hc15 : co 15 = 3) (hc16 : co 16 = 2) (hc17 : co 17 = 13) (hc18 : co 18 = 71) (hc19 : co 19 = 31) (hvs : x_mv φ vs (5, w1, 0, 0, [])) (hw1 : w1 < 512) (hisA : x_isA made comb w1 0) (hk : hm (w1 * 40 + 0) = MV0) : x_f x_P (d + 6) 56 [(6, 455, 0), (0, 60, 0), (6, vs, 0), (11, 0, 0), (11, 0, 0)] φ n sl (x_bR n sl 2 14 (fun zw φ2 => ∃ v, zw = (6, v, 0) ∧ x_KJ φ2 (mi + 3) co ∧ x_mv φ2 v (MV0) ∧ ∀ j, j < n → (j < 455 ∨ 466 ≤ j) → φ2 j = φ j)) := by
  refine x_f_of rfl ?_
  refine x_n_lt (fun hlt0 => ?_)
  have hz1 := x_mv_lt hvs hlt0
  have hy1 := hvs.1
  refine q_load (v := (6, 455, 0)) (p2 := 1) rfl rfl rfl rfl ?_
  refine q_const (p2 := 2) rfl rfl ?_
  refine q_putfE (v := (0, 0, 0)) (p2 := 3) rfl (x_KS_455 hKS) (by decide) rfl rfl (fun φ2 f2 hh2 hg2 ho2 fr2 => ?_)
  have hs2 := x_KS_put_18 hKS hh2 hg2 ho2 fr2
  refine q_load (v := (6, 455, 0)) (p2 := 4) rfl rfl rfl rfl ?_
  refine q_const (p2 := 5) rfl rfl ?_
  refine q_putfE (v := (0, 0, 0)) (p2 := 6) rfl (x_KS_455 hs2) (by decide) rfl rfl (fun φ3 f3 hh3 hg3 ho3 fr3 => ?_)
  have hs3 := x_KS_put_16 hs2 hh3 hg3 ho3 fr3
  refine q_load (v := (6, 455, 0)) (p2 := 7) rfl rfl rfl rfl ?_
  refine q_const (p2 := 8) rfl rfl ?_
  refine q_putfE (v := (0, 0, 0)) (p2 := 9) rfl (x_KS_455 hs3) (by decide) rfl rfl (fun φ4 f4 hh4 hg4 ho4 fr4 => ?_)
  have hs4 := x_KS_put_4 hs3 hh4 hg4 ho4 fr4
  refine q_load (v := (6, 455, 0)) (p2 := 10) rfl rfl rfl rfl ?_
  refine q_const (p2 := 11) rfl rfl ?_
  refine q_putfE (v := (0, 0, 0)) (p2 := 12) rfl (x_KS_455 hs4) (by decide) rfl rfl (fun φ5 f5 hh5 hg5 ho5 fr5 => ?_)
  have hs5 := x_KS_put_10 hs4 hh5 hg5 ho5 fr5
  refine q_load (v := (6, 455, 0)) (p2 := 13) rfl rfl rfl rfl ?_
  refine q_load (v := (0, 60, 0)) (p2 := 14) rfl rfl rfl rfl ?_
  refine q_const (p2 := 15) rfl rfl ?_
  refine q_load (v := (6, vs, 0)) (p2 := 16) rfl rfl rfl rfl ?_
  refine x_n_lt (fun hlt7 => ?_)
  have hm6 := (x_PS_at hPS (fun j hj hne => by have hj2 := x_some_lt hlt0 hne; exact ((fr5 j (by omega)).trans ((fr4 j (by omega)).trans ((fr3 j (by omega)).trans (fr2 j (by omega)))))))
  have hv8 := x_mv_at hvs (fun j hj hne => by have hj2 := x_some_lt hlt0 hne; exact ((fr5 j (by omega)).trans ((fr4 j (by omega)).trans ((fr3 j (by omega)).trans (fr2 j (by omega))))))
  refine q_callvE (xs := [(6, vs, 0), (0, 4294967293, 0), (0, 60, 0), (6, 455, 0)]) (p2 := 17) rfl rfl rfl rfl (x_rcv_s 455 (x_KS_455 hs5)) rfl (k_open hs5 (x_PS_N hm6) hv8 (by omega)) (Nat.le_refl _) (Nat.le_refl _) rfl (fun φ9 hR9 => ?_)
  obtain ⟨hK9, frn9⟩ := hR9
  refine q_const (p2 := 18) rfl rfl ?_
  refine q_store (loc2 := [(6, 455, 0), (0, 60, 0), (6, vs, 0), (0, 0, 0), (11, 0, 0)]) (p2 := 19) rfl rfl rfl rfl rfl ?_
  refine q_load (v := (0, 0, 0)) (p2 := 20) rfl rfl rfl rfl ?_
  refine q_const (p2 := 21) rfl rfl ?_
  refine q_icmp_s (p2 := 22) rfl (by decide) (by omega) (by omega) rfl (fun hb => absurd hb (show ¬ (¬ (0 < 1000000)) by omega)) (fun _ => ?_)
  refine q_load (v := (6, 455, 0)) (p2 := 23) rfl rfl rfl rfl ?_
  refine q_getv (v := (0, 1, 0)) (p2 := 24) rfl (x_KS_455 hK9) (by decide) hK9.1.choose_spec.2.2.2.2.2.2.2.2.2.2.2.1 rfl ?_
  refine q_if0_s (p2 := 25) rfl (by decide) (by omega) rfl (fun hb => absurd hb (show ¬ (¬ (0 < 1)) by omega)) (fun _ => ?_)
  refine q_load (v := (6, 455, 0)) (p2 := 26) rfl rfl rfl rfl ?_
  refine q_getv (v := (0, 0, 0)) (p2 := 27) rfl (x_KS_455 hK9) (by decide) hK9.1.choose_spec.2.2.2.2.2.2.2.2.2.2.2.2.2.2.2.2.2.1 rfl ?_
  refine q_if0_s (p2 := 28) rfl (by decide) (by omega) rfl (fun hb => absurd hb (show ¬ (¬ (0 = 0)) by omega)) (fun _ => ?_)
  refine q_load (v := (6, 455, 0)) (p2 := 29) rfl rfl rfl rfl ?_
  refine x_n_lt (fun hlt11 => ?_)
  have hm10 := (x_PS_at hm6 (fun j hj hne => by have hj2 := x_some_lt hlt7 hne; exact (frn9 j (by omega))))
  refine q_callrE (xs := [(6, 455, 0)]) (p2 := 30) rfl rfl rfl rfl (x_rcv_s 455 (x_KS_455 hK9)) rfl (k_fetchw hc60 hm10.1.choose_spec hK9 (by omega)) (Nat.le_refl _) (Nat.le_refl _) rfl (fun φ12 hR12 => ?_)
  obtain ⟨hK12, frn12⟩ := hR12
  refine q_store (loc2 := [(6, 455, 0), (0, 60, 0), (6, vs, 0), (0, 0, 0), (0, 9, 0)]) (p2 := 31) rfl rfl rfl rfl rfl ?_
  refine q_load (v := (0, 9, 0)) (p2 := 32) rfl rfl rfl rfl ?_
  refine q_const (p2 := 33) rfl rfl ?_
  refine q_icmp_s (p2 := 34) rfl (by decide) (by omega) (by omega) rfl (fun hb => absurd hb (show ¬ (10 < 9) by omega)) (fun _ => ?_)
  refine q_load (v := (6, 455, 0)) (p2 := 35) rfl rfl rfl rfl ?_
  refine q_load (v := (0, 9, 0)) (p2 := 36) rfl rfl rfl rfl ?_
  refine x_n_lt (fun hlt14 => ?_)
  have hm13 := (x_PS_at hm10 (fun j hj hne => by have hj2 := x_some_lt hlt11 hne; exact (frn12 j (by omega))))
  have hv15 := x_mv_at hv8 (fun j hj hne => by have hj2 := x_some_lt hlt7 hne; exact ((frn12 j (by omega)).trans (frn9 j (by omega))))
  refine q_callvB (xs := [(0, 9, 0), (6, 455, 0)]) (p2 := 37) rfl rfl rfl rfl (x_rcv_s 455 (x_KS_455 hK12)) rfl (k_plain_9 hm13.1.choose_spec hK12 (by omega) (by omega) hv15 (by omega)) rfl (fun φ16 n16 sl16 hn16 hN16 hs16 hT16 hR16 => ?_)
  obtain ⟨hK16, frn16⟩ := hR16
  refine q_goto rfl ?_
  refine q_iinc (z := 1) (loc2 := [(6, 455, 0), (0, 60, 0), (6, vs, 0), (0, 1, 0), (0, 9, 0)]) (p2 := 49) rfl rfl (by decide) rfl rfl ?_
  refine q_goto rfl ?_
  refine q_load (v := (0, 1, 0)) (p2 := 20) rfl rfl rfl rfl ?_
  refine q_const (p2 := 21) rfl rfl ?_
  refine q_icmp_s (p2 := 22) rfl (by decide) (by omega) (by omega) rfl (fun hb => absurd hb (show ¬ (¬ (1 < 1000000)) by omega)) (fun _ => ?_)
  refine q_load (v := (6, 455, 0)) (p2 := 23) rfl rfl rfl rfl ?_
  refine q_getv (v := (0, 1, 0)) (p2 := 24) rfl (x_KS_455 hK16) (by decide) hK16.1.choose_spec.2.2.2.2.2.2.2.2.2.2.2.1 rfl ?_
  refine q_if0_s (p2 := 25) rfl (by decide) (by omega) rfl (fun hb => absurd hb (show ¬ (¬ (0 < 1)) by omega)) (fun _ => ?_)
  refine q_load (v := (6, 455, 0)) (p2 := 26) rfl rfl rfl rfl ?_
  refine q_getv (v := (0, 0, 0)) (p2 := 27) rfl (x_KS_455 hK16) (by decide) hK16.1.choose_spec.2.2.2.2.2.2.2.2.2.2.2.2.2.2.2.2.2.1 rfl ?_
  refine q_if0_s (p2 := 28) rfl (by decide) (by omega) rfl (fun hb => absurd hb (show ¬ (¬ (0 = 0)) by omega)) (fun _ => ?_)
  refine q_load (v := (6, 455, 0)) (p2 := 29) rfl rfl rfl rfl ?_
  refine x_n_lt (fun hlt18 => ?_)
  have hm17 := (x_PS_at hm13 (fun j hj hne => by have hj2 := x_some_lt hlt14 hne; exact (frn16 j (by omega))))
  refine q_callrE (xs := [(6, 455, 0)]) (p2 := 30) rfl rfl rfl rfl (x_rcv_s 455 (x_KS_455 hK16)) rfl (k_fetchw hc61 hm17.1.choose_spec hK16 (by omega)) (Nat.le_refl _) (Nat.le_refl _) rfl (fun φ19 hR19 => ?_)
  obtain ⟨hK19, frn19⟩ := hR19
  refine q_store (loc2 := [(6, 455, 0), (0, 60, 0), (6, vs, 0), (0, 1, 0), (0, 11, 0)]) (p2 := 31) rfl rfl rfl rfl rfl ?_
  refine q_load (v := (0, 11, 0)) (p2 := 32) rfl rfl rfl rfl ?_
  refine q_const (p2 := 33) rfl rfl ?_
  refine q_icmp_s (p2 := 34) rfl (by decide) (by omega) (by omega) rfl (fun _ => ?_) (fun hb => absurd (show 10 < 11 by omega) hb)
  refine q_load (v := (0, 11, 0)) (p2 := 39) rfl rfl rfl rfl ?_
  refine q_const (p2 := 40) rfl rfl ?_
  refine q_icmp_s (p2 := 41) rfl (by decide) (by omega) (by omega) rfl (fun hb => absurd hb (show ¬ (19 < 11) by omega)) (fun _ => ?_)
  refine q_load (v := (6, 455, 0)) (p2 := 42) rfl rfl rfl rfl ?_
  refine q_load (v := (0, 11, 0)) (p2 := 43) rfl rfl rfl rfl ?_
  refine x_n_lt (fun hlt21 => ?_)
  have hm20 := (x_PS_at hm17 (fun j hj hne => by have hj2 := x_some_lt hlt18 hne; exact (frn19 j (by omega))))
  have hv22 := x_mv_at hv15 (fun j hj hne => by have hj2 := x_some_lt hlt14 hne; exact ((frn19 j (by omega)).trans (frn16 j (by omega))))
  refine q_callvB (xs := [(0, 11, 0), (6, 455, 0)]) (p2 := 44) rfl rfl rfl rfl (x_rcv_s 455 (x_KS_455 hK19)) rfl (k_op_11_2 hm20.1.choose_spec hK19 (by omega) (by omega) hm20.2.1 (x_PS_N hm20) hv22 rfl hisA (by omega) hc62) rfl (fun φ23 n23 sl23 hn23 hN23 hs23 hT23 hR23 => ?_)
  obtain ⟨hK23, frn23⟩ := hR23
  refine q_goto rfl ?_
  refine q_iinc (z := 2) (loc2 := [(6, 455, 0), (0, 60, 0), (6, vs, 0), (0, 2, 0), (0, 11, 0)]) (p2 := 49) rfl rfl (by decide) rfl rfl ?_
  refine q_goto rfl ?_
  refine q_load (v := (0, 2, 0)) (p2 := 20) rfl rfl rfl rfl ?_
  refine q_const (p2 := 21) rfl rfl ?_
  refine q_icmp_s (p2 := 22) rfl (by decide) (by omega) (by omega) rfl (fun hb => absurd hb (show ¬ (¬ (2 < 1000000)) by omega)) (fun _ => ?_)
  refine q_load (v := (6, 455, 0)) (p2 := 23) rfl rfl rfl rfl ?_
  refine q_getv (v := (0, 2, 0)) (p2 := 24) rfl (x_KS_455 hK23) (by decide) hK23.1.choose_spec.2.2.2.2.2.2.2.2.2.2.2.1 rfl ?_
  refine q_if0_s (p2 := 25) rfl (by decide) (by omega) rfl (fun hb => absurd hb (show ¬ (¬ (0 < 2)) by omega)) (fun _ => ?_)
  refine q_load (v := (6, 455, 0)) (p2 := 26) rfl rfl rfl rfl ?_
  refine q_getv (v := (0, 0, 0)) (p2 := 27) rfl (x_KS_455 hK23) (by decide) hK23.1.choose_spec.2.2.2.2.2.2.2.2.2.2.2.2.2.2.2.2.2.1 rfl ?_
  refine q_if0_s (p2 := 28) rfl (by decide) (by omega) rfl (fun hb => absurd hb (show ¬ (¬ (0 = 0)) by omega)) (fun _ => ?_)
  refine q_load (v := (6, 455, 0)) (p2 := 29) rfl rfl rfl rfl ?_
  refine x_n_lt (fun hlt25 => ?_)
  have hm24 := (x_PS_at hm20 (fun j hj hne => by have hj2 := x_some_lt hlt21 hne; exact (frn23 j (by omega))))
  refine q_callrE (xs := [(6, 455, 0)]) (p2 := 30) rfl rfl rfl rfl (x_rcv_s 455 (x_KS_455 hK23)) rfl (k_fetchw hc8 hm24.1.choose_spec hK23 (by omega)) (Nat.le_refl _) (Nat.le_refl _) rfl (fun φ26 hR26 => ?_)
  obtain ⟨hK26, frn26⟩ := hR26
  refine q_store (loc2 := [(6, 455, 0), (0, 60, 0), (6, vs, 0), (0, 2, 0), (0, 1, 0)]) (p2 := 31) rfl rfl rfl rfl rfl ?_
  refine q_load (v := (0, 1, 0)) (p2 := 32) rfl rfl rfl rfl ?_
  refine q_const (p2 := 33) rfl rfl ?_
  refine q_icmp_s (p2 := 34) rfl (by decide) (by omega) (by omega) rfl (fun hb => absurd hb (show ¬ (10 < 1) by omega)) (fun _ => ?_)
  refine q_load (v := (6, 455, 0)) (p2 := 35) rfl rfl rfl rfl ?_
  refine q_load (v := (0, 1, 0)) (p2 := 36) rfl rfl rfl rfl ?_
  refine x_n_lt (fun hlt28 => ?_)
  have hm27 := (x_PS_at hm24 (fun j hj hne => by have hj2 := x_some_lt hlt25 hne; exact (frn26 j (by omega))))
  refine q_callvB (xs := [(0, 1, 0), (6, 455, 0)]) (p2 := 37) rfl rfl rfl rfl (x_rcv_s 455 (x_KS_455 hK26)) rfl (k_plain_1w hc9 hm27.1.choose_spec hK26 (by omega) (by omega) (by omega) (by omega)) rfl (fun φ29 n29 sl29 hn29 hN29 hs29 hT29 hR29 => ?_)
  obtain ⟨hK29, frn29⟩ := hR29
  refine q_goto rfl ?_
  refine q_iinc (z := 3) (loc2 := [(6, 455, 0), (0, 60, 0), (6, vs, 0), (0, 3, 0), (0, 1, 0)]) (p2 := 49) rfl rfl (by decide) rfl rfl ?_
  refine q_goto rfl ?_
  refine q_load (v := (0, 3, 0)) (p2 := 20) rfl rfl rfl rfl ?_
  refine q_const (p2 := 21) rfl rfl ?_
  refine q_icmp_s (p2 := 22) rfl (by decide) (by omega) (by omega) rfl (fun hb => absurd hb (show ¬ (¬ (3 < 1000000)) by omega)) (fun _ => ?_)
  refine q_load (v := (6, 455, 0)) (p2 := 23) rfl rfl rfl rfl ?_
  refine q_getv (v := (0, 2, 0)) (p2 := 24) rfl (x_KS_455 hK29) (by decide) hK29.1.choose_spec.2.2.2.2.2.2.2.2.2.2.2.1 rfl ?_
  refine q_if0_s (p2 := 25) rfl (by decide) (by omega) rfl (fun hb => absurd hb (show ¬ (¬ (0 < 2)) by omega)) (fun _ => ?_)
  refine q_load (v := (6, 455, 0)) (p2 := 26) rfl rfl rfl rfl ?_
  refine q_getv (v := (0, 0, 0)) (p2 := 27) rfl (x_KS_455 hK29) (by decide) hK29.1.choose_spec.2.2.2.2.2.2.2.2.2.2.2.2.2.2.2.2.2.1 rfl ?_
  refine q_if0_s (p2 := 28) rfl (by decide) (by omega) rfl (fun hb => absurd hb (show ¬ (¬ (0 = 0)) by omega)) (fun _ => ?_)
  refine q_load (v := (6, 455, 0)) (p2 := 29) rfl rfl rfl rfl ?_
  refine x_n_lt (fun hlt31 => ?_)
  have hm30 := (x_PS_at hm27 (fun j hj hne => by have hj2 := x_some_lt hlt28 hne; exact (frn29 j (by omega))))
  refine q_callrE (xs := [(6, 455, 0)]) (p2 := 30) rfl rfl rfl rfl (x_rcv_s 455 (x_KS_455 hK29)) rfl (k_fetchw hc10 hm30.1.choose_spec hK29 (by omega)) (Nat.le_refl _) (Nat.le_refl _) rfl (fun φ32 hR32 => ?_)
  obtain ⟨hK32, frn32⟩ := hR32
  refine q_store (loc2 := [(6, 455, 0), (0, 60, 0), (6, vs, 0), (0, 3, 0), (0, 9, 0)]) (p2 := 31) rfl rfl rfl rfl rfl ?_
  refine q_load (v := (0, 9, 0)) (p2 := 32) rfl rfl rfl rfl ?_
  refine q_const (p2 := 33) rfl rfl ?_
  refine q_icmp_s (p2 := 34) rfl (by decide) (by omega) (by omega) rfl (fun hb => absurd hb (show ¬ (10 < 9) by omega)) (fun _ => ?_)
  refine q_load (v := (6, 455, 0)) (p2 := 35) rfl rfl rfl rfl ?_
  refine q_load (v := (0, 9, 0)) (p2 := 36) rfl rfl rfl rfl ?_
  refine x_n_lt (fun hlt34 => ?_)
  have hm33 := (x_PS_at hm30 (fun j hj hne => by have hj2 := x_some_lt hlt31 hne; exact (frn32 j (by omega))))
  have hv35 := x_mv_at hv22 (fun j hj hne => by have hj2 := x_some_lt hlt21 hne; exact ((frn32 j (by omega)).trans ((frn29 j (by omega)).trans ((frn26 j (by omega)).trans (frn23 j (by omega))))))
  refine q_callvB (xs := [(0, 9, 0), (6, 455, 0)]) (p2 := 37) rfl rfl rfl rfl (x_rcv_s 455 (x_KS_455 hK32)) rfl (k_plain_9 hm33.1.choose_spec hK32 (by omega) (by omega) hv35 (by omega)) rfl (fun φ36 n36 sl36 hn36 hN36 hs36 hT36 hR36 => ?_)
  obtain ⟨hK36, frn36⟩ := hR36
  refine q_goto rfl ?_
  refine q_iinc (z := 4) (loc2 := [(6, 455, 0), (0, 60, 0), (6, vs, 0), (0, 4, 0), (0, 9, 0)]) (p2 := 49) rfl rfl (by decide) rfl rfl ?_
  refine q_goto rfl ?_
  refine q_load (v := (0, 4, 0)) (p2 := 20) rfl rfl rfl rfl ?_
  refine q_const (p2 := 21) rfl rfl ?_
  refine q_icmp_s (p2 := 22) rfl (by decide) (by omega) (by omega) rfl (fun hb => absurd hb (show ¬ (¬ (4 < 1000000)) by omega)) (fun _ => ?_)
  refine q_load (v := (6, 455, 0)) (p2 := 23) rfl rfl rfl rfl ?_
  refine q_getv (v := (0, 2, 0)) (p2 := 24) rfl (x_KS_455 hK36) (by decide) hK36.1.choose_spec.2.2.2.2.2.2.2.2.2.2.2.1 rfl ?_
  refine q_if0_s (p2 := 25) rfl (by decide) (by omega) rfl (fun hb => absurd hb (show ¬ (¬ (0 < 2)) by omega)) (fun _ => ?_)
  refine q_load (v := (6, 455, 0)) (p2 := 26) rfl rfl rfl rfl ?_
  refine q_getv (v := (0, 0, 0)) (p2 := 27) rfl (x_KS_455 hK36) (by decide) hK36.1.choose_spec.2.2.2.2.2.2.2.2.2.2.2.2.2.2.2.2.2.1 rfl ?_
  refine q_if0_s (p2 := 28) rfl (by decide) (by omega) rfl (fun hb => absurd hb (show ¬ (¬ (0 = 0)) by omega)) (fun _ => ?_)
  refine q_load (v := (6, 455, 0)) (p2 := 29) rfl rfl rfl rfl ?_
  refine x_n_lt (fun hlt38 => ?_)
  have hm37 := (x_PS_at hm33 (fun j hj hne => by have hj2 := x_some_lt hlt34 hne; exact (frn36 j (by omega))))
  refine q_callrE (xs := [(6, 455, 0)]) (p2 := 30) rfl rfl rfl rfl (x_rcv_s 455 (x_KS_455 hK36)) rfl (k_fetchw hc11 hm37.1.choose_spec hK36 (by omega)) (Nat.le_refl _) (Nat.le_refl _) rfl (fun φ39 hR39 => ?_)
  obtain ⟨hK39, frn39⟩ := hR39
  refine q_store (loc2 := [(6, 455, 0), (0, 60, 0), (6, vs, 0), (0, 4, 0), (0, 11, 0)]) (p2 := 31) rfl rfl rfl rfl rfl ?_
  refine q_load (v := (0, 11, 0)) (p2 := 32) rfl rfl rfl rfl ?_
  refine q_const (p2 := 33) rfl rfl ?_
  refine q_icmp_s (p2 := 34) rfl (by decide) (by omega) (by omega) rfl (fun _ => ?_) (fun hb => absurd (show 10 < 11 by omega) hb)
  refine q_load (v := (0, 11, 0)) (p2 := 39) rfl rfl rfl rfl ?_
  refine q_const (p2 := 40) rfl rfl ?_
  refine q_icmp_s (p2 := 41) rfl (by decide) (by omega) (by omega) rfl (fun hb => absurd hb (show ¬ (19 < 11) by omega)) (fun _ => ?_)
  refine q_load (v := (6, 455, 0)) (p2 := 42) rfl rfl rfl rfl ?_
  refine q_load (v := (0, 11, 0)) (p2 := 43) rfl rfl rfl rfl ?_
  refine x_n_lt (fun hlt41 => ?_)
  have hm40 := (x_PS_at hm37 (fun j hj hne => by have hj2 := x_some_lt hlt38 hne; exact (frn39 j (by omega))))
  have hv42 := x_mv_at hv35 (fun j hj hne => by have hj2 := x_some_lt hlt34 hne; exact ((frn39 j (by omega)).trans (frn36 j (by omega))))
  refine q_callvB (xs := [(0, 11, 0), (6, 455, 0)]) (p2 := 44) rfl rfl rfl rfl (x_rcv_s 455 (x_KS_455 hK39)) rfl (k_op_11_0 hm40.1.choose_spec hK39 (by omega) (by omega) hm40.2.1 (x_PS_H hm40) (x_PS_M hm40) (x_PS_N hm40) hv42 hc12) rfl (fun φ43 n43 sl43 hn43 hN43 hs43 hT43 hR43 => ?_)
  obtain ⟨v43, hK43, hV43, frn43⟩ := hR43
  rw [if_pos ⟨rfl, hisA⟩] at hV43
  rw [hk] at hV43
  refine x_n_lt (fun hlt44 => ?_)
  have hz45 := x_mv_lt hV43 hlt44
  have hy45 := hV43.1
  refine q_goto rfl ?_
  refine q_iinc (z := 5) (loc2 := [(6, 455, 0), (0, 60, 0), (6, vs, 0), (0, 5, 0), (0, 11, 0)]) (p2 := 49) rfl rfl (by decide) rfl rfl ?_
  refine q_goto rfl ?_
  refine q_load (v := (0, 5, 0)) (p2 := 20) rfl rfl rfl rfl ?_
  refine q_const (p2 := 21) rfl rfl ?_
  refine q_icmp_s (p2 := 22) rfl (by decide) (by omega) (by omega) rfl (fun hb => absurd hb (show ¬ (¬ (5 < 1000000)) by omega)) (fun _ => ?_)
  refine q_load (v := (6, 455, 0)) (p2 := 23) rfl rfl rfl rfl ?_
  refine q_getv (v := (0, 2, 0)) (p2 := 24) rfl (x_KS_455 hK43) (by decide) hK43.1.choose_spec.2.2.2.2.2.2.2.2.2.2.2.1 rfl ?_
  refine q_if0_s (p2 := 25) rfl (by decide) (by omega) rfl (fun hb => absurd hb (show ¬ (¬ (0 < 2)) by omega)) (fun _ => ?_)
  refine q_load (v := (6, 455, 0)) (p2 := 26) rfl rfl rfl rfl ?_
  refine q_getv (v := (0, 0, 0)) (p2 := 27) rfl (x_KS_455 hK43) (by decide) hK43.1.choose_spec.2.2.2.2.2.2.2.2.2.2.2.2.2.2.2.2.2.1 rfl ?_
  refine q_if0_s (p2 := 28) rfl (by decide) (by omega) rfl (fun hb => absurd hb (show ¬ (¬ (0 = 0)) by omega)) (fun _ => ?_)
  refine q_load (v := (6, 455, 0)) (p2 := 29) rfl rfl rfl rfl ?_
  have hm46 := (x_PS_at hm40 (fun j hj hne => by have hj2 := x_some_lt hlt41 hne; exact (frn43 j (by omega))))
  refine q_callrE (xs := [(6, 455, 0)]) (p2 := 30) rfl rfl rfl rfl (x_rcv_s 455 (x_KS_455 hK43)) rfl (k_fetchw hc13 hm46.1.choose_spec hK43 (by omega)) (Nat.le_refl _) (Nat.le_refl _) rfl (fun φ47 hR47 => ?_)
  obtain ⟨hK47, frn47⟩ := hR47
  refine q_store (loc2 := [(6, 455, 0), (0, 60, 0), (6, vs, 0), (0, 5, 0), (0, 1, 0)]) (p2 := 31) rfl rfl rfl rfl rfl ?_
  refine q_load (v := (0, 1, 0)) (p2 := 32) rfl rfl rfl rfl ?_
  refine q_const (p2 := 33) rfl rfl ?_
  refine q_icmp_s (p2 := 34) rfl (by decide) (by omega) (by omega) rfl (fun hb => absurd hb (show ¬ (10 < 1) by omega)) (fun _ => ?_)
  refine q_load (v := (6, 455, 0)) (p2 := 35) rfl rfl rfl rfl ?_
  refine q_load (v := (0, 1, 0)) (p2 := 36) rfl rfl rfl rfl ?_
  refine x_n_lt (fun hlt49 => ?_)
  have hm48 := (x_PS_at hm46 (fun j hj hne => by have hj2 := x_some_lt hlt44 hne; exact (frn47 j (by omega))))
  refine q_callvB (xs := [(0, 1, 0), (6, 455, 0)]) (p2 := 37) rfl rfl rfl rfl (x_rcv_s 455 (x_KS_455 hK47)) rfl (k_plain_1w hc14 hm48.1.choose_spec hK47 (by omega) (by omega) (by omega) (by omega)) rfl (fun φ50 n50 sl50 hn50 hN50 hs50 hT50 hR50 => ?_)
  obtain ⟨hK50, frn50⟩ := hR50
  refine q_goto rfl ?_
  refine q_iinc (z := 6) (loc2 := [(6, 455, 0), (0, 60, 0), (6, vs, 0), (0, 6, 0), (0, 1, 0)]) (p2 := 49) rfl rfl (by decide) rfl rfl ?_
  refine q_goto rfl ?_
  refine q_load (v := (0, 6, 0)) (p2 := 20) rfl rfl rfl rfl ?_
  refine q_const (p2 := 21) rfl rfl ?_
  refine q_icmp_s (p2 := 22) rfl (by decide) (by omega) (by omega) rfl (fun hb => absurd hb (show ¬ (¬ (6 < 1000000)) by omega)) (fun _ => ?_)
  refine q_load (v := (6, 455, 0)) (p2 := 23) rfl rfl rfl rfl ?_
  refine q_getv (v := (0, 2, 0)) (p2 := 24) rfl (x_KS_455 hK50) (by decide) hK50.1.choose_spec.2.2.2.2.2.2.2.2.2.2.2.1 rfl ?_
  refine q_if0_s (p2 := 25) rfl (by decide) (by omega) rfl (fun hb => absurd hb (show ¬ (¬ (0 < 2)) by omega)) (fun _ => ?_)
  refine q_load (v := (6, 455, 0)) (p2 := 26) rfl rfl rfl rfl ?_
  refine q_getv (v := (0, 0, 0)) (p2 := 27) rfl (x_KS_455 hK50) (by decide) hK50.1.choose_spec.2.2.2.2.2.2.2.2.2.2.2.2.2.2.2.2.2.1 rfl ?_
  refine q_if0_s (p2 := 28) rfl (by decide) (by omega) rfl (fun hb => absurd hb (show ¬ (¬ (0 = 0)) by omega)) (fun _ => ?_)
  refine q_load (v := (6, 455, 0)) (p2 := 29) rfl rfl rfl rfl ?_
  refine x_n_lt (fun hlt52 => ?_)
  have hm51 := (x_PS_at hm48 (fun j hj hne => by have hj2 := x_some_lt hlt49 hne; exact (frn50 j (by omega))))
  refine q_callrE (xs := [(6, 455, 0)]) (p2 := 30) rfl rfl rfl rfl (x_rcv_s 455 (x_KS_455 hK50)) rfl (k_fetchw hc15 hm51.1.choose_spec hK50 (by omega)) (Nat.le_refl _) (Nat.le_refl _) rfl (fun φ53 hR53 => ?_)
  obtain ⟨hK53, frn53⟩ := hR53
  refine q_store (loc2 := [(6, 455, 0), (0, 60, 0), (6, vs, 0), (0, 6, 0), (0, 3, 0)]) (p2 := 31) rfl rfl rfl rfl rfl ?_
  refine q_load (v := (0, 3, 0)) (p2 := 32) rfl rfl rfl rfl ?_
  refine q_const (p2 := 33) rfl rfl ?_
  refine q_icmp_s (p2 := 34) rfl (by decide) (by omega) (by omega) rfl (fun hb => absurd hb (show ¬ (10 < 3) by omega)) (fun _ => ?_)
  refine q_load (v := (6, 455, 0)) (p2 := 35) rfl rfl rfl rfl ?_
  refine q_load (v := (0, 3, 0)) (p2 := 36) rfl rfl rfl rfl ?_
  refine x_n_lt (fun hlt55 => ?_)
  have hm54 := (x_PS_at hm51 (fun j hj hne => by have hj2 := x_some_lt hlt52 hne; exact (frn53 j (by omega))))
  refine q_callvB (xs := [(0, 3, 0), (6, 455, 0)]) (p2 := 37) rfl rfl rfl rfl (x_rcv_s 455 (x_KS_455 hK53)) rfl (k_plain_3w hc16 hm54.1.choose_spec hK53 (by omega) (by omega) (by omega) (by omega)) rfl (fun φ56 n56 sl56 hn56 hN56 hs56 hT56 hR56 => ?_)
  obtain ⟨v56, hK56, hV56, frn56⟩ := hR56
  refine x_n_lt (fun hlt57 => ?_)
  have hz58 := x_mv_lt hV56 hlt57
  have hy58 := hV56.1
  refine q_goto rfl ?_
  refine q_iinc (z := 7) (loc2 := [(6, 455, 0), (0, 60, 0), (6, vs, 0), (0, 7, 0), (0, 3, 0)]) (p2 := 49) rfl rfl (by decide) rfl rfl ?_
  refine q_goto rfl ?_
  refine q_load (v := (0, 7, 0)) (p2 := 20) rfl rfl rfl rfl ?_
  refine q_const (p2 := 21) rfl rfl ?_
  refine q_icmp_s (p2 := 22) rfl (by decide) (by omega) (by omega) rfl (fun hb => absurd hb (show ¬ (¬ (7 < 1000000)) by omega)) (fun _ => ?_)
  refine q_load (v := (6, 455, 0)) (p2 := 23) rfl rfl rfl rfl ?_
  refine q_getv (v := (0, 2, 0)) (p2 := 24) rfl (x_KS_455 hK56) (by decide) hK56.1.choose_spec.2.2.2.2.2.2.2.2.2.2.2.1 rfl ?_
  refine q_if0_s (p2 := 25) rfl (by decide) (by omega) rfl (fun hb => absurd hb (show ¬ (¬ (0 < 2)) by omega)) (fun _ => ?_)
  refine q_load (v := (6, 455, 0)) (p2 := 26) rfl rfl rfl rfl ?_
  refine q_getv (v := (0, 0, 0)) (p2 := 27) rfl (x_KS_455 hK56) (by decide) hK56.1.choose_spec.2.2.2.2.2.2.2.2.2.2.2.2.2.2.2.2.2.1 rfl ?_
  refine q_if0_s (p2 := 28) rfl (by decide) (by omega) rfl (fun hb => absurd hb (show ¬ (¬ (0 = 0)) by omega)) (fun _ => ?_)
  refine q_load (v := (6, 455, 0)) (p2 := 29) rfl rfl rfl rfl ?_
  have hm59 := (x_PS_at hm54 (fun j hj hne => by have hj2 := x_some_lt hlt55 hne; exact (frn56 j (by omega) (by omega))))
  refine q_callrE (xs := [(6, 455, 0)]) (p2 := 30) rfl rfl rfl rfl (x_rcv_s 455 (x_KS_455 hK56)) rfl (k_fetchw hc17 hm59.1.choose_spec hK56 (by omega)) (Nat.le_refl _) (Nat.le_refl _) rfl (fun φ60 hR60 => ?_)
  obtain ⟨hK60, frn60⟩ := hR60
  refine q_store (loc2 := [(6, 455, 0), (0, 60, 0), (6, vs, 0), (0, 7, 0), (0, 13, 0)]) (p2 := 31) rfl rfl rfl rfl rfl ?_
  refine q_load (v := (0, 13, 0)) (p2 := 32) rfl rfl rfl rfl ?_
  refine q_const (p2 := 33) rfl rfl ?_
  refine q_icmp_s (p2 := 34) rfl (by decide) (by omega) (by omega) rfl (fun _ => ?_) (fun hb => absurd (show 10 < 13 by omega) hb)
  refine q_load (v := (0, 13, 0)) (p2 := 39) rfl rfl rfl rfl ?_
  refine q_const (p2 := 40) rfl rfl ?_
  refine q_icmp_s (p2 := 41) rfl (by decide) (by omega) (by omega) rfl (fun hb => absurd hb (show ¬ (19 < 13) by omega)) (fun _ => ?_)
  refine q_load (v := (6, 455, 0)) (p2 := 42) rfl rfl rfl rfl ?_
  refine q_load (v := (0, 13, 0)) (p2 := 43) rfl rfl rfl rfl ?_
  refine x_n_lt (fun hlt62 => ?_)
  have hm61 := (x_PS_at hm59 (fun j hj hne => by have hj2 := x_some_lt hlt57 hne; exact (frn60 j (by omega))))
  have hv63 := x_mv_at hV56 (fun j hj hne => by have hj2 := x_some_lt hlt57 hne; exact (frn60 j (by omega)))
  have hv64 := x_mv_at hV43 (fun j hj hne => by have hj2 := x_some_lt hlt44 hne; exact ((frn60 j (by omega)).trans ((frn56 j (by omega) (by omega)).trans ((frn53 j (by omega)).trans ((frn50 j (by omega)).trans (frn47 j (by omega)))))))
  refine q_callvB (xs := [(0, 13, 0), (6, 455, 0)]) (p2 := 44) rfl rfl rfl rfl (x_rcv_s 455 (x_KS_455 hK60)) rfl (k_op_13_71 (top := 0) hm61.1.choose_spec hK60 (by omega) (by omega) (by omega) (x_PS_N hm61) hv64 hv63 hc18 (fun h => absurd h.1 (by show ¬ (0 = 6); decide)) (by show (0 : Nat) ≠ 2; decide) (by show (1 : Nat) ≠ 2; decide) (by show 0 * 2 < 2147483648; omega) (by omega)) rfl (fun φ65 n65 sl65 hn65 hN65 hs65 hT65 hR65 => ?_)
  obtain ⟨v65, hK65, hV65, frn65⟩ := hR65
  rw [if_neg (by show ¬ (0 = 1 ∧ 1 = 1); decide)] at hV65
  refine x_n_lt (fun hlt66 => ?_)
  have hz67 := x_mv_lt hV65 hlt66
  have hy67 := hV65.1
  refine q_goto rfl ?_
  refine q_iinc (z := 8) (loc2 := [(6, 455, 0), (0, 60, 0), (6, vs, 0), (0, 8, 0), (0, 13, 0)]) (p2 := 49) rfl rfl (by decide) rfl rfl ?_
  refine q_goto rfl ?_
  refine q_load (v := (0, 8, 0)) (p2 := 20) rfl rfl rfl rfl ?_
  refine q_const (p2 := 21) rfl rfl ?_
  refine q_icmp_s (p2 := 22) rfl (by decide) (by omega) (by omega) rfl (fun hb => absurd hb (show ¬ (¬ (8 < 1000000)) by omega)) (fun _ => ?_)
  refine q_load (v := (6, 455, 0)) (p2 := 23) rfl rfl rfl rfl ?_
  refine q_getv (v := (0, 2, 0)) (p2 := 24) rfl (x_KS_455 hK65) (by decide) hK65.1.choose_spec.2.2.2.2.2.2.2.2.2.2.2.1 rfl ?_
  refine q_if0_s (p2 := 25) rfl (by decide) (by omega) rfl (fun hb => absurd hb (show ¬ (¬ (0 < 2)) by omega)) (fun _ => ?_)
  refine q_load (v := (6, 455, 0)) (p2 := 26) rfl rfl rfl rfl ?_
  refine q_getv (v := (0, 0, 0)) (p2 := 27) rfl (x_KS_455 hK65) (by decide) hK65.1.choose_spec.2.2.2.2.2.2.2.2.2.2.2.2.2.2.2.2.2.1 rfl ?_
  refine q_if0_s (p2 := 28) rfl (by decide) (by omega) rfl (fun hb => absurd hb (show ¬ (¬ (0 = 0)) by omega)) (fun _ => ?_)
  refine q_load (v := (6, 455, 0)) (p2 := 29) rfl rfl rfl rfl ?_
  have hm68 := (x_PS_at hm61 (fun j hj hne => by have hj2 := x_some_lt hlt62 hne; exact (frn65 j (by omega) (by omega))))
  refine q_callrE (xs := [(6, 455, 0)]) (p2 := 30) rfl rfl rfl rfl (x_rcv_s 455 (x_KS_455 hK65)) rfl (k_fetchw hc19 hm68.1.choose_spec hK65 (by omega)) (Nat.le_refl _) (Nat.le_refl _) rfl (fun φ69 hR69 => ?_)
  obtain ⟨hK69, frn69⟩ := hR69
  refine q_store (loc2 := [(6, 455, 0), (0, 60, 0), (6, vs, 0), (0, 8, 0), (0, 31, 0)]) (p2 := 31) rfl rfl rfl rfl rfl ?_
  refine q_load (v := (0, 31, 0)) (p2 := 32) rfl rfl rfl rfl ?_
  refine q_const (p2 := 33) rfl rfl ?_
  refine q_icmp_s (p2 := 34) rfl (by decide) (by omega) (by omega) rfl (fun _ => ?_) (fun hb => absurd (show 10 < 31 by omega) hb)
  refine q_load (v := (0, 31, 0)) (p2 := 39) rfl rfl rfl rfl ?_
  refine q_const (p2 := 40) rfl rfl ?_
  refine q_icmp_s (p2 := 41) rfl (by decide) (by omega) (by omega) rfl (fun _ => ?_) (fun hb => absurd (show 19 < 31 by omega) hb)
  refine q_load (v := (6, 455, 0)) (p2 := 46) rfl rfl rfl rfl ?_
  refine q_load (v := (0, 31, 0)) (p2 := 47) rfl rfl rfl rfl ?_
  refine x_n_lt (fun hlt71 => ?_)
  have hm70 := (x_PS_at hm68 (fun j hj hne => by have hj2 := x_some_lt hlt66 hne; exact (frn69 j (by omega))))
  have hv72 := x_mv_at hV65 (fun j hj hne => by have hj2 := x_some_lt hlt66 hne; exact (frn69 j (by omega)))
  refine q_callvB (xs := [(0, 31, 0), (6, 455, 0)]) (p2 := 48) rfl rfl rfl rfl (x_rcv_s 455 (x_KS_455 hK69)) rfl (k_lead_31 (top := 0) (fr := 1) hm70.1.choose_spec hK69 (by omega) (by omega) hv72 (Or.inr (Or.inl ⟨rfl, by show (0 : Nat) ≤ 1; decide⟩)) (by omega) (by show (0 : Nat) < 4096; decide)) rfl (fun φ73 n73 sl73 hn73 hN73 hs73 hT73 hR73 => ?_)
  obtain ⟨hK73, frn73⟩ := hR73
  refine q_iinc (z := 9) (loc2 := [(6, 455, 0), (0, 60, 0), (6, vs, 0), (0, 9, 0), (0, 31, 0)]) (p2 := 49) rfl rfl (by decide) rfl rfl ?_
  refine q_goto rfl ?_
  refine q_load (v := (0, 9, 0)) (p2 := 20) rfl rfl rfl rfl ?_
  refine q_const (p2 := 21) rfl rfl ?_
  refine q_icmp_s (p2 := 22) rfl (by decide) (by omega) (by omega) rfl (fun hb => absurd hb (show ¬ (¬ (9 < 1000000)) by omega)) (fun _ => ?_)
  refine q_load (v := (6, 455, 0)) (p2 := 23) rfl rfl rfl rfl ?_
  refine q_getv (v := (0, 1, 0)) (p2 := 24) rfl (x_KS_455 hK73) (by decide) hK73.1.choose_spec.2.2.2.2.2.2.2.2.2.2.2.1 rfl ?_
  refine q_if0_s (p2 := 25) rfl (by decide) (by omega) rfl (fun hb => absurd hb (show ¬ (¬ (0 < 1)) by omega)) (fun _ => ?_)
  refine q_load (v := (6, 455, 0)) (p2 := 26) rfl rfl rfl rfl ?_
  refine q_getv (v := (0, 0, 0)) (p2 := 27) rfl (x_KS_455 hK73) (by decide) hK73.1.choose_spec.2.2.2.2.2.2.2.2.2.2.2.2.2.2.2.2.2.1 rfl ?_
  refine q_if0_s (p2 := 28) rfl (by decide) (by omega) rfl (fun hb => absurd hb (show ¬ (¬ (0 = 0)) by omega)) (fun _ => ?_)
  refine q_load (v := (6, 455, 0)) (p2 := 29) rfl rfl rfl rfl ?_
  refine x_n_lt (fun hlt75 => ?_)
  have hm74 := (x_PS_at hm70 (fun j hj hne => by have hj2 := x_some_lt hlt71 hne; exact (frn73 j (by omega))))
  refine q_callrE (xs := [(6, 455, 0)]) (p2 := 30) rfl rfl rfl rfl (x_rcv_s 455 (x_KS_455 hK73)) rfl (k_fetchw hc63 hm74.1.choose_spec hK73 (by omega)) (Nat.le_refl _) (Nat.le_refl _) rfl (fun φ76 hR76 => ?_)
  obtain ⟨hK76, frn76⟩ := hR76
  refine q_store (loc2 := [(6, 455, 0), (0, 60, 0), (6, vs, 0), (0, 9, 0), (0, 31, 0)]) (p2 := 31) rfl rfl rfl rfl rfl ?_
  refine q_load (v := (0, 31, 0)) (p2 := 32) rfl rfl rfl rfl ?_
  refine q_const (p2 := 33) rfl rfl ?_
  refine q_icmp_s (p2 := 34) rfl (by decide) (by omega) (by omega) rfl (fun _ => ?_) (fun hb => absurd (show 10 < 31 by omega) hb)
  refine q_load (v := (0, 31, 0)) (p2 := 39) rfl rfl rfl rfl ?_
  refine q_const (p2 := 40) rfl rfl ?_
  refine q_icmp_s (p2 := 41) rfl (by decide) (by omega) (by omega) rfl (fun _ => ?_) (fun hb => absurd (show 19 < 31 by omega) hb)
  refine q_load (v := (6, 455, 0)) (p2 := 46) rfl rfl rfl rfl ?_
  refine q_load (v := (0, 31, 0)) (p2 := 47) rfl rfl rfl rfl ?_
  refine x_n_lt (fun hlt78 => ?_)
  have hm77 := (x_PS_at hm74 (fun j hj hne => by have hj2 := x_some_lt hlt75 hne; exact (frn76 j (by omega))))
  have hv79 := x_mv_at hv72 (fun j hj hne => by have hj2 := x_some_lt hlt71 hne; exact ((frn76 j (by omega)).trans (frn73 j (by omega))))
  refine q_callvB (xs := [(0, 31, 0), (6, 455, 0)]) (p2 := 48) rfl rfl rfl rfl (x_rcv_s 455 (x_KS_455 hK76)) rfl (k_lead_31 (top := 0) (fr := 0) hm77.1.choose_spec hK76 (by omega) (by omega) hv79 (Or.inl rfl) (by omega) (by show (0 : Nat) < 4096; decide)) rfl (fun φ80 n80 sl80 hn80 hN80 hs80 hT80 hR80 => ?_)
  obtain ⟨hK80, frn80⟩ := hR80
  refine q_iinc (z := 10) (loc2 := [(6, 455, 0), (0, 60, 0), (6, vs, 0), (0, 10, 0), (0, 31, 0)]) (p2 := 49) rfl rfl (by decide) rfl rfl ?_
  refine q_goto rfl ?_
  refine q_load (v := (0, 10, 0)) (p2 := 20) rfl rfl rfl rfl ?_
  refine q_const (p2 := 21) rfl rfl ?_
  refine q_icmp_s (p2 := 22) rfl (by decide) (by omega) (by omega) rfl (fun hb => absurd hb (show ¬ (¬ (10 < 1000000)) by omega)) (fun _ => ?_)
  refine q_load (v := (6, 455, 0)) (p2 := 23) rfl rfl rfl rfl ?_
  refine q_getv (v := (0, 0, 0)) (p2 := 24) rfl (x_KS_455 hK80) (by decide) hK80.1.choose_spec.2.2.2.2.2.2.2.2.2.2.2.1 rfl ?_
  refine q_if0_s (p2 := 25) rfl (by decide) (by omega) rfl (fun _ => ?_) (fun hb => absurd (show ¬ (0 < 0) by omega) hb)
  refine q_load (v := (6, 455, 0)) (p2 := 51) rfl rfl rfl rfl ?_
  refine q_getv (v := (0, 0, 0)) (p2 := 52) rfl (x_KS_455 hK80) (by decide) hK80.1.choose_spec.2.2.2.2.2.2.2.2.2.2.2.2.2.2.2.2.2.1 rfl ?_
  refine q_if0_s (p2 := 53) rfl (by decide) (by omega) rfl (fun _ => ?_) (fun hb => absurd (show 0 = 0 by omega) hb)
  refine q_load (v := (6, 455, 0)) (p2 := 57) rfl rfl rfl rfl ?_
  refine q_callrE (xs := [(6, 455, 0)]) (p2 := 58) rfl rfl rfl rfl (x_rcv_s 455 (x_KS_455 hK80)) rfl (k_pop (top := 0) hK80 (by omega)) (Nat.le_refl _) (Nat.le_refl _) rfl (fun φ81 hR81 => ?_)
  obtain ⟨hK81, frn81⟩ := hR81
  refine x_n_lt (fun hlt83 => ?_)
  have hv82 := x_mv_at hv79 (fun j hj hne => by have hj2 := x_some_lt hlt78 hne; exact ((frn81 j (by omega)).trans (frn80 j (by omega))))
  exact q_retv (v := (6, v65, 0)) rfl rfl (⟨rfl, ⟨by omega, by omega⟩, ⟨by omega, by omega⟩, v65, rfl, ⟨_, _, _, _, _, _, _, _, _, _, hK81⟩, hv82, fun j hj1 hj2 => ((frn81 j (by omega)).trans ((frn80 j (by omega)).trans ((frn76 j (by omega)).trans ((frn73 j (by omega)).trans ((frn69 j (by omega)).trans ((frn65 j (by omega) (by omega)).trans ((frn60 j (by omega)).trans ((frn56 j (by omega) (by omega)).trans ((frn53 j (by omega)).trans ((frn50 j (by omega)).trans ((frn47 j (by omega)).trans ((frn43 j (by omega)).trans ((frn39 j (by omega)).trans ((frn36 j (by omega)).trans ((frn32 j (by omega)).trans ((frn29 j (by omega)).trans ((frn26 j (by omega)).trans ((frn23 j (by omega)).trans ((frn19 j (by omega)).trans ((frn16 j (by omega)).trans ((frn12 j (by omega)).trans ((frn9 j (by omega)).trans ((fr5 j (by omega)).trans ((fr4 j (by omega)).trans ((fr3 j (by omega)).trans (fr2 j (by omega)))))))))))))))))))))))))))⟩)
set_option maxHeartbeats 1000000 in
theorem zc_run_get2_1 {d n sl : Nat} {φ : FH} {A : Nat} {B : Nat} {made : Nat} {sv : Nat} {svm : Nat} {s9 : Nat} {comb : Nat → Nat} {hm : Nat → MV} {top : Nat} {fr : Nat} {pc_ : Nat} {mm : Nat} {mi : Nat} {st : Nat → Nat} {lo : Nat → Nat} {re : Nat → Nat} {rs : Nat → Nat} {fl : Nat → Nat} {se : Nat → Nat} {co : Nat → Nat} {w1 vs kk : Nat} (hPS : x_PS φ A B made sv svm s9 comb hm) (hKS : x_KS φ top fr pc_ mm mi st lo re rs fl se co) (hn0 : 486 ≤ n) (hmi : mi + 30 ≤ 20000) (hc60 : co 60 = 9) (hc61 : co 61 = 11) (hc62 : co 62 = 2) (hc63 : co 63 = 31) (hc8 : co 8 = 1) (hc9 : co 9 = 2) (hc10 : co 10 = 9) (hc11 : co 11 = 11) (hc12 : co 12 = 0) (hc13 : co 13 = 1) (hc14 : co 14 = 1) (hc15 : co 15 = 3) (hc16 : co 16 = 2) (hc17 : co 17 = 13) (hc18 : co 18 = 71) (hc19 : co 19 = 31) (hvs : x_mv φ vs (5, w1, 0, 0, [])) (hw1 : w1 < 512) (hisA : x_isA made comb w1 0) (hk : hm (w1 * 40 + 0) = (1, kk, 0, 0, [])) (hkk : kk < 1024) : x_f x_P (d + 6) 56 [(6, 455, 0), (0, 60, 0), (6, vs, 0), (11, 0, 0), (11, 0, 0)] φ n sl (x_bR n sl 2 14 (fun zw φ2 => ∃ v, zw = (6, v, 0) ∧ x_KJ φ2 (mi + 3) co ∧ x_mv φ2 v ((1, kk * 2, 0, 0, [])) ∧ ∀ j, j < n → (j < 455 ∨ 466 ≤ j) → φ2 j = φ j)) := by
  refine x_f_of rfl ?_
  refine x_n_lt (fun hlt0 => ?_)
  have hz1 := x_mv_lt hvs hlt0
  have hy1 := hvs.1
  refine q_load (v := (6, 455, 0)) (p2 := 1) rfl rfl rfl rfl ?_
  refine q_const (p2 := 2) rfl rfl ?_
  refine q_putfE (v := (0, 0, 0)) (p2 := 3) rfl (x_KS_455 hKS) (by decide) rfl rfl (fun φ2 f2 hh2 hg2 ho2 fr2 => ?_)
  have hs2 := x_KS_put_18 hKS hh2 hg2 ho2 fr2
  refine q_load (v := (6, 455, 0)) (p2 := 4) rfl rfl rfl rfl ?_
  refine q_const (p2 := 5) rfl rfl ?_
  refine q_putfE (v := (0, 0, 0)) (p2 := 6) rfl (x_KS_455 hs2) (by decide) rfl rfl (fun φ3 f3 hh3 hg3 ho3 fr3 => ?_)
  have hs3 := x_KS_put_16 hs2 hh3 hg3 ho3 fr3
  refine q_load (v := (6, 455, 0)) (p2 := 7) rfl rfl rfl rfl ?_
  refine q_const (p2 := 8) rfl rfl ?_
  refine q_putfE (v := (0, 0, 0)) (p2 := 9) rfl (x_KS_455 hs3) (by decide) rfl rfl (fun φ4 f4 hh4 hg4 ho4 fr4 => ?_)
  have hs4 := x_KS_put_4 hs3 hh4 hg4 ho4 fr4
  refine q_load (v := (6, 455, 0)) (p2 := 10) rfl rfl rfl rfl ?_
  refine q_const (p2 := 11) rfl rfl ?_
  refine q_putfE (v := (0, 0, 0)) (p2 := 12) rfl (x_KS_455 hs4) (by decide) rfl rfl (fun φ5 f5 hh5 hg5 ho5 fr5 => ?_)
  have hs5 := x_KS_put_10 hs4 hh5 hg5 ho5 fr5
  refine q_load (v := (6, 455, 0)) (p2 := 13) rfl rfl rfl rfl ?_
  refine q_load (v := (0, 60, 0)) (p2 := 14) rfl rfl rfl rfl ?_
  refine q_const (p2 := 15) rfl rfl ?_
  refine q_load (v := (6, vs, 0)) (p2 := 16) rfl rfl rfl rfl ?_
  refine x_n_lt (fun hlt7 => ?_)
  have hm6 := (x_PS_at hPS (fun j hj hne => by have hj2 := x_some_lt hlt0 hne; exact ((fr5 j (by omega)).trans ((fr4 j (by omega)).trans ((fr3 j (by omega)).trans (fr2 j (by omega)))))))
  have hv8 := x_mv_at hvs (fun j hj hne => by have hj2 := x_some_lt hlt0 hne; exact ((fr5 j (by omega)).trans ((fr4 j (by omega)).trans ((fr3 j (by omega)).trans (fr2 j (by omega))))))
  refine q_callvE (xs := [(6, vs, 0), (0, 4294967293, 0), (0, 60, 0), (6, 455, 0)]) (p2 := 17) rfl rfl rfl rfl (x_rcv_s 455 (x_KS_455 hs5)) rfl (k_open hs5 (x_PS_N hm6) hv8 (by omega)) (Nat.le_refl _) (Nat.le_refl _) rfl (fun φ9 hR9 => ?_)
  obtain ⟨hK9, frn9⟩ := hR9
  refine q_const (p2 := 18) rfl rfl ?_
  refine q_store (loc2 := [(6, 455, 0), (0, 60, 0), (6, vs, 0), (0, 0, 0), (11, 0, 0)]) (p2 := 19) rfl rfl rfl rfl rfl ?_
  refine q_load (v := (0, 0, 0)) (p2 := 20) rfl rfl rfl rfl ?_
  refine q_const (p2 := 21) rfl rfl ?_
  refine q_icmp_s (p2 := 22) rfl (by decide) (by omega) (by omega) rfl (fun hb => absurd hb (show ¬ (¬ (0 < 1000000)) by omega)) (fun _ => ?_)
  refine q_load (v := (6, 455, 0)) (p2 := 23) rfl rfl rfl rfl ?_
  refine q_getv (v := (0, 1, 0)) (p2 := 24) rfl (x_KS_455 hK9) (by decide) hK9.1.choose_spec.2.2.2.2.2.2.2.2.2.2.2.1 rfl ?_
  refine q_if0_s (p2 := 25) rfl (by decide) (by omega) rfl (fun hb => absurd hb (show ¬ (¬ (0 < 1)) by omega)) (fun _ => ?_)
  refine q_load (v := (6, 455, 0)) (p2 := 26) rfl rfl rfl rfl ?_
  refine q_getv (v := (0, 0, 0)) (p2 := 27) rfl (x_KS_455 hK9) (by decide) hK9.1.choose_spec.2.2.2.2.2.2.2.2.2.2.2.2.2.2.2.2.2.1 rfl ?_
  refine q_if0_s (p2 := 28) rfl (by decide) (by omega) rfl (fun hb => absurd hb (show ¬ (¬ (0 = 0)) by omega)) (fun _ => ?_)
  refine q_load (v := (6, 455, 0)) (p2 := 29) rfl rfl rfl rfl ?_
  refine x_n_lt (fun hlt11 => ?_)
  have hm10 := (x_PS_at hm6 (fun j hj hne => by have hj2 := x_some_lt hlt7 hne; exact (frn9 j (by omega))))
  refine q_callrE (xs := [(6, 455, 0)]) (p2 := 30) rfl rfl rfl rfl (x_rcv_s 455 (x_KS_455 hK9)) rfl (k_fetchw hc60 hm10.1.choose_spec hK9 (by omega)) (Nat.le_refl _) (Nat.le_refl _) rfl (fun φ12 hR12 => ?_)
  obtain ⟨hK12, frn12⟩ := hR12
  refine q_store (loc2 := [(6, 455, 0), (0, 60, 0), (6, vs, 0), (0, 0, 0), (0, 9, 0)]) (p2 := 31) rfl rfl rfl rfl rfl ?_
  refine q_load (v := (0, 9, 0)) (p2 := 32) rfl rfl rfl rfl ?_
  refine q_const (p2 := 33) rfl rfl ?_
  refine q_icmp_s (p2 := 34) rfl (by decide) (by omega) (by omega) rfl (fun hb => absurd hb (show ¬ (10 < 9) by omega)) (fun _ => ?_)
  refine q_load (v := (6, 455, 0)) (p2 := 35) rfl rfl rfl rfl ?_
  refine q_load (v := (0, 9, 0)) (p2 := 36) rfl rfl rfl rfl ?_
  refine x_n_lt (fun hlt14 => ?_)
  have hm13 := (x_PS_at hm10 (fun j hj hne => by have hj2 := x_some_lt hlt11 hne; exact (frn12 j (by omega))))
  have hv15 := x_mv_at hv8 (fun j hj hne => by have hj2 := x_some_lt hlt7 hne; exact ((frn12 j (by omega)).trans (frn9 j (by omega))))
  refine q_callvB (xs := [(0, 9, 0), (6, 455, 0)]) (p2 := 37) rfl rfl rfl rfl (x_rcv_s 455 (x_KS_455 hK12)) rfl (k_plain_9 hm13.1.choose_spec hK12 (by omega) (by omega) hv15 (by omega)) rfl (fun φ16 n16 sl16 hn16 hN16 hs16 hT16 hR16 => ?_)
  obtain ⟨hK16, frn16⟩ := hR16
  refine q_goto rfl ?_
  refine q_iinc (z := 1) (loc2 := [(6, 455, 0), (0, 60, 0), (6, vs, 0), (0, 1, 0), (0, 9, 0)]) (p2 := 49) rfl rfl (by decide) rfl rfl ?_
  refine q_goto rfl ?_
  refine q_load (v := (0, 1, 0)) (p2 := 20) rfl rfl rfl rfl ?_
  refine q_const (p2 := 21) rfl rfl ?_
  refine q_icmp_s (p2 := 22) rfl (by decide) (by omega) (by omega) rfl (fun hb => absurd hb (show ¬ (¬ (1 < 1000000)) by omega)) (fun _ => ?_)
  refine q_load (v := (6, 455, 0)) (p2 := 23) rfl rfl rfl rfl ?_
  refine q_getv (v := (0, 1, 0)) (p2 := 24) rfl (x_KS_455 hK16) (by decide) hK16.1.choose_spec.2.2.2.2.2.2.2.2.2.2.2.1 rfl ?_
  refine q_if0_s (p2 := 25) rfl (by decide) (by omega) rfl (fun hb => absurd hb (show ¬ (¬ (0 < 1)) by omega)) (fun _ => ?_)
  refine q_load (v := (6, 455, 0)) (p2 := 26) rfl rfl rfl rfl ?_
  refine q_getv (v := (0, 0, 0)) (p2 := 27) rfl (x_KS_455 hK16) (by decide) hK16.1.choose_spec.2.2.2.2.2.2.2.2.2.2.2.2.2.2.2.2.2.1 rfl ?_
  refine q_if0_s (p2 := 28) rfl (by decide) (by omega) rfl (fun hb => absurd hb (show ¬ (¬ (0 = 0)) by omega)) (fun _ => ?_)
  refine q_load (v := (6, 455, 0)) (p2 := 29) rfl rfl rfl rfl ?_
  refine x_n_lt (fun hlt18 => ?_)
  have hm17 := (x_PS_at hm13 (fun j hj hne => by have hj2 := x_some_lt hlt14 hne; exact (frn16 j (by omega))))
  refine q_callrE (xs := [(6, 455, 0)]) (p2 := 30) rfl rfl rfl rfl (x_rcv_s 455 (x_KS_455 hK16)) rfl (k_fetchw hc61 hm17.1.choose_spec hK16 (by omega)) (Nat.le_refl _) (Nat.le_refl _) rfl (fun φ19 hR19 => ?_)
  obtain ⟨hK19, frn19⟩ := hR19
  refine q_store (loc2 := [(6, 455, 0), (0, 60, 0), (6, vs, 0), (0, 1, 0), (0, 11, 0)]) (p2 := 31) rfl rfl rfl rfl rfl ?_
  refine q_load (v := (0, 11, 0)) (p2 := 32) rfl rfl rfl rfl ?_
  refine q_const (p2 := 33) rfl rfl ?_
  refine q_icmp_s (p2 := 34) rfl (by decide) (by omega) (by omega) rfl (fun _ => ?_) (fun hb => absurd (show 10 < 11 by omega) hb)
  refine q_load (v := (0, 11, 0)) (p2 := 39) rfl rfl rfl rfl ?_
  refine q_const (p2 := 40) rfl rfl ?_
  refine q_icmp_s (p2 := 41) rfl (by decide) (by omega) (by omega) rfl (fun hb => absurd hb (show ¬ (19 < 11) by omega)) (fun _ => ?_)
  refine q_load (v := (6, 455, 0)) (p2 := 42) rfl rfl rfl rfl ?_
  refine q_load (v := (0, 11, 0)) (p2 := 43) rfl rfl rfl rfl ?_
  refine x_n_lt (fun hlt21 => ?_)
  have hm20 := (x_PS_at hm17 (fun j hj hne => by have hj2 := x_some_lt hlt18 hne; exact (frn19 j (by omega))))
  have hv22 := x_mv_at hv15 (fun j hj hne => by have hj2 := x_some_lt hlt14 hne; exact ((frn19 j (by omega)).trans (frn16 j (by omega))))
  refine q_callvB (xs := [(0, 11, 0), (6, 455, 0)]) (p2 := 44) rfl rfl rfl rfl (x_rcv_s 455 (x_KS_455 hK19)) rfl (k_op_11_2 hm20.1.choose_spec hK19 (by omega) (by omega) hm20.2.1 (x_PS_N hm20) hv22 rfl hisA (by omega) hc62) rfl (fun φ23 n23 sl23 hn23 hN23 hs23 hT23 hR23 => ?_)
  obtain ⟨hK23, frn23⟩ := hR23
  refine q_goto rfl ?_
  refine q_iinc (z := 2) (loc2 := [(6, 455, 0), (0, 60, 0), (6, vs, 0), (0, 2, 0), (0, 11, 0)]) (p2 := 49) rfl rfl (by decide) rfl rfl ?_
  refine q_goto rfl ?_
  refine q_load (v := (0, 2, 0)) (p2 := 20) rfl rfl rfl rfl ?_
  refine q_const (p2 := 21) rfl rfl ?_
  refine q_icmp_s (p2 := 22) rfl (by decide) (by omega) (by omega) rfl (fun hb => absurd hb (show ¬ (¬ (2 < 1000000)) by omega)) (fun _ => ?_)
  refine q_load (v := (6, 455, 0)) (p2 := 23) rfl rfl rfl rfl ?_
  refine q_getv (v := (0, 2, 0)) (p2 := 24) rfl (x_KS_455 hK23) (by decide) hK23.1.choose_spec.2.2.2.2.2.2.2.2.2.2.2.1 rfl ?_
  refine q_if0_s (p2 := 25) rfl (by decide) (by omega) rfl (fun hb => absurd hb (show ¬ (¬ (0 < 2)) by omega)) (fun _ => ?_)
  refine q_load (v := (6, 455, 0)) (p2 := 26) rfl rfl rfl rfl ?_
  refine q_getv (v := (0, 0, 0)) (p2 := 27) rfl (x_KS_455 hK23) (by decide) hK23.1.choose_spec.2.2.2.2.2.2.2.2.2.2.2.2.2.2.2.2.2.1 rfl ?_
  refine q_if0_s (p2 := 28) rfl (by decide) (by omega) rfl (fun hb => absurd hb (show ¬ (¬ (0 = 0)) by omega)) (fun _ => ?_)
  refine q_load (v := (6, 455, 0)) (p2 := 29) rfl rfl rfl rfl ?_
  refine x_n_lt (fun hlt25 => ?_)
  have hm24 := (x_PS_at hm20 (fun j hj hne => by have hj2 := x_some_lt hlt21 hne; exact (frn23 j (by omega))))
  refine q_callrE (xs := [(6, 455, 0)]) (p2 := 30) rfl rfl rfl rfl (x_rcv_s 455 (x_KS_455 hK23)) rfl (k_fetchw hc8 hm24.1.choose_spec hK23 (by omega)) (Nat.le_refl _) (Nat.le_refl _) rfl (fun φ26 hR26 => ?_)
  obtain ⟨hK26, frn26⟩ := hR26
  refine q_store (loc2 := [(6, 455, 0), (0, 60, 0), (6, vs, 0), (0, 2, 0), (0, 1, 0)]) (p2 := 31) rfl rfl rfl rfl rfl ?_
  refine q_load (v := (0, 1, 0)) (p2 := 32) rfl rfl rfl rfl ?_
  refine q_const (p2 := 33) rfl rfl ?_
  refine q_icmp_s (p2 := 34) rfl (by decide) (by omega) (by omega) rfl (fun hb => absurd hb (show ¬ (10 < 1) by omega)) (fun _ => ?_)
  refine q_load (v := (6, 455, 0)) (p2 := 35) rfl rfl rfl rfl ?_
  refine q_load (v := (0, 1, 0)) (p2 := 36) rfl rfl rfl rfl ?_
  refine x_n_lt (fun hlt28 => ?_)
  have hm27 := (x_PS_at hm24 (fun j hj hne => by have hj2 := x_some_lt hlt25 hne; exact (frn26 j (by omega))))
  refine q_callvB (xs := [(0, 1, 0), (6, 455, 0)]) (p2 := 37) rfl rfl rfl rfl (x_rcv_s 455 (x_KS_455 hK26)) rfl (k_plain_1w hc9 hm27.1.choose_spec hK26 (by omega) (by omega) (by omega) (by omega)) rfl (fun φ29 n29 sl29 hn29 hN29 hs29 hT29 hR29 => ?_)
  obtain ⟨hK29, frn29⟩ := hR29
  refine q_goto rfl ?_
  refine q_iinc (z := 3) (loc2 := [(6, 455, 0), (0, 60, 0), (6, vs, 0), (0, 3, 0), (0, 1, 0)]) (p2 := 49) rfl rfl (by decide) rfl rfl ?_
  refine q_goto rfl ?_
  refine q_load (v := (0, 3, 0)) (p2 := 20) rfl rfl rfl rfl ?_
  refine q_const (p2 := 21) rfl rfl ?_
  refine q_icmp_s (p2 := 22) rfl (by decide) (by omega) (by omega) rfl (fun hb => absurd hb (show ¬ (¬ (3 < 1000000)) by omega)) (fun _ => ?_)
  refine q_load (v := (6, 455, 0)) (p2 := 23) rfl rfl rfl rfl ?_
  refine q_getv (v := (0, 2, 0)) (p2 := 24) rfl (x_KS_455 hK29) (by decide) hK29.1.choose_spec.2.2.2.2.2.2.2.2.2.2.2.1 rfl ?_
  refine q_if0_s (p2 := 25) rfl (by decide) (by omega) rfl (fun hb => absurd hb (show ¬ (¬ (0 < 2)) by omega)) (fun _ => ?_)
  refine q_load (v := (6, 455, 0)) (p2 := 26) rfl rfl rfl rfl ?_
  refine q_getv (v := (0, 0, 0)) (p2 := 27) rfl (x_KS_455 hK29) (by decide) hK29.1.choose_spec.2.2.2.2.2.2.2.2.2.2.2.2.2.2.2.2.2.1 rfl ?_
  refine q_if0_s (p2 := 28) rfl (by decide) (by omega) rfl (fun hb => absurd hb (show ¬ (¬ (0 = 0)) by omega)) (fun _ => ?_)
  refine q_load (v := (6, 455, 0)) (p2 := 29) rfl rfl rfl rfl ?_
  refine x_n_lt (fun hlt31 => ?_)
  have hm30 := (x_PS_at hm27 (fun j hj hne => by have hj2 := x_some_lt hlt28 hne; exact (frn29 j (by omega))))
  refine q_callrE (xs := [(6, 455, 0)]) (p2 := 30) rfl rfl rfl rfl (x_rcv_s 455 (x_KS_455 hK29)) rfl (k_fetchw hc10 hm30.1.choose_spec hK29 (by omega)) (Nat.le_refl _) (Nat.le_refl _) rfl (fun φ32 hR32 => ?_)
  obtain ⟨hK32, frn32⟩ := hR32
  refine q_store (loc2 := [(6, 455, 0), (0, 60, 0), (6, vs, 0), (0, 3, 0), (0, 9, 0)]) (p2 := 31) rfl rfl rfl rfl rfl ?_
  refine q_load (v := (0, 9, 0)) (p2 := 32) rfl rfl rfl rfl ?_
  refine q_const (p2 := 33) rfl rfl ?_
  refine q_icmp_s (p2 := 34) rfl (by decide) (by omega) (by omega) rfl (fun hb => absurd hb (show ¬ (10 < 9) by omega)) (fun _ => ?_)
  refine q_load (v := (6, 455, 0)) (p2 := 35) rfl rfl rfl rfl ?_
  refine q_load (v := (0, 9, 0)) (p2 := 36) rfl rfl rfl rfl ?_
  refine x_n_lt (fun hlt34 => ?_)
  have hm33 := (x_PS_at hm30 (fun j hj hne => by have hj2 := x_some_lt hlt31 hne; exact (frn32 j (by omega))))
  have hv35 := x_mv_at hv22 (fun j hj hne => by have hj2 := x_some_lt hlt21 hne; exact ((frn32 j (by omega)).trans ((frn29 j (by omega)).trans ((frn26 j (by omega)).trans (frn23 j (by omega))))))
  refine q_callvB (xs := [(0, 9, 0), (6, 455, 0)]) (p2 := 37) rfl rfl rfl rfl (x_rcv_s 455 (x_KS_455 hK32)) rfl (k_plain_9 hm33.1.choose_spec hK32 (by omega) (by omega) hv35 (by omega)) rfl (fun φ36 n36 sl36 hn36 hN36 hs36 hT36 hR36 => ?_)
  obtain ⟨hK36, frn36⟩ := hR36
  refine q_goto rfl ?_
  refine q_iinc (z := 4) (loc2 := [(6, 455, 0), (0, 60, 0), (6, vs, 0), (0, 4, 0), (0, 9, 0)]) (p2 := 49) rfl rfl (by decide) rfl rfl ?_
  refine q_goto rfl ?_
  refine q_load (v := (0, 4, 0)) (p2 := 20) rfl rfl rfl rfl ?_
  refine q_const (p2 := 21) rfl rfl ?_
  refine q_icmp_s (p2 := 22) rfl (by decide) (by omega) (by omega) rfl (fun hb => absurd hb (show ¬ (¬ (4 < 1000000)) by omega)) (fun _ => ?_)
  refine q_load (v := (6, 455, 0)) (p2 := 23) rfl rfl rfl rfl ?_
  refine q_getv (v := (0, 2, 0)) (p2 := 24) rfl (x_KS_455 hK36) (by decide) hK36.1.choose_spec.2.2.2.2.2.2.2.2.2.2.2.1 rfl ?_
  refine q_if0_s (p2 := 25) rfl (by decide) (by omega) rfl (fun hb => absurd hb (show ¬ (¬ (0 < 2)) by omega)) (fun _ => ?_)
  refine q_load (v := (6, 455, 0)) (p2 := 26) rfl rfl rfl rfl ?_
  refine q_getv (v := (0, 0, 0)) (p2 := 27) rfl (x_KS_455 hK36) (by decide) hK36.1.choose_spec.2.2.2.2.2.2.2.2.2.2.2.2.2.2.2.2.2.1 rfl ?_
  refine q_if0_s (p2 := 28) rfl (by decide) (by omega) rfl (fun hb => absurd hb (show ¬ (¬ (0 = 0)) by omega)) (fun _ => ?_)
  refine q_load (v := (6, 455, 0)) (p2 := 29) rfl rfl rfl rfl ?_
  refine x_n_lt (fun hlt38 => ?_)
  have hm37 := (x_PS_at hm33 (fun j hj hne => by have hj2 := x_some_lt hlt34 hne; exact (frn36 j (by omega))))
  refine q_callrE (xs := [(6, 455, 0)]) (p2 := 30) rfl rfl rfl rfl (x_rcv_s 455 (x_KS_455 hK36)) rfl (k_fetchw hc11 hm37.1.choose_spec hK36 (by omega)) (Nat.le_refl _) (Nat.le_refl _) rfl (fun φ39 hR39 => ?_)
  obtain ⟨hK39, frn39⟩ := hR39
  refine q_store (loc2 := [(6, 455, 0), (0, 60, 0), (6, vs, 0), (0, 4, 0), (0, 11, 0)]) (p2 := 31) rfl rfl rfl rfl rfl ?_
  refine q_load (v := (0, 11, 0)) (p2 := 32) rfl rfl rfl rfl ?_
  refine q_const (p2 := 33) rfl rfl ?_
  refine q_icmp_s (p2 := 34) rfl (by decide) (by omega) (by omega) rfl (fun _ => ?_) (fun hb => absurd (show 10 < 11 by omega) hb)
  refine q_load (v := (0, 11, 0)) (p2 := 39) rfl rfl rfl rfl ?_
  refine q_const (p2 := 40) rfl rfl ?_
  refine q_icmp_s (p2 := 41) rfl (by decide) (by omega) (by omega) rfl (fun hb => absurd hb (show ¬ (19 < 11) by omega)) (fun _ => ?_)
  refine q_load (v := (6, 455, 0)) (p2 := 42) rfl rfl rfl rfl ?_
  refine q_load (v := (0, 11, 0)) (p2 := 43) rfl rfl rfl rfl ?_
  refine x_n_lt (fun hlt41 => ?_)
  have hm40 := (x_PS_at hm37 (fun j hj hne => by have hj2 := x_some_lt hlt38 hne; exact (frn39 j (by omega))))
  have hv42 := x_mv_at hv35 (fun j hj hne => by have hj2 := x_some_lt hlt34 hne; exact ((frn39 j (by omega)).trans (frn36 j (by omega))))
  refine q_callvB (xs := [(0, 11, 0), (6, 455, 0)]) (p2 := 44) rfl rfl rfl rfl (x_rcv_s 455 (x_KS_455 hK39)) rfl (k_op_11_0 hm40.1.choose_spec hK39 (by omega) (by omega) hm40.2.1 (x_PS_H hm40) (x_PS_M hm40) (x_PS_N hm40) hv42 hc12) rfl (fun φ43 n43 sl43 hn43 hN43 hs43 hT43 hR43 => ?_)
  obtain ⟨v43, hK43, hV43, frn43⟩ := hR43
  rw [if_pos ⟨rfl, hisA⟩] at hV43
  rw [hk] at hV43
  refine x_n_lt (fun hlt44 => ?_)
  have hz45 := x_mv_lt hV43 hlt44
  have hy45 := hV43.1
  refine q_goto rfl ?_
  refine q_iinc (z := 5) (loc2 := [(6, 455, 0), (0, 60, 0), (6, vs, 0), (0, 5, 0), (0, 11, 0)]) (p2 := 49) rfl rfl (by decide) rfl rfl ?_
  refine q_goto rfl ?_
  refine q_load (v := (0, 5, 0)) (p2 := 20) rfl rfl rfl rfl ?_
  refine q_const (p2 := 21) rfl rfl ?_
  refine q_icmp_s (p2 := 22) rfl (by decide) (by omega) (by omega) rfl (fun hb => absurd hb (show ¬ (¬ (5 < 1000000)) by omega)) (fun _ => ?_)
  refine q_load (v := (6, 455, 0)) (p2 := 23) rfl rfl rfl rfl ?_
  refine q_getv (v := (0, 2, 0)) (p2 := 24) rfl (x_KS_455 hK43) (by decide) hK43.1.choose_spec.2.2.2.2.2.2.2.2.2.2.2.1 rfl ?_
  refine q_if0_s (p2 := 25) rfl (by decide) (by omega) rfl (fun hb => absurd hb (show ¬ (¬ (0 < 2)) by omega)) (fun _ => ?_)
  refine q_load (v := (6, 455, 0)) (p2 := 26) rfl rfl rfl rfl ?_
  refine q_getv (v := (0, 0, 0)) (p2 := 27) rfl (x_KS_455 hK43) (by decide) hK43.1.choose_spec.2.2.2.2.2.2.2.2.2.2.2.2.2.2.2.2.2.1 rfl ?_
  refine q_if0_s (p2 := 28) rfl (by decide) (by omega) rfl (fun hb => absurd hb (show ¬ (¬ (0 = 0)) by omega)) (fun _ => ?_)
  refine q_load (v := (6, 455, 0)) (p2 := 29) rfl rfl rfl rfl ?_
  have hm46 := (x_PS_at hm40 (fun j hj hne => by have hj2 := x_some_lt hlt41 hne; exact (frn43 j (by omega))))
  refine q_callrE (xs := [(6, 455, 0)]) (p2 := 30) rfl rfl rfl rfl (x_rcv_s 455 (x_KS_455 hK43)) rfl (k_fetchw hc13 hm46.1.choose_spec hK43 (by omega)) (Nat.le_refl _) (Nat.le_refl _) rfl (fun φ47 hR47 => ?_)
  obtain ⟨hK47, frn47⟩ := hR47
  refine q_store (loc2 := [(6, 455, 0), (0, 60, 0), (6, vs, 0), (0, 5, 0), (0, 1, 0)]) (p2 := 31) rfl rfl rfl rfl rfl ?_
  refine q_load (v := (0, 1, 0)) (p2 := 32) rfl rfl rfl rfl ?_
  refine q_const (p2 := 33) rfl rfl ?_
  refine q_icmp_s (p2 := 34) rfl (by decide) (by omega) (by omega) rfl (fun hb => absurd hb (show ¬ (10 < 1) by omega)) (fun _ => ?_)
  refine q_load (v := (6, 455, 0)) (p2 := 35) rfl rfl rfl rfl ?_
  refine q_load (v := (0, 1, 0)) (p2 := 36) rfl rfl rfl rfl ?_
  refine x_n_lt (fun hlt49 => ?_)
  have hm48 := (x_PS_at hm46 (fun j hj hne => by have hj2 := x_some_lt hlt44 hne; exact (frn47 j (by omega))))
  refine q_callvB (xs := [(0, 1, 0), (6, 455, 0)]) (p2 := 37) rfl rfl rfl rfl (x_rcv_s 455 (x_KS_455 hK47)) rfl (k_plain_1w hc14 hm48.1.choose_spec hK47 (by omega) (by omega) (by omega) (by omega)) rfl (fun φ50 n50 sl50 hn50 hN50 hs50 hT50 hR50 => ?_)
  obtain ⟨hK50, frn50⟩ := hR50
  refine q_goto rfl ?_
  refine q_iinc (z := 6) (loc2 := [(6, 455, 0), (0, 60, 0), (6, vs, 0), (0, 6, 0), (0, 1, 0)]) (p2 := 49) rfl rfl (by decide) rfl rfl ?_
  refine q_goto rfl ?_
  refine q_load (v := (0, 6, 0)) (p2 := 20) rfl rfl rfl rfl ?_
  refine q_const (p2 := 21) rfl rfl ?_
  refine q_icmp_s (p2 := 22) rfl (by decide) (by omega) (by omega) rfl (fun hb => absurd hb (show ¬ (¬ (6 < 1000000)) by omega)) (fun _ => ?_)
  refine q_load (v := (6, 455, 0)) (p2 := 23) rfl rfl rfl rfl ?_
  refine q_getv (v := (0, 2, 0)) (p2 := 24) rfl (x_KS_455 hK50) (by decide) hK50.1.choose_spec.2.2.2.2.2.2.2.2.2.2.2.1 rfl ?_
  refine q_if0_s (p2 := 25) rfl (by decide) (by omega) rfl (fun hb => absurd hb (show ¬ (¬ (0 < 2)) by omega)) (fun _ => ?_)
  refine q_load (v := (6, 455, 0)) (p2 := 26) rfl rfl rfl rfl ?_
  refine q_getv (v := (0, 0, 0)) (p2 := 27) rfl (x_KS_455 hK50) (by decide) hK50.1.choose_spec.2.2.2.2.2.2.2.2.2.2.2.2.2.2.2.2.2.1 rfl ?_
  refine q_if0_s (p2 := 28) rfl (by decide) (by omega) rfl (fun hb => absurd hb (show ¬ (¬ (0 = 0)) by omega)) (fun _ => ?_)
  refine q_load (v := (6, 455, 0)) (p2 := 29) rfl rfl rfl rfl ?_
  refine x_n_lt (fun hlt52 => ?_)
  have hm51 := (x_PS_at hm48 (fun j hj hne => by have hj2 := x_some_lt hlt49 hne; exact (frn50 j (by omega))))
  refine q_callrE (xs := [(6, 455, 0)]) (p2 := 30) rfl rfl rfl rfl (x_rcv_s 455 (x_KS_455 hK50)) rfl (k_fetchw hc15 hm51.1.choose_spec hK50 (by omega)) (Nat.le_refl _) (Nat.le_refl _) rfl (fun φ53 hR53 => ?_)
  obtain ⟨hK53, frn53⟩ := hR53
  refine q_store (loc2 := [(6, 455, 0), (0, 60, 0), (6, vs, 0), (0, 6, 0), (0, 3, 0)]) (p2 := 31) rfl rfl rfl rfl rfl ?_
  refine q_load (v := (0, 3, 0)) (p2 := 32) rfl rfl rfl rfl ?_
  refine q_const (p2 := 33) rfl rfl ?_
  refine q_icmp_s (p2 := 34) rfl (by decide) (by omega) (by omega) rfl (fun hb => absurd hb (show ¬ (10 < 3) by omega)) (fun _ => ?_)
  refine q_load (v := (6, 455, 0)) (p2 := 35) rfl rfl rfl rfl ?_
  refine q_load (v := (0, 3, 0)) (p2 := 36) rfl rfl rfl rfl ?_
  refine x_n_lt (fun hlt55 => ?_)
  have hm54 := (x_PS_at hm51 (fun j hj hne => by have hj2 := x_some_lt hlt52 hne; exact (frn53 j (by omega))))
  refine q_callvB (xs := [(0, 3, 0), (6, 455, 0)]) (p2 := 37) rfl rfl rfl rfl (x_rcv_s 455 (x_KS_455 hK53)) rfl (k_plain_3w hc16 hm54.1.choose_spec hK53 (by omega) (by omega) (by omega) (by omega)) rfl (fun φ56 n56 sl56 hn56 hN56 hs56 hT56 hR56 => ?_)
  obtain ⟨v56, hK56, hV56, frn56⟩ := hR56
  refine x_n_lt (fun hlt57 => ?_)
  have hz58 := x_mv_lt hV56 hlt57
  have hy58 := hV56.1
  refine q_goto rfl ?_
  refine q_iinc (z := 7) (loc2 := [(6, 455, 0), (0, 60, 0), (6, vs, 0), (0, 7, 0), (0, 3, 0)]) (p2 := 49) rfl rfl (by decide) rfl rfl ?_
  refine q_goto rfl ?_
  refine q_load (v := (0, 7, 0)) (p2 := 20) rfl rfl rfl rfl ?_
  refine q_const (p2 := 21) rfl rfl ?_
  refine q_icmp_s (p2 := 22) rfl (by decide) (by omega) (by omega) rfl (fun hb => absurd hb (show ¬ (¬ (7 < 1000000)) by omega)) (fun _ => ?_)
  refine q_load (v := (6, 455, 0)) (p2 := 23) rfl rfl rfl rfl ?_
  refine q_getv (v := (0, 2, 0)) (p2 := 24) rfl (x_KS_455 hK56) (by decide) hK56.1.choose_spec.2.2.2.2.2.2.2.2.2.2.2.1 rfl ?_
  refine q_if0_s (p2 := 25) rfl (by decide) (by omega) rfl (fun hb => absurd hb (show ¬ (¬ (0 < 2)) by omega)) (fun _ => ?_)
  refine q_load (v := (6, 455, 0)) (p2 := 26) rfl rfl rfl rfl ?_
  refine q_getv (v := (0, 0, 0)) (p2 := 27) rfl (x_KS_455 hK56) (by decide) hK56.1.choose_spec.2.2.2.2.2.2.2.2.2.2.2.2.2.2.2.2.2.1 rfl ?_
  refine q_if0_s (p2 := 28) rfl (by decide) (by omega) rfl (fun hb => absurd hb (show ¬ (¬ (0 = 0)) by omega)) (fun _ => ?_)
  refine q_load (v := (6, 455, 0)) (p2 := 29) rfl rfl rfl rfl ?_
  have hm59 := (x_PS_at hm54 (fun j hj hne => by have hj2 := x_some_lt hlt55 hne; exact (frn56 j (by omega) (by omega))))
  refine q_callrE (xs := [(6, 455, 0)]) (p2 := 30) rfl rfl rfl rfl (x_rcv_s 455 (x_KS_455 hK56)) rfl (k_fetchw hc17 hm59.1.choose_spec hK56 (by omega)) (Nat.le_refl _) (Nat.le_refl _) rfl (fun φ60 hR60 => ?_)
  obtain ⟨hK60, frn60⟩ := hR60
  refine q_store (loc2 := [(6, 455, 0), (0, 60, 0), (6, vs, 0), (0, 7, 0), (0, 13, 0)]) (p2 := 31) rfl rfl rfl rfl rfl ?_
  refine q_load (v := (0, 13, 0)) (p2 := 32) rfl rfl rfl rfl ?_
  refine q_const (p2 := 33) rfl rfl ?_
  refine q_icmp_s (p2 := 34) rfl (by decide) (by omega) (by omega) rfl (fun _ => ?_) (fun hb => absurd (show 10 < 13 by omega) hb)
  refine q_load (v := (0, 13, 0)) (p2 := 39) rfl rfl rfl rfl ?_
  refine q_const (p2 := 40) rfl rfl ?_
  refine q_icmp_s (p2 := 41) rfl (by decide) (by omega) (by omega) rfl (fun hb => absurd hb (show ¬ (19 < 13) by omega)) (fun _ => ?_)
  refine q_load (v := (6, 455, 0)) (p2 := 42) rfl rfl rfl rfl ?_
  refine q_load (v := (0, 13, 0)) (p2 := 43) rfl rfl rfl rfl ?_
  refine x_n_lt (fun hlt62 => ?_)
  have hm61 := (x_PS_at hm59 (fun j hj hne => by have hj2 := x_some_lt hlt57 hne; exact (frn60 j (by omega))))
  have hv63 := x_mv_at hV56 (fun j hj hne => by have hj2 := x_some_lt hlt57 hne; exact (frn60 j (by omega)))
  have hv64 := x_mv_at hV43 (fun j hj hne => by have hj2 := x_some_lt hlt44 hne; exact ((frn60 j (by omega)).trans ((frn56 j (by omega) (by omega)).trans ((frn53 j (by omega)).trans ((frn50 j (by omega)).trans (frn47 j (by omega)))))))
  refine q_callvB (xs := [(0, 13, 0), (6, 455, 0)]) (p2 := 44) rfl rfl rfl rfl (x_rcv_s 455 (x_KS_455 hK60)) rfl (k_op_13_71 (top := 0) hm61.1.choose_spec hK60 (by omega) (by omega) (by omega) (x_PS_N hm61) hv64 hv63 hc18 (fun h => absurd h.1 (by show ¬ (1 = 6); decide)) (by show (1 : Nat) ≠ 2; decide) (by show (1 : Nat) ≠ 2; decide) (by show kk * 2 < 2147483648; omega) (by omega)) rfl (fun φ65 n65 sl65 hn65 hN65 hs65 hT65 hR65 => ?_)
  obtain ⟨v65, hK65, hV65, frn65⟩ := hR65
  rw [if_pos ⟨rfl, rfl⟩] at hV65
  refine x_n_lt (fun hlt66 => ?_)
  have hz67 := x_mv_lt hV65 hlt66
  have hy67 := hV65.1
  refine q_goto rfl ?_
  refine q_iinc (z := 8) (loc2 := [(6, 455, 0), (0, 60, 0), (6, vs, 0), (0, 8, 0), (0, 13, 0)]) (p2 := 49) rfl rfl (by decide) rfl rfl ?_
  refine q_goto rfl ?_
  refine q_load (v := (0, 8, 0)) (p2 := 20) rfl rfl rfl rfl ?_
  refine q_const (p2 := 21) rfl rfl ?_
  refine q_icmp_s (p2 := 22) rfl (by decide) (by omega) (by omega) rfl (fun hb => absurd hb (show ¬ (¬ (8 < 1000000)) by omega)) (fun _ => ?_)
  refine q_load (v := (6, 455, 0)) (p2 := 23) rfl rfl rfl rfl ?_
  refine q_getv (v := (0, 2, 0)) (p2 := 24) rfl (x_KS_455 hK65) (by decide) hK65.1.choose_spec.2.2.2.2.2.2.2.2.2.2.2.1 rfl ?_
  refine q_if0_s (p2 := 25) rfl (by decide) (by omega) rfl (fun hb => absurd hb (show ¬ (¬ (0 < 2)) by omega)) (fun _ => ?_)
  refine q_load (v := (6, 455, 0)) (p2 := 26) rfl rfl rfl rfl ?_
  refine q_getv (v := (0, 0, 0)) (p2 := 27) rfl (x_KS_455 hK65) (by decide) hK65.1.choose_spec.2.2.2.2.2.2.2.2.2.2.2.2.2.2.2.2.2.1 rfl ?_
  refine q_if0_s (p2 := 28) rfl (by decide) (by omega) rfl (fun hb => absurd hb (show ¬ (¬ (0 = 0)) by omega)) (fun _ => ?_)
  refine q_load (v := (6, 455, 0)) (p2 := 29) rfl rfl rfl rfl ?_
  have hm68 := (x_PS_at hm61 (fun j hj hne => by have hj2 := x_some_lt hlt62 hne; exact (frn65 j (by omega) (by omega))))
  refine q_callrE (xs := [(6, 455, 0)]) (p2 := 30) rfl rfl rfl rfl (x_rcv_s 455 (x_KS_455 hK65)) rfl (k_fetchw hc19 hm68.1.choose_spec hK65 (by omega)) (Nat.le_refl _) (Nat.le_refl _) rfl (fun φ69 hR69 => ?_)
  obtain ⟨hK69, frn69⟩ := hR69
  refine q_store (loc2 := [(6, 455, 0), (0, 60, 0), (6, vs, 0), (0, 8, 0), (0, 31, 0)]) (p2 := 31) rfl rfl rfl rfl rfl ?_
  refine q_load (v := (0, 31, 0)) (p2 := 32) rfl rfl rfl rfl ?_
  refine q_const (p2 := 33) rfl rfl ?_
  refine q_icmp_s (p2 := 34) rfl (by decide) (by omega) (by omega) rfl (fun _ => ?_) (fun hb => absurd (show 10 < 31 by omega) hb)
  refine q_load (v := (0, 31, 0)) (p2 := 39) rfl rfl rfl rfl ?_
  refine q_const (p2 := 40) rfl rfl ?_
  refine q_icmp_s (p2 := 41) rfl (by decide) (by omega) (by omega) rfl (fun _ => ?_) (fun hb => absurd (show 19 < 31 by omega) hb)
  refine q_load (v := (6, 455, 0)) (p2 := 46) rfl rfl rfl rfl ?_
  refine q_load (v := (0, 31, 0)) (p2 := 47) rfl rfl rfl rfl ?_
  refine x_n_lt (fun hlt71 => ?_)
  have hm70 := (x_PS_at hm68 (fun j hj hne => by have hj2 := x_some_lt hlt66 hne; exact (frn69 j (by omega))))
  have hv72 := x_mv_at hV65 (fun j hj hne => by have hj2 := x_some_lt hlt66 hne; exact (frn69 j (by omega)))
  refine q_callvB (xs := [(0, 31, 0), (6, 455, 0)]) (p2 := 48) rfl rfl rfl rfl (x_rcv_s 455 (x_KS_455 hK69)) rfl (k_lead_31 (top := 0) (fr := 1) hm70.1.choose_spec hK69 (by omega) (by omega) hv72 (Or.inr (Or.inl ⟨rfl, by show (1 : Nat) ≤ 1; decide⟩)) (by omega) (by show (0 : Nat) < 4096; decide)) rfl (fun φ73 n73 sl73 hn73 hN73 hs73 hT73 hR73 => ?_)
  obtain ⟨hK73, frn73⟩ := hR73
  refine q_iinc (z := 9) (loc2 := [(6, 455, 0), (0, 60, 0), (6, vs, 0), (0, 9, 0), (0, 31, 0)]) (p2 := 49) rfl rfl (by decide) rfl rfl ?_
  refine q_goto rfl ?_
  refine q_load (v := (0, 9, 0)) (p2 := 20) rfl rfl rfl rfl ?_
  refine q_const (p2 := 21) rfl rfl ?_
  refine q_icmp_s (p2 := 22) rfl (by decide) (by omega) (by omega) rfl (fun hb => absurd hb (show ¬ (¬ (9 < 1000000)) by omega)) (fun _ => ?_)
  refine q_load (v := (6, 455, 0)) (p2 := 23) rfl rfl rfl rfl ?_
  refine q_getv (v := (0, 1, 0)) (p2 := 24) rfl (x_KS_455 hK73) (by decide) hK73.1.choose_spec.2.2.2.2.2.2.2.2.2.2.2.1 rfl ?_
  refine q_if0_s (p2 := 25) rfl (by decide) (by omega) rfl (fun hb => absurd hb (show ¬ (¬ (0 < 1)) by omega)) (fun _ => ?_)
  refine q_load (v := (6, 455, 0)) (p2 := 26) rfl rfl rfl rfl ?_
  refine q_getv (v := (0, 0, 0)) (p2 := 27) rfl (x_KS_455 hK73) (by decide) hK73.1.choose_spec.2.2.2.2.2.2.2.2.2.2.2.2.2.2.2.2.2.1 rfl ?_
  refine q_if0_s (p2 := 28) rfl (by decide) (by omega) rfl (fun hb => absurd hb (show ¬ (¬ (0 = 0)) by omega)) (fun _ => ?_)
  refine q_load (v := (6, 455, 0)) (p2 := 29) rfl rfl rfl rfl ?_
  refine x_n_lt (fun hlt75 => ?_)
  have hm74 := (x_PS_at hm70 (fun j hj hne => by have hj2 := x_some_lt hlt71 hne; exact (frn73 j (by omega))))
  refine q_callrE (xs := [(6, 455, 0)]) (p2 := 30) rfl rfl rfl rfl (x_rcv_s 455 (x_KS_455 hK73)) rfl (k_fetchw hc63 hm74.1.choose_spec hK73 (by omega)) (Nat.le_refl _) (Nat.le_refl _) rfl (fun φ76 hR76 => ?_)
  obtain ⟨hK76, frn76⟩ := hR76
  refine q_store (loc2 := [(6, 455, 0), (0, 60, 0), (6, vs, 0), (0, 9, 0), (0, 31, 0)]) (p2 := 31) rfl rfl rfl rfl rfl ?_
  refine q_load (v := (0, 31, 0)) (p2 := 32) rfl rfl rfl rfl ?_
  refine q_const (p2 := 33) rfl rfl ?_
  refine q_icmp_s (p2 := 34) rfl (by decide) (by omega) (by omega) rfl (fun _ => ?_) (fun hb => absurd (show 10 < 31 by omega) hb)
  refine q_load (v := (0, 31, 0)) (p2 := 39) rfl rfl rfl rfl ?_
  refine q_const (p2 := 40) rfl rfl ?_
  refine q_icmp_s (p2 := 41) rfl (by decide) (by omega) (by omega) rfl (fun _ => ?_) (fun hb => absurd (show 19 < 31 by omega) hb)
  refine q_load (v := (6, 455, 0)) (p2 := 46) rfl rfl rfl rfl ?_
  refine q_load (v := (0, 31, 0)) (p2 := 47) rfl rfl rfl rfl ?_
  refine x_n_lt (fun hlt78 => ?_)
  have hm77 := (x_PS_at hm74 (fun j hj hne => by have hj2 := x_some_lt hlt75 hne; exact (frn76 j (by omega))))
  have hv79 := x_mv_at hv72 (fun j hj hne => by have hj2 := x_some_lt hlt71 hne; exact ((frn76 j (by omega)).trans (frn73 j (by omega))))
  refine q_callvB (xs := [(0, 31, 0), (6, 455, 0)]) (p2 := 48) rfl rfl rfl rfl (x_rcv_s 455 (x_KS_455 hK76)) rfl (k_lead_31 (top := 0) (fr := 0) hm77.1.choose_spec hK76 (by omega) (by omega) hv79 (Or.inl rfl) (by omega) (by show (0 : Nat) < 4096; decide)) rfl (fun φ80 n80 sl80 hn80 hN80 hs80 hT80 hR80 => ?_)
  obtain ⟨hK80, frn80⟩ := hR80
  refine q_iinc (z := 10) (loc2 := [(6, 455, 0), (0, 60, 0), (6, vs, 0), (0, 10, 0), (0, 31, 0)]) (p2 := 49) rfl rfl (by decide) rfl rfl ?_
  refine q_goto rfl ?_
  refine q_load (v := (0, 10, 0)) (p2 := 20) rfl rfl rfl rfl ?_
  refine q_const (p2 := 21) rfl rfl ?_
  refine q_icmp_s (p2 := 22) rfl (by decide) (by omega) (by omega) rfl (fun hb => absurd hb (show ¬ (¬ (10 < 1000000)) by omega)) (fun _ => ?_)
  refine q_load (v := (6, 455, 0)) (p2 := 23) rfl rfl rfl rfl ?_
  refine q_getv (v := (0, 0, 0)) (p2 := 24) rfl (x_KS_455 hK80) (by decide) hK80.1.choose_spec.2.2.2.2.2.2.2.2.2.2.2.1 rfl ?_
  refine q_if0_s (p2 := 25) rfl (by decide) (by omega) rfl (fun _ => ?_) (fun hb => absurd (show ¬ (0 < 0) by omega) hb)
  refine q_load (v := (6, 455, 0)) (p2 := 51) rfl rfl rfl rfl ?_
  refine q_getv (v := (0, 0, 0)) (p2 := 52) rfl (x_KS_455 hK80) (by decide) hK80.1.choose_spec.2.2.2.2.2.2.2.2.2.2.2.2.2.2.2.2.2.1 rfl ?_
  refine q_if0_s (p2 := 53) rfl (by decide) (by omega) rfl (fun _ => ?_) (fun hb => absurd (show 0 = 0 by omega) hb)
  refine q_load (v := (6, 455, 0)) (p2 := 57) rfl rfl rfl rfl ?_
  refine q_callrE (xs := [(6, 455, 0)]) (p2 := 58) rfl rfl rfl rfl (x_rcv_s 455 (x_KS_455 hK80)) rfl (k_pop (top := 0) hK80 (by omega)) (Nat.le_refl _) (Nat.le_refl _) rfl (fun φ81 hR81 => ?_)
  obtain ⟨hK81, frn81⟩ := hR81
  refine x_n_lt (fun hlt83 => ?_)
  have hv82 := x_mv_at hv79 (fun j hj hne => by have hj2 := x_some_lt hlt78 hne; exact ((frn81 j (by omega)).trans (frn80 j (by omega))))
  exact q_retv (v := (6, v65, 0)) rfl rfl (⟨rfl, ⟨by omega, by omega⟩, ⟨by omega, by omega⟩, v65, rfl, ⟨_, _, _, _, _, _, _, _, _, _, hK81⟩, hv82, fun j hj1 hj2 => ((frn81 j (by omega)).trans ((frn80 j (by omega)).trans ((frn76 j (by omega)).trans ((frn73 j (by omega)).trans ((frn69 j (by omega)).trans ((frn65 j (by omega) (by omega)).trans ((frn60 j (by omega)).trans ((frn56 j (by omega) (by omega)).trans ((frn53 j (by omega)).trans ((frn50 j (by omega)).trans ((frn47 j (by omega)).trans ((frn43 j (by omega)).trans ((frn39 j (by omega)).trans ((frn36 j (by omega)).trans ((frn32 j (by omega)).trans ((frn29 j (by omega)).trans ((frn26 j (by omega)).trans ((frn23 j (by omega)).trans ((frn19 j (by omega)).trans ((frn16 j (by omega)).trans ((frn12 j (by omega)).trans ((frn9 j (by omega)).trans ((fr5 j (by omega)).trans ((fr4 j (by omega)).trans ((fr3 j (by omega)).trans (fr2 j (by omega)))))))))))))))))))))))))))⟩)
end FPOP52
