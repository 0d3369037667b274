section FPOP64
theorem zif_congr {α : Type} {p q : Prop} [Decidable p] [Decidable q] (h : p ↔ q) {a b : α} : (if p then a else b) = if q then a else b := by
  by_cases hp : p
  · rw [if_pos hp, if_pos (h.mp hp)]
  · rw [if_neg hp, if_neg (fun z => hp (h.mpr z))]
theorem x_gJ_congr {q q2 : Nat → Prop} [DecidablePred q] [DecidablePred q2] (h : ∀ j, q j ↔ q2 j) (k : Nat) : ∀ j u, x_gJ q k j u = x_gJ q2 k j u := by
  induction k with
  | zero => intro j u; rfl
  | succ k ih =>
    intro j u
    show (if u >>> j &&& 1 = 0 ∧ q j then (1, u ||| 1 <<< j) else x_gJ q k (j + 1) u) = (if u >>> j &&& 1 = 0 ∧ q2 j then (1, u ||| 1 <<< j) else x_gJ q2 k (j + 1) u)
    by_cases hc : u >>> j &&& 1 = 0 ∧ q j
    · rw [if_pos hc, if_pos ⟨hc.1, (h j).mp hc.2⟩]
    · rw [if_neg hc, if_neg (fun z => hc ⟨z.1, (h j).mpr z.2⟩), ih]
theorem x_gI_congr {q q2 : Nat → Nat → Prop} [∀ i j, Decidable (q i j)] [∀ i j, Decidable (q2 i j)] (h : ∀ i j, q i j ↔ q2 i j) {len : Nat} (k : Nat) : ∀ i u, x_gI q len k i u = x_gI q2 len k i u := by
  induction k with
  | zero => intro i u; rfl
  | succ k ih =>
    intro i u
    show (if (x_gJ (q i) len 0 u).1 = 1 then x_gI q len k (i + 1) (x_gJ (q i) len 0 u).2 else 0) = (if (x_gJ (q2 i) len 0 u).1 = 1 then x_gI q2 len k (i + 1) (x_gJ (q2 i) len 0 u).2 else 0)
    rw [x_gJ_congr (h i), ih]
theorem x_lk_congr {lik lik2 : Nat → Nat} {made : Nat} (h : ∀ i, i < made → lik i = lik2 i) {m m2 : MV} : x_lk lik made m m2 ↔ x_lk lik2 made m m2 := by
  have e : x_lkw lik made m m2 ↔ x_lkw lik2 made m m2 := by
    have e1 : ∀ a b : Nat, x_kn lik made a b ↔ x_kn lik2 made a b := fun a b => x_kn_congr h
    have e2 : x_gI (fun i j => x_kn lik made (m.2.2.2.2.getD i 0) (m2.2.2.2.2.getD j 0)) m2.2.2.2.2.length m.2.2.2.2.length 0 0 = x_gI (fun i j => x_kn lik2 made (m.2.2.2.2.getD i 0) (m2.2.2.2.2.getD j 0)) m2.2.2.2.2.length m.2.2.2.2.length 0 0 := x_gI_congr (fun i j => e1 _ _) _ _ _
    have e3 : x_ca lik made m.1 m.2.1 m2.1 m2.2.1 ↔ x_ca lik2 made m.1 m.2.1 m2.1 m2.2.1 := by
      constructor
      · rintro ⟨q1, q2 | q2⟩
        · exact ⟨q1, Or.inl ⟨q2.1, (e1 _ _).mp q2.2⟩⟩
        · exact ⟨q1, Or.inr q2⟩
      · rintro ⟨q1, q2 | q2⟩
        · exact ⟨q1, Or.inl ⟨q2.1, (e1 _ _).mpr q2.2⟩⟩
        · exact ⟨q1, Or.inr q2⟩
    constructor
    · rintro (q | q)
      · exact Or.inl ⟨q.1, q.2.1, e2 ▸ q.2.2⟩
      · exact Or.inr ⟨q.1, q.2.imp id e3.mp⟩
    · rintro (q | q)
      · exact Or.inl ⟨q.1, q.2.1, e2.symm ▸ q.2.2⟩
      · exact Or.inr ⟨q.1, q.2.imp id e3.mpr⟩
  constructor
  · intro q; exact decide_eq_true (e.mp (of_decide_eq_true q))
  · intro q; exact decide_eq_true (e.mpr (of_decide_eq_true q))
theorem q_callK {P : List (List XI)} {d pc p2 n sl : Nat} {code : List XI} {t loc : List XV} {φ : FH} {Post : FP} {M b : Nat} {tb : List (Nat × Nat)} {xs args : List XV} (hc : x_nth code pc = some (11, M, b, tb)) (hb : xs.length = b) (h8 : Nat.ble (x_cats t) 8 = true) (hL : Nat.ble (x_len (x_flat xs.reverse)) (x_hd tb) = true) (hr : ∀ h, x_h φ n h → x_rcv h (x_flat xs.reverse) (x_hd2 tb) = true) (ha : x_pad (x_flat xs.reverse) (x_hd tb) = args) (hp : pc + 1 = p2)
    (hf : x_f P d M args φ n sl (fun u w φ2 n2 sl2 => u = 1 ∧ n ≤ n2 ∧ sl ≤ sl2 ∧ x_n P d code p2 (w :: t) loc φ2 n2 sl2 Post)) : x_n P d code pc (xs ++ t) loc φ n sl Post := by
  subst hp ha
  exact q_call (Q := fun u w φ2 n2 sl2 => u = 1 ∧ x_n P d code (pc + 1) (w :: t) loc φ2 n2 sl2 Post) hc hb h8 hL hr (x_f_mono hf (fun u w φ2 n2 sl2 q => ⟨q.2.1, q.2.2.1, q.1, q.2.2.2⟩)) (fun u v φ2 n2 sl2 h1 h2 q => Or.inr q)
theorem q_callKv {P : List (List XI)} {d pc p2 n sl : Nat} {code : List XI} {t loc : List XV} {φ : FH} {Post : FP} {M b : Nat} {tb : List (Nat × Nat)} {xs args : List XV} (hc : x_nth code pc = some (11, M, b, tb)) (hb : xs.length = b) (h8 : Nat.ble (x_cats t) 8 = true) (hL : Nat.ble (x_len (x_flat xs.reverse)) (x_hd tb) = true) (hr : ∀ h, x_h φ n h → x_rcv h (x_flat xs.reverse) (x_hd2 tb) = true) (ha : x_pad (x_flat xs.reverse) (x_hd tb) = args) (hp : pc + 1 = p2)
    (hf : x_f P d M args φ n sl (fun u w φ2 n2 sl2 => u = 0 ∧ n ≤ n2 ∧ sl ≤ sl2 ∧ x_n P d code p2 t loc φ2 n2 sl2 Post)) : x_n P d code pc (xs ++ t) loc φ n sl Post := by
  subst hp ha
  exact q_call (Q := fun u w φ2 n2 sl2 => u = 0 ∧ x_n P d code (pc + 1) t loc φ2 n2 sl2 Post) hc hb h8 hL hr (x_f_mono hf (fun u w φ2 n2 sl2 q => ⟨q.2.1, q.2.2.1, q.1, q.2.2.2⟩)) (fun u v φ2 n2 sl2 h1 h2 q => Or.inl q)
theorem zc_s_coa_0 {d n sl : Nat} {φ : FH} {co : Nat → Nat} (hS : x_sch φ) (hC : zq_co φ co)  : x_f x_P (d + 1) 62 [(6, 237, 0), (0, 0, 0)] φ n sl (x_rR (0, 60, 0) n sl (fun φ2 => zq_co φ2 (x_s (x_s (x_s (x_s co 60 9) 61 11) 62 0) 63 31) ∧ ∀ j, j ≠ 450 → φ2 j = φ j)) := by
  refine x_f_of rfl ?_
  refine q_load (v := (6, 237, 0)) (p2 := 1) rfl rfl rfl rfl ?_
  refine q_getv (v := (0, 60, 0)) (p2 := 2) rfl hS.1.choose_spec.1 (by decide) hS.1.choose_spec.2.2.2.2.2.2.2.2.2.2.2.2.2.2.1 rfl ?_
  refine q_const (p2 := 3) rfl rfl ?_
  refine q_iop (w := 60 + 4) (z := 64) (p2 := 4) rfl (xo_add 60 4) (by decide) rfl ?_
  refine q_load (v := (6, 237, 0)) (p2 := 5) rfl rfl rfl rfl ?_
  refine q_getv (v := (6, 450, 0)) (p2 := 6) rfl hS.1.choose_spec.1 (by decide) hS.1.choose_spec.2.2.2.2.2.2.2.2.2.2.2.2.2.1 rfl ?_
  refine q_alen (p2 := 7) rfl hC rfl (by omega) rfl ?_
  refine q_icmp_s (p2 := 8) rfl (by decide) (by omega) (by omega) rfl (fun hb => absurd hb (show ¬ (12288 < 64) by omega)) (fun _ => ?_)
  refine q_load (v := (6, 237, 0)) (p2 := 9) rfl rfl rfl rfl ?_
  refine q_getv (v := (6, 450, 0)) (p2 := 10) rfl hS.1.choose_spec.1 (by decide) hS.1.choose_spec.2.2.2.2.2.2.2.2.2.2.2.2.2.1 rfl ?_
  refine q_load (v := (6, 237, 0)) (p2 := 11) rfl rfl rfl rfl ?_
  refine q_getv (v := (0, 60, 0)) (p2 := 12) rfl hS.1.choose_spec.1 (by decide) hS.1.choose_spec.2.2.2.2.2.2.2.2.2.2.2.2.2.2.1 rfl ?_
  refine q_const (p2 := 13) rfl rfl ?_
  refine q_astE (v := (0, 9, 0)) (w := (0, 9, 0)) (p2 := 14) rfl hC (by omega) (by omega) (x_ok_0 rfl) (x_nv_same rfl (by decide)) rfl (fun φ1 f1 hh1 hg1 ho1 fr1 => ?_)
  have hs1 := zq_co_st_450 hC hh1 hg1 ho1 fr1
  refine q_load (v := (6, 237, 0)) (p2 := 15) rfl rfl rfl rfl ?_
  have hm2 := (x_sch_at hS (fun j h1 h2 => (fr1 j (by omega))))
  refine q_getv (v := (6, 450, 0)) (p2 := 16) rfl hm2.1.choose_spec.1 (by decide) hm2.1.choose_spec.2.2.2.2.2.2.2.2.2.2.2.2.2.1 rfl ?_
  refine q_load (v := (6, 237, 0)) (p2 := 17) rfl rfl rfl rfl ?_
  refine q_getv (v := (0, 60, 0)) (p2 := 18) rfl hm2.1.choose_spec.1 (by decide) hm2.1.choose_spec.2.2.2.2.2.2.2.2.2.2.2.2.2.2.1 rfl ?_
  refine q_const (p2 := 19) rfl rfl ?_
  refine q_iop (w := 60 + 1) (z := 61) (p2 := 20) rfl (xo_add 60 1) (by decide) rfl ?_
  refine q_const (p2 := 21) rfl rfl ?_
  refine q_astE (v := (0, 11, 0)) (w := (0, 11, 0)) (p2 := 22) rfl hs1 (by omega) (by omega) (x_ok_0 rfl) (x_nv_same rfl (by decide)) rfl (fun φ3 f3 hh3 hg3 ho3 fr3 => ?_)
  have hs3 := zq_co_st_450 hs1 hh3 hg3 ho3 fr3
  refine q_load (v := (6, 237, 0)) (p2 := 23) rfl rfl rfl rfl ?_
  have hm4 := (x_sch_at hm2 (fun j h1 h2 => (fr3 j (by omega))))
  refine q_getv (v := (6, 450, 0)) (p2 := 24) rfl hm4.1.choose_spec.1 (by decide) hm4.1.choose_spec.2.2.2.2.2.2.2.2.2.2.2.2.2.1 rfl ?_
  refine q_load (v := (6, 237, 0)) (p2 := 25) rfl rfl rfl rfl ?_
  refine q_getv (v := (0, 60, 0)) (p2 := 26) rfl hm4.1.choose_spec.1 (by decide) hm4.1.choose_spec.2.2.2.2.2.2.2.2.2.2.2.2.2.2.1 rfl ?_
  refine q_const (p2 := 27) rfl rfl ?_
  refine q_iop (w := 60 + 2) (z := 62) (p2 := 28) rfl (xo_add 60 2) (by decide) rfl ?_
  refine q_load (v := (0, 0, 0)) (p2 := 29) rfl rfl rfl rfl ?_
  refine q_astE (v := (0, 0, 0)) (w := (0, 0, 0)) (p2 := 30) rfl hs3 (by omega) (by omega) (x_ok_0 rfl) (x_nv_same rfl (by decide)) rfl (fun φ5 f5 hh5 hg5 ho5 fr5 => ?_)
  have hs5 := zq_co_st_450 hs3 hh5 hg5 ho5 fr5
  refine q_load (v := (6, 237, 0)) (p2 := 31) rfl rfl rfl rfl ?_
  have hm6 := (x_sch_at hm4 (fun j h1 h2 => (fr5 j (by omega))))
  refine q_getv (v := (6, 450, 0)) (p2 := 32) rfl hm6.1.choose_spec.1 (by decide) hm6.1.choose_spec.2.2.2.2.2.2.2.2.2.2.2.2.2.1 rfl ?_
  refine q_load (v := (6, 237, 0)) (p2 := 33) rfl rfl rfl rfl ?_
  refine q_getv (v := (0, 60, 0)) (p2 := 34) rfl hm6.1.choose_spec.1 (by decide) hm6.1.choose_spec.2.2.2.2.2.2.2.2.2.2.2.2.2.2.1 rfl ?_
  refine q_const (p2 := 35) rfl rfl ?_
  refine q_iop (w := 60 + 3) (z := 63) (p2 := 36) rfl (xo_add 60 3) (by decide) rfl ?_
  refine q_const (p2 := 37) rfl rfl ?_
  refine q_astE (v := (0, 31, 0)) (w := (0, 31, 0)) (p2 := 38) rfl hs5 (by omega) (by omega) (x_ok_0 rfl) (x_nv_same rfl (by decide)) rfl (fun φ7 f7 hh7 hg7 ho7 fr7 => ?_)
  have hs7 := zq_co_st_450 hs5 hh7 hg7 ho7 fr7
  refine q_load (v := (6, 237, 0)) (p2 := 39) rfl rfl rfl rfl ?_
  have hm8 := (x_sch_at hm6 (fun j h1 h2 => (fr7 j (by omega))))
  refine q_getv (v := (0, 60, 0)) (p2 := 40) rfl hm8.1.choose_spec.1 (by decide) hm8.1.choose_spec.2.2.2.2.2.2.2.2.2.2.2.2.2.2.1 rfl ?_
  exact q_retv (v := (0, 60, 0)) rfl rfl (⟨rfl, rfl, rfl, rfl, hs7, fun j hj0 => ((fr7 j (by omega)).trans ((fr5 j (by omega)).trans ((fr3 j (by omega)).trans (fr1 j (by omega)))))⟩)
theorem zc_s_coa_1 {d n sl : Nat} {φ : FH} {co : Nat → Nat} (hS : x_sch φ) (hC : zq_co φ co)  : x_f x_P (d + 1) 62 [(6, 237, 0), (0, 1, 0)] φ n sl (x_rR (0, 60, 0) n sl (fun φ2 => zq_co φ2 (x_s (x_s (x_s (x_s co 60 9) 61 11) 62 1) 63 31) ∧ ∀ j, j ≠ 450 → φ2 j = φ j)) := by
  refine x_f_of rfl ?_
  refine q_load (v := (6, 237, 0)) (p2 := 1) rfl rfl rfl rfl ?_
  refine q_getv (v := (0, 60, 0)) (p2 := 2) rfl hS.1.choose_spec.1 (by decide) hS.1.choose_spec.2.2.2.2.2.2.2.2.2.2.2.2.2.2.1 rfl ?_
  refine q_const (p2 := 3) rfl rfl ?_
  refine q_iop (w := 60 + 4) (z := 64) (p2 := 4) rfl (xo_add 60 4) (by decide) rfl ?_
  refine q_load (v := (6, 237, 0)) (p2 := 5) rfl rfl rfl rfl ?_
  refine q_getv (v := (6, 450, 0)) (p2 := 6) rfl hS.1.choose_spec.1 (by decide) hS.1.choose_spec.2.2.2.2.2.2.2.2.2.2.2.2.2.1 rfl ?_
  refine q_alen (p2 := 7) rfl hC rfl (by omega) rfl ?_
  refine q_icmp_s (p2 := 8) rfl (by decide) (by omega) (by omega) rfl (fun hb => absurd hb (show ¬ (12288 < 64) by omega)) (fun _ => ?_)
  refine q_load (v := (6, 237, 0)) (p2 := 9) rfl rfl rfl rfl ?_
  refine q_getv (v := (6, 450, 0)) (p2 := 10) rfl hS.1.choose_spec.1 (by decide) hS.1.choose_spec.2.2.2.2.2.2.2.2.2.2.2.2.2.1 rfl ?_
  refine q_load (v := (6, 237, 0)) (p2 := 11) rfl rfl rfl rfl ?_
  refine q_getv (v := (0, 60, 0)) (p2 := 12) rfl hS.1.choose_spec.1 (by decide) hS.1.choose_spec.2.2.2.2.2.2.2.2.2.2.2.2.2.2.1 rfl ?_
  refine q_const (p2 := 13) rfl rfl ?_
  refine q_astE (v := (0, 9, 0)) (w := (0, 9, 0)) (p2 := 14) rfl hC (by omega) (by omega) (x_ok_0 rfl) (x_nv_same rfl (by decide)) rfl (fun φ1 f1 hh1 hg1 ho1 fr1 => ?_)
  have hs1 := zq_co_st_450 hC hh1 hg1 ho1 fr1
  refine q_load (v := (6, 237, 0)) (p2 := 15) rfl rfl rfl rfl ?_
  have hm2 := (x_sch_at hS (fun j h1 h2 => (fr1 j (by omega))))
  refine q_getv (v := (6, 450, 0)) (p2 := 16) rfl hm2.1.choose_spec.1 (by decide) hm2.1.choose_spec.2.2.2.2.2.2.2.2.2.2.2.2.2.1 rfl ?_
  refine q_load (v := (6, 237, 0)) (p2 := 17) rfl rfl rfl rfl ?_
  refine q_getv (v := (0, 60, 0)) (p2 := 18) rfl hm2.1.choose_spec.1 (by decide) hm2.1.choose_spec.2.2.2.2.2.2.2.2.2.2.2.2.2.2.1 rfl ?_
  refine q_const (p2 := 19) rfl rfl ?_
  refine q_iop (w := 60 + 1) (z := 61) (p2 := 20) rfl (xo_add 60 1) (by decide) rfl ?_
  refine q_const (p2 := 21) rfl rfl ?_
  refine q_astE (v := (0, 11, 0)) (w := (0, 11, 0)) (p2 := 22) rfl hs1 (by omega) (by omega) (x_ok_0 rfl) (x_nv_same rfl (by decide)) rfl (fun φ3 f3 hh3 hg3 ho3 fr3 => ?_)
  have hs3 := zq_co_st_450 hs1 hh3 hg3 ho3 fr3
  refine q_load (v := (6, 237, 0)) (p2 := 23) rfl rfl rfl rfl ?_
  have hm4 := (x_sch_at hm2 (fun j h1 h2 => (fr3 j (by omega))))
  refine q_getv (v := (6, 450, 0)) (p2 := 24) rfl hm4.1.choose_spec.1 (by decide) hm4.1.choose_spec.2.2.2.2.2.2.2.2.2.2.2.2.2.1 rfl ?_
  refine q_load (v := (6, 237, 0)) (p2 := 25) rfl rfl rfl rfl ?_
  refine q_getv (v := (0, 60, 0)) (p2 := 26) rfl hm4.1.choose_spec.1 (by decide) hm4.1.choose_spec.2.2.2.2.2.2.2.2.2.2.2.2.2.2.1 rfl ?_
  refine q_const (p2 := 27) rfl rfl ?_
  refine q_iop (w := 60 + 2) (z := 62) (p2 := 28) rfl (xo_add 60 2) (by decide) rfl ?_
  refine q_load (v := (0, 1, 0)) (p2 := 29) rfl rfl rfl rfl ?_
  refine q_astE (v := (0, 1, 0)) (w := (0, 1, 0)) (p2 := 30) rfl hs3 (by omega) (by omega) (x_ok_0 rfl) (x_nv_same rfl (by decide)) rfl (fun φ5 f5 hh5 hg5 ho5 fr5 => ?_)
  have hs5 := zq_co_st_450 hs3 hh5 hg5 ho5 fr5
  refine q_load (v := (6, 237, 0)) (p2 := 31) rfl rfl rfl rfl ?_
  have hm6 := (x_sch_at hm4 (fun j h1 h2 => (fr5 j (by omega))))
  refine q_getv (v := (6, 450, 0)) (p2 := 32) rfl hm6.1.choose_spec.1 (by decide) hm6.1.choose_spec.2.2.2.2.2.2.2.2.2.2.2.2.2.1 rfl ?_
  refine q_load (v := (6, 237, 0)) (p2 := 33) rfl rfl rfl rfl ?_
  refine q_getv (v := (0, 60, 0)) (p2 := 34) rfl hm6.1.choose_spec.1 (by decide) hm6.1.choose_spec.2.2.2.2.2.2.2.2.2.2.2.2.2.2.1 rfl ?_
  refine q_const (p2 := 35) rfl rfl ?_
  refine q_iop (w := 60 + 3) (z := 63) (p2 := 36) rfl (xo_add 60 3) (by decide) rfl ?_
  refine q_const (p2 := 37) rfl rfl ?_
  refine q_astE (v := (0, 31, 0)) (w := (0, 31, 0)) (p2 := 38) rfl hs5 (by omega) (by omega) (x_ok_0 rfl) (x_nv_same rfl (by decide)) rfl (fun φ7 f7 hh7 hg7 ho7 fr7 => ?_)
  have hs7 := zq_co_st_450 hs5 hh7 hg7 ho7 fr7
  refine q_load (v := (6, 237, 0)) (p2 := 39) rfl rfl rfl rfl ?_
  have hm8 := (x_sch_at hm6 (fun j h1 h2 => (fr7 j (by omega))))
  refine q_getv (v := (0, 60, 0)) (p2 := 40) rfl hm8.1.choose_spec.1 (by decide) hm8.1.choose_spec.2.2.2.2.2.2.2.2.2.2.2.2.2.2.1 rfl ?_
  exact q_retv (v := (0, 60, 0)) rfl rfl (⟨rfl, rfl, rfl, rfl, hs7, fun j hj0 => ((fr7 j (by omega)).trans ((fr5 j (by omega)).trans ((fr3 j (by omega)).trans (fr1 j (by omega)))))⟩)
theorem zc_s_coa_2 {d n sl : Nat} {φ : FH} {co : Nat → Nat} (hS : x_sch φ) (hC : zq_co φ co)  : x_f x_P (d + 1) 62 [(6, 237, 0), (0, 2, 0)] φ n sl (x_rR (0, 60, 0) n sl (fun φ2 => zq_co φ2 (x_s (x_s (x_s (x_s co 60 9) 61 11) 62 2) 63 31) ∧ ∀ j, j ≠ 450 → φ2 j = φ j)) := by
  refine x_f_of rfl ?_
  refine q_load (v := (6, 237, 0)) (p2 := 1) rfl rfl rfl rfl ?_
  refine q_getv (v := (0, 60, 0)) (p2 := 2) rfl hS.1.choose_spec.1 (by decide) hS.1.choose_spec.2.2.2.2.2.2.2.2.2.2.2.2.2.2.1 rfl ?_
  refine q_const (p2 := 3) rfl rfl ?_
  refine q_iop (w := 60 + 4) (z := 64) (p2 := 4) rfl (xo_add 60 4) (by decide) rfl ?_
  refine q_load (v := (6, 237, 0)) (p2 := 5) rfl rfl rfl rfl ?_
  refine q_getv (v := (6, 450, 0)) (p2 := 6) rfl hS.1.choose_spec.1 (by decide) hS.1.choose_spec.2.2.2.2.2.2.2.2.2.2.2.2.2.1 rfl ?_
  refine q_alen (p2 := 7) rfl hC rfl (by omega) rfl ?_
  refine q_icmp_s (p2 := 8) rfl (by decide) (by omega) (by omega) rfl (fun hb => absurd hb (show ¬ (12288 < 64) by omega)) (fun _ => ?_)
  refine q_load (v := (6, 237, 0)) (p2 := 9) rfl rfl rfl rfl ?_
  refine q_getv (v := (6, 450, 0)) (p2 := 10) rfl hS.1.choose_spec.1 (by decide) hS.1.choose_spec.2.2.2.2.2.2.2.2.2.2.2.2.2.1 rfl ?_
  refine q_load (v := (6, 237, 0)) (p2 := 11) rfl rfl rfl rfl ?_
  refine q_getv (v := (0, 60, 0)) (p2 := 12) rfl hS.1.choose_spec.1 (by decide) hS.1.choose_spec.2.2.2.2.2.2.2.2.2.2.2.2.2.2.1 rfl ?_
  refine q_const (p2 := 13) rfl rfl ?_
  refine q_astE (v := (0, 9, 0)) (w := (0, 9, 0)) (p2 := 14) rfl hC (by omega) (by omega) (x_ok_0 rfl) (x_nv_same rfl (by decide)) rfl (fun φ1 f1 hh1 hg1 ho1 fr1 => ?_)
  have hs1 := zq_co_st_450 hC hh1 hg1 ho1 fr1
  refine q_load (v := (6, 237, 0)) (p2 := 15) rfl rfl rfl rfl ?_
  have hm2 := (x_sch_at hS (fun j h1 h2 => (fr1 j (by omega))))
  refine q_getv (v := (6, 450, 0)) (p2 := 16) rfl hm2.1.choose_spec.1 (by decide) hm2.1.choose_spec.2.2.2.2.2.2.2.2.2.2.2.2.2.1 rfl ?_
  refine q_load (v := (6, 237, 0)) (p2 := 17) rfl rfl rfl rfl ?_
  refine q_getv (v := (0, 60, 0)) (p2 := 18) rfl hm2.1.choose_spec.1 (by decide) hm2.1.choose_spec.2.2.2.2.2.2.2.2.2.2.2.2.2.2.1 rfl ?_
  refine q_const (p2 := 19) rfl rfl ?_
  refine q_iop (w := 60 + 1) (z := 61) (p2 := 20) rfl (xo_add 60 1) (by decide) rfl ?_
  refine q_const (p2 := 21) rfl rfl ?_
  refine q_astE (v := (0, 11, 0)) (w := (0, 11, 0)) (p2 := 22) rfl hs1 (by omega) (by omega) (x_ok_0 rfl) (x_nv_same rfl (by decide)) rfl (fun φ3 f3 hh3 hg3 ho3 fr3 => ?_)
  have hs3 := zq_co_st_450 hs1 hh3 hg3 ho3 fr3
  refine q_load (v := (6, 237, 0)) (p2 := 23) rfl rfl rfl rfl ?_
  have hm4 := (x_sch_at hm2 (fun j h1 h2 => (fr3 j (by omega))))
  refine q_getv (v := (6, 450, 0)) (p2 := 24) rfl hm4.1.choose_spec.1 (by decide) hm4.1.choose_spec.2.2.2.2.2.2.2.2.2.2.2.2.2.1 rfl ?_
  refine q_load (v := (6, 237, 0)) (p2 := 25) rfl rfl rfl rfl ?_
  refine q_getv (v := (0, 60, 0)) (p2 := 26) rfl hm4.1.choose_spec.1 (by decide) hm4.1.choose_spec.2.2.2.2.2.2.2.2.2.2.2.2.2.2.1 rfl ?_
  refine q_const (p2 := 27) rfl rfl ?_
  refine q_iop (w := 60 + 2) (z := 62) (p2 := 28) rfl (xo_add 60 2) (by decide) rfl ?_
  refine q_load (v := (0, 2, 0)) (p2 := 29) rfl rfl rfl rfl ?_
  refine q_astE (v := (0, 2, 0)) (w := (0, 2, 0)) (p2 := 30) rfl hs3 (by omega) (by omega) (x_ok_0 rfl) (x_nv_same rfl (by decide)) rfl (fun φ5 f5 hh5 hg5 ho5 fr5 => ?_)
  have hs5 := zq_co_st_450 hs3 hh5 hg5 ho5 fr5
  refine q_load (v := (6, 237, 0)) (p2 := 31) rfl rfl rfl rfl ?_
  have hm6 := (x_sch_at hm4 (fun j h1 h2 => (fr5 j (by omega))))
  refine q_getv (v := (6, 450, 0)) (p2 := 32) rfl hm6.1.choose_spec.1 (by decide) hm6.1.choose_spec.2.2.2.2.2.2.2.2.2.2.2.2.2.1 rfl ?_
  refine q_load (v := (6, 237, 0)) (p2 := 33) rfl rfl rfl rfl ?_
  refine q_getv (v := (0, 60, 0)) (p2 := 34) rfl hm6.1.choose_spec.1 (by decide) hm6.1.choose_spec.2.2.2.2.2.2.2.2.2.2.2.2.2.2.1 rfl ?_
  refine q_const (p2 := 35) rfl rfl ?_
  refine q_iop (w := 60 + 3) (z := 63) (p2 := 36) rfl (xo_add 60 3) (by decide) rfl ?_
  refine q_const (p2 := 37) rfl rfl ?_
  refine q_astE (v := (0, 31, 0)) (w := (0, 31, 0)) (p2 := 38) rfl hs5 (by omega) (by omega) (x_ok_0 rfl) (x_nv_same rfl (by decide)) rfl (fun φ7 f7 hh7 hg7 ho7 fr7 => ?_)
  have hs7 := zq_co_st_450 hs5 hh7 hg7 ho7 fr7
  refine q_load (v := (6, 237, 0)) (p2 := 39) rfl rfl rfl rfl ?_
  have hm8 := (x_sch_at hm6 (fun j h1 h2 => (fr7 j (by omega))))
  refine q_getv (v := (0, 60, 0)) (p2 := 40) rfl hm8.1.choose_spec.1 (by decide) hm8.1.choose_spec.2.2.2.2.2.2.2.2.2.2.2.2.2.2.1 rfl ?_
  exact q_retv (v := (0, 60, 0)) rfl rfl (⟨rfl, rfl, rfl, rfl, hs7, fun j hj0 => ((fr7 j (by omega)).trans ((fr5 j (by omega)).trans ((fr3 j (by omega)).trans (fr1 j (by omega)))))⟩)
theorem zc_s_coa_3 {d n sl : Nat} {φ : FH} {co : Nat → Nat} (hS : x_sch φ) (hC : zq_co φ co)  : x_f x_P (d + 1) 62 [(6, 237, 0), (0, 3, 0)] φ n sl (x_rR (0, 60, 0) n sl (fun φ2 => zq_co φ2 (x_s (x_s (x_s (x_s co 60 9) 61 11) 62 3) 63 31) ∧ ∀ j, j ≠ 450 → φ2 j = φ j)) := by
  refine x_f_of rfl ?_
  refine q_load (v := (6, 237, 0)) (p2 := 1) rfl rfl rfl rfl ?_
  refine q_getv (v := (0, 60, 0)) (p2 := 2) rfl hS.1.choose_spec.1 (by decide) hS.1.choose_spec.2.2.2.2.2.2.2.2.2.2.2.2.2.2.1 rfl ?_
  refine q_const (p2 := 3) rfl rfl ?_
  refine q_iop (w := 60 + 4) (z := 64) (p2 := 4) rfl (xo_add 60 4) (by decide) rfl ?_
  refine q_load (v := (6, 237, 0)) (p2 := 5) rfl rfl rfl rfl ?_
  refine q_getv (v := (6, 450, 0)) (p2 := 6) rfl hS.1.choose_spec.1 (by decide) hS.1.choose_spec.2.2.2.2.2.2.2.2.2.2.2.2.2.1 rfl ?_
  refine q_alen (p2 := 7) rfl hC rfl (by omega) rfl ?_
  refine q_icmp_s (p2 := 8) rfl (by decide) (by omega) (by omega) rfl (fun hb => absurd hb (show ¬ (12288 < 64) by omega)) (fun _ => ?_)
  refine q_load (v := (6, 237, 0)) (p2 := 9) rfl rfl rfl rfl ?_
  refine q_getv (v := (6, 450, 0)) (p2 := 10) rfl hS.1.choose_spec.1 (by decide) hS.1.choose_spec.2.2.2.2.2.2.2.2.2.2.2.2.2.1 rfl ?_
  refine q_load (v := (6, 237, 0)) (p2 := 11) rfl rfl rfl rfl ?_
  refine q_getv (v := (0, 60, 0)) (p2 := 12) rfl hS.1.choose_spec.1 (by decide) hS.1.choose_spec.2.2.2.2.2.2.2.2.2.2.2.2.2.2.1 rfl ?_
  refine q_const (p2 := 13) rfl rfl ?_
  refine q_astE (v := (0, 9, 0)) (w := (0, 9, 0)) (p2 := 14) rfl hC (by omega) (by omega) (x_ok_0 rfl) (x_nv_same rfl (by decide)) rfl (fun φ1 f1 hh1 hg1 ho1 fr1 => ?_)
  have hs1 := zq_co_st_450 hC hh1 hg1 ho1 fr1
  refine q_load (v := (6, 237, 0)) (p2 := 15) rfl rfl rfl rfl ?_
  have hm2 := (x_sch_at hS (fun j h1 h2 => (fr1 j (by omega))))
  refine q_getv (v := (6, 450, 0)) (p2 := 16) rfl hm2.1.choose_spec.1 (by decide) hm2.1.choose_spec.2.2.2.2.2.2.2.2.2.2.2.2.2.1 rfl ?_
  refine q_load (v := (6, 237, 0)) (p2 := 17) rfl rfl rfl rfl ?_
  refine q_getv (v := (0, 60, 0)) (p2 := 18) rfl hm2.1.choose_spec.1 (by decide) hm2.1.choose_spec.2.2.2.2.2.2.2.2.2.2.2.2.2.2.1 rfl ?_
  refine q_const (p2 := 19) rfl rfl ?_
  refine q_iop (w := 60 + 1) (z := 61) (p2 := 20) rfl (xo_add 60 1) (by decide) rfl ?_
  refine q_const (p2 := 21) rfl rfl ?_
  refine q_astE (v := (0, 11, 0)) (w := (0, 11, 0)) (p2 := 22) rfl hs1 (by omega) (by omega) (x_ok_0 rfl) (x_nv_same rfl (by decide)) rfl (fun φ3 f3 hh3 hg3 ho3 fr3 => ?_)
  have hs3 := zq_co_st_450 hs1 hh3 hg3 ho3 fr3
  refine q_load (v := (6, 237, 0)) (p2 := 23) rfl rfl rfl rfl ?_
  have hm4 := (x_sch_at hm2 (fun j h1 h2 => (fr3 j (by omega))))
  refine q_getv (v := (6, 450, 0)) (p2 := 24) rfl hm4.1.choose_spec.1 (by decide) hm4.1.choose_spec.2.2.2.2.2.2.2.2.2.2.2.2.2.1 rfl ?_
  refine q_load (v := (6, 237, 0)) (p2 := 25) rfl rfl rfl rfl ?_
  refine q_getv (v := (0, 60, 0)) (p2 := 26) rfl hm4.1.choose_spec.1 (by decide) hm4.1.choose_spec.2.2.2.2.2.2.2.2.2.2.2.2.2.2.1 rfl ?_
  refine q_const (p2 := 27) rfl rfl ?_
  refine q_iop (w := 60 + 2) (z := 62) (p2 := 28) rfl (xo_add 60 2) (by decide) rfl ?_
  refine q_load (v := (0, 3, 0)) (p2 := 29) rfl rfl rfl rfl ?_
  refine q_astE (v := (0, 3, 0)) (w := (0, 3, 0)) (p2 := 30) rfl hs3 (by omega) (by omega) (x_ok_0 rfl) (x_nv_same rfl (by decide)) rfl (fun φ5 f5 hh5 hg5 ho5 fr5 => ?_)
  have hs5 := zq_co_st_450 hs3 hh5 hg5 ho5 fr5
  refine q_load (v := (6, 237, 0)) (p2 := 31) rfl rfl rfl rfl ?_
  have hm6 := (x_sch_at hm4 (fun j h1 h2 => (fr5 j (by omega))))
  refine q_getv (v := (6, 450, 0)) (p2 := 32) rfl hm6.1.choose_spec.1 (by decide) hm6.1.choose_spec.2.2.2.2.2.2.2.2.2.2.2.2.2.1 rfl ?_
  refine q_load (v := (6, 237, 0)) (p2 := 33) rfl rfl rfl rfl ?_
  refine q_getv (v := (0, 60, 0)) (p2 := 34) rfl hm6.1.choose_spec.1 (by decide) hm6.1.choose_spec.2.2.2.2.2.2.2.2.2.2.2.2.2.2.1 rfl ?_
  refine q_const (p2 := 35) rfl rfl ?_
  refine q_iop (w := 60 + 3) (z := 63) (p2 := 36) rfl (xo_add 60 3) (by decide) rfl ?_
  refine q_const (p2 := 37) rfl rfl ?_
  refine q_astE (v := (0, 31, 0)) (w := (0, 31, 0)) (p2 := 38) rfl hs5 (by omega) (by omega) (x_ok_0 rfl) (x_nv_same rfl (by decide)) rfl (fun φ7 f7 hh7 hg7 ho7 fr7 => ?_)
  have hs7 := zq_co_st_450 hs5 hh7 hg7 ho7 fr7
  refine q_load (v := (6, 237, 0)) (p2 := 39) rfl rfl rfl rfl ?_
  have hm8 := (x_sch_at hm6 (fun j h1 h2 => (fr7 j (by omega))))
  refine q_getv (v := (0, 60, 0)) (p2 := 40) rfl hm8.1.choose_spec.1 (by decide) hm8.1.choose_spec.2.2.2.2.2.2.2.2.2.2.2.2.2.2.1 rfl ?_
  exact q_retv (v := (0, 60, 0)) rfl rfl (⟨rfl, rfl, rfl, rfl, hs7, fun j hj0 => ((fr7 j (by omega)).trans ((fr5 j (by omega)).trans ((fr3 j (by omega)).trans (fr1 j (by omega)))))⟩)
theorem zc_s_coa_4 {d n sl : Nat} {φ : FH} {co : Nat → Nat} (hS : x_sch φ) (hC : zq_co φ co)  : x_f x_P (d + 1) 62 [(6, 237, 0), (0, 4, 0)] φ n sl (x_rR (0, 60, 0) n sl (fun φ2 => zq_co φ2 (x_s (x_s (x_s (x_s co 60 9) 61 11) 62 4) 63 31) ∧ ∀ j, j ≠ 450 → φ2 j = φ j)) := by
  refine x_f_of rfl ?_
  refine q_load (v := (6, 237, 0)) (p2 := 1) rfl rfl rfl rfl ?_
  refine q_getv (v := (0, 60, 0)) (p2 := 2) rfl hS.1.choose_spec.1 (by decide) hS.1.choose_spec.2.2.2.2.2.2.2.2.2.2.2.2.2.2.1 rfl ?_
  refine q_const (p2 := 3) rfl rfl ?_
  refine q_iop (w := 60 + 4) (z := 64) (p2 := 4) rfl (xo_add 60 4) (by decide) rfl ?_
  refine q_load (v := (6, 237, 0)) (p2 := 5) rfl rfl rfl rfl ?_
  refine q_getv (v := (6, 450, 0)) (p2 := 6) rfl hS.1.choose_spec.1 (by decide) hS.1.choose_spec.2.2.2.2.2.2.2.2.2.2.2.2.2.1 rfl ?_
  refine q_alen (p2 := 7) rfl hC rfl (by omega) rfl ?_
  refine q_icmp_s (p2 := 8) rfl (by decide) (by omega) (by omega) rfl (fun hb => absurd hb (show ¬ (12288 < 64) by omega)) (fun _ => ?_)
  refine q_load (v := (6, 237, 0)) (p2 := 9) rfl rfl rfl rfl ?_
  refine q_getv (v := (6, 450, 0)) (p2 := 10) rfl hS.1.choose_spec.1 (by decide) hS.1.choose_spec.2.2.2.2.2.2.2.2.2.2.2.2.2.1 rfl ?_
  refine q_load (v := (6, 237, 0)) (p2 := 11) rfl rfl rfl rfl ?_
  refine q_getv (v := (0, 60, 0)) (p2 := 12) rfl hS.1.choose_spec.1 (by decide) hS.1.choose_spec.2.2.2.2.2.2.2.2.2.2.2.2.2.2.1 rfl ?_
  refine q_const (p2 := 13) rfl rfl ?_
  refine q_astE (v := (0, 9, 0)) (w := (0, 9, 0)) (p2 := 14) rfl hC (by omega) (by omega) (x_ok_0 rfl) (x_nv_same rfl (by decide)) rfl (fun φ1 f1 hh1 hg1 ho1 fr1 => ?_)
  have hs1 := zq_co_st_450 hC hh1 hg1 ho1 fr1
  refine q_load (v := (6, 237, 0)) (p2 := 15) rfl rfl rfl rfl ?_
  have hm2 := (x_sch_at hS (fun j h1 h2 => (fr1 j (by omega))))
  refine q_getv (v := (6, 450, 0)) (p2 := 16) rfl hm2.1.choose_spec.1 (by decide) hm2.1.choose_spec.2.2.2.2.2.2.2.2.2.2.2.2.2.1 rfl ?_
  refine q_load (v := (6, 237, 0)) (p2 := 17) rfl rfl rfl rfl ?_
  refine q_getv (v := (0, 60, 0)) (p2 := 18) rfl hm2.1.choose_spec.1 (by decide) hm2.1.choose_spec.2.2.2.2.2.2.2.2.2.2.2.2.2.2.1 rfl ?_
  refine q_const (p2 := 19) rfl rfl ?_
  refine q_iop (w := 60 + 1) (z := 61) (p2 := 20) rfl (xo_add 60 1) (by decide) rfl ?_
  refine q_const (p2 := 21) rfl rfl ?_
  refine q_astE (v := (0, 11, 0)) (w := (0, 11, 0)) (p2 := 22) rfl hs1 (by omega) (by omega) (x_ok_0 rfl) (x_nv_same rfl (by decide)) rfl (fun φ3 f3 hh3 hg3 ho3 fr3 => ?_)
  have hs3 := zq_co_st_450 hs1 hh3 hg3 ho3 fr3
  refine q_load (v := (6, 237, 0)) (p2 := 23) rfl rfl rfl rfl ?_
  have hm4 := (x_sch_at hm2 (fun j h1 h2 => (fr3 j (by omega))))
  refine q_getv (v := (6, 450, 0)) (p2 := 24) rfl hm4.1.choose_spec.1 (by decide) hm4.1.choose_spec.2.2.2.2.2.2.2.2.2.2.2.2.2.1 rfl ?_
  refine q_load (v := (6, 237, 0)) (p2 := 25) rfl rfl rfl rfl ?_
  refine q_getv (v := (0, 60, 0)) (p2 := 26) rfl hm4.1.choose_spec.1 (by decide) hm4.1.choose_spec.2.2.2.2.2.2.2.2.2.2.2.2.2.2.1 rfl ?_
  refine q_const (p2 := 27) rfl rfl ?_
  refine q_iop (w := 60 + 2) (z := 62) (p2 := 28) rfl (xo_add 60 2) (by decide) rfl ?_
  refine q_load (v := (0, 4, 0)) (p2 := 29) rfl rfl rfl rfl ?_
  refine q_astE (v := (0, 4, 0)) (w := (0, 4, 0)) (p2 := 30) rfl hs3 (by omega) (by omega) (x_ok_0 rfl) (x_nv_same rfl (by decide)) rfl (fun φ5 f5 hh5 hg5 ho5 fr5 => ?_)
  have hs5 := zq_co_st_450 hs3 hh5 hg5 ho5 fr5
  refine q_load (v := (6, 237, 0)) (p2 := 31) rfl rfl rfl rfl ?_
  have hm6 := (x_sch_at hm4 (fun j h1 h2 => (fr5 j (by omega))))
  refine q_getv (v := (6, 450, 0)) (p2 := 32) rfl hm6.1.choose_spec.1 (by decide) hm6.1.choose_spec.2.2.2.2.2.2.2.2.2.2.2.2.2.1 rfl ?_
  refine q_load (v := (6, 237, 0)) (p2 := 33) rfl rfl rfl rfl ?_
  refine q_getv (v := (0, 60, 0)) (p2 := 34) rfl hm6.1.choose_spec.1 (by decide) hm6.1.choose_spec.2.2.2.2.2.2.2.2.2.2.2.2.2.2.1 rfl ?_
  refine q_const (p2 := 35) rfl rfl ?_
  refine q_iop (w := 60 + 3) (z := 63) (p2 := 36) rfl (xo_add 60 3) (by decide) rfl ?_
  refine q_const (p2 := 37) rfl rfl ?_
  refine q_astE (v := (0, 31, 0)) (w := (0, 31, 0)) (p2 := 38) rfl hs5 (by omega) (by omega) (x_ok_0 rfl) (x_nv_same rfl (by decide)) rfl (fun φ7 f7 hh7 hg7 ho7 fr7 => ?_)
  have hs7 := zq_co_st_450 hs5 hh7 hg7 ho7 fr7
  refine q_load (v := (6, 237, 0)) (p2 := 39) rfl rfl rfl rfl ?_
  have hm8 := (x_sch_at hm6 (fun j h1 h2 => (fr7 j (by omega))))
  refine q_getv (v := (0, 60, 0)) (p2 := 40) rfl hm8.1.choose_spec.1 (by decide) hm8.1.choose_spec.2.2.2.2.2.2.2.2.2.2.2.2.2.2.1 rfl ?_
  exact q_retv (v := (0, 60, 0)) rfl rfl (⟨rfl, rfl, rfl, rfl, hs7, fun j hj0 => ((fr7 j (by omega)).trans ((fr5 j (by omega)).trans ((fr3 j (by omega)).trans (fr1 j (by omega)))))⟩)
set_option maxHeartbeats 1000000 in
theorem zc_get0_bad {d n sl : Nat} {φ : FH} {tpd : Nat} {tp : Nat → Nat} {lf : Nat} {mi : Nat} {made : Nat} {sv : Nat} {svm : Nat} {comb : Nat → Nat} {hm : Nat → MV} {sc : Nat → Nat} {sm : Nat → MV} {mh : MV} {noted : Nat} {verd : Nat} {ins : Nat → Nat} {ver : Nat → Nat} {sz : Nat} {bw : Nat → Nat} {x : Nat} (hG : zG φ tpd tp lf mi made sv svm comb hm sc sm mh noted verd ins ver sz bw) (hn0 : 486 ≤ n) (hpv : ∀ i, x_pv2 (hm i)) (hmi : mi + 100 ≤ 20000) (hx : x < 1000) (hna : ¬ x_isA made comb x 0) : x_f x_P (d + 4) 26 [(6, 0, 0), (0, x, 0), (0, 0, 0)] φ n sl (x_bR n sl 0 0 (fun zw φ2 => zw = (0, 4294967295, 0) ∧ zG φ2 tpd tp lf mi made sv svm comb hm sc sm mh noted verd ins ver sz bw)) := by
  refine x_f_of rfl ?_
  have hG0 := hG
  obtain ⟨⟨hand, ie, hH, hhw⟩, hB, hTJ, hEJ, hN, hKJ, ⟨A, B, s9, hPS, hLK0⟩, hSP, hV5, ⟨slq, hSL⟩, hRW, hJ, hFJ, hWJ, ⟨ovn, ovh, hOV, hovn, hovh⟩⟩ := hG
  refine x_n_lt (fun hlt0 => ?_)
  have hmade := x_PS_lt hPS
  obtain ⟨co, ⟨top_, fr_, pc_, mm, st, lo, re, rs, fl, se, hKS⟩, hco⟩ := hKJ
  refine q_load (v := (6, 0, 0)) (p2 := 1) rfl rfl rfl rfl ?_
  refine q_getv (v := (6, 7, 0)) (p2 := 2) rfl hH (by decide) rfl rfl ?_
  refine q_load (v := (0, x, 0)) (p2 := 3) rfl rfl rfl rfl ?_
  refine q_load (v := (0, 0, 0)) (p2 := 4) rfl rfl rfl rfl ?_
  refine q_callr (xs := [(0, 0, 0), (0, x, 0), (6, 7, 0)]) (p2 := 5) rfl rfl rfl rfl (x_rcv_s 7 hPS.1.choose_spec.1) rfl (zr_no (e_has_0 hPS.1.choose_spec hPS.2.1 hKS.2.2.2.2.2.2.2.2.2 (by omega)) hna) (Nat.le_refl _) (Nat.le_refl _) rfl ?_
  refine q_if0_s (p2 := 6) rfl (by decide) (by omega) rfl (fun hb => absurd hb (show ¬ (¬ (0 = 0)) by omega)) (fun _ => ?_)
  refine q_const (p2 := 7) rfl rfl ?_
  exact q_retv (v := (0, 4294967295, 0)) rfl rfl (⟨rfl, ⟨by omega, by omega⟩, ⟨by omega, by omega⟩, rfl, ⟨⟨_, _, hH, hhw⟩, hB, hTJ, hEJ, hN, ⟨_, ⟨_, _, _, _, _, _, _, _, _, _, hKS⟩, hco⟩, ⟨_, _, _, hPS, hLK0⟩, hSP, hV5, ⟨_, hSL⟩, hRW, hJ, hFJ, hWJ, ⟨_, _, hOV, hovn, hovh⟩⟩⟩)
set_option maxHeartbeats 1000000 in
theorem zc_get0 {d n sl : Nat} {φ : FH} {tpd : Nat} {tp : Nat → Nat} {lf : Nat} {mi : Nat} {made : Nat} {sv : Nat} {svm : Nat} {comb : Nat → Nat} {hm : Nat → MV} {sc : Nat → Nat} {sm : Nat → MV} {mh : MV} {noted : Nat} {verd : Nat} {ins : Nat → Nat} {ver : Nat → Nat} {sz : Nat} {bw : Nat → Nat} {x : Nat} (hG : zG φ tpd tp lf mi made sv svm comb hm sc sm mh noted verd ins ver sz bw) (hn0 : 486 ≤ n) (hpv : ∀ i, x_pv2 (hm i)) (hmi : mi + 100 ≤ 20000) (hx : x < 512) (hisA : x_isA made comb x 0) : x_f x_P (d + 8) 26 [(6, 0, 0), (0, x, 0), (0, 0, 0)] φ n sl (x_bR n sl 1 7 (fun zw φ2 => zw = (0, (hm (x * 40)).1, 0) ∧ zG φ2 tpd tp lf mi made sv svm comb hm sc sm (hm (x * 40)) noted verd ins ver sz bw)) := by
  refine x_f_of rfl ?_
  have hG0 := hG
  obtain ⟨⟨hand, ie, hH, hhw⟩, hB, hTJ, hEJ, hN, hKJ, ⟨A, B, s9, hPS, hLK0⟩, hSP, hV5, ⟨slq, hSL⟩, hRW, hJ, hFJ, hWJ, ⟨ovn, ovh, hOV, hovn, hovh⟩⟩ := hG
  refine x_n_lt (fun hlt0 => ?_)
  have hmade := x_PS_lt hPS
  obtain ⟨co, ⟨top_, fr_, pc_, mm, st, lo, re, rs, fl, se, hKS⟩, hco⟩ := hKJ
  refine q_load (v := (6, 0, 0)) (p2 := 1) rfl rfl rfl rfl ?_
  refine q_getv (v := (6, 7, 0)) (p2 := 2) rfl hH (by decide) rfl rfl ?_
  refine q_load (v := (0, x, 0)) (p2 := 3) rfl rfl rfl rfl ?_
  refine q_load (v := (0, 0, 0)) (p2 := 4) rfl rfl rfl rfl ?_
  refine q_callr (xs := [(0, 0, 0), (0, x, 0), (6, 7, 0)]) (p2 := 5) rfl rfl rfl rfl (x_rcv_s 7 hPS.1.choose_spec.1) rfl (x_r_yes (e_has_0 hPS.1.choose_spec hPS.2.1 hKS.2.2.2.2.2.2.2.2.2 (by omega)) hisA) (Nat.le_refl _) (Nat.le_refl _) rfl ?_
  refine q_if0_s (p2 := 6) rfl (by decide) (by omega) rfl (fun _ => ?_) (fun hb => absurd (show ¬ (1 = 0) by omega) hb)
  refine q_load (v := (6, 0, 0)) (p2 := 9) rfl rfl rfl rfl ?_
  refine q_getv (v := (6, 7, 0)) (p2 := 10) rfl hH (by decide) rfl rfl ?_
  refine q_callvE (xs := [(6, 7, 0)]) (p2 := 11) rfl rfl rfl rfl (x_rcv_s 7 hPS.1.choose_spec.1) rfl (e_prepare hPS hLK0.1 hpv hKS.2.2.2.2.2.2.2.2.2) (Nat.le_refl _) (Nat.le_refl _) rfl (fun φ1 hR1 => ?_)
  obtain ⟨A1, B1, hPS1, hLK1, frn1⟩ := hR1
  have hAB1 := x_pop_AB hPS1.1.choose_spec
  obtain ⟨lik1, lb1, hL1, hLb1, hlk1⟩ := id hLK1
  refine x_n_lt (fun hlt2 => ?_)
  have hLKx1 : x_LK φ1 A1 B1 made 0 comb hm ∧ _ := ⟨hLK1, hAB1⟩
  refine q_load (v := (6, 0, 0)) (p2 := 12) rfl rfl rfl rfl ?_
  refine q_load (v := (6, 0, 0)) (p2 := 13) rfl rfl rfl rfl ?_
  have hm3 := (zq_H_at hH (frn1 0 (by omega) (by omega) (by omega)))
  refine q_getv (v := (6, 7, 0)) (p2 := 14) rfl hm3 (by decide) rfl rfl ?_
  refine q_getv (v := (6, 237, 0)) (p2 := 15) rfl hPS1.1.choose_spec.1 (by decide) hPS1.1.choose_spec.2.1 rfl ?_
  refine q_load (v := (0, 0, 0)) (p2 := 16) rfl rfl rfl rfl ?_
  have hm4 := (x_KS_at2 hKS (fun j h1 h2 h3 h4 => (frn1 j (by omega) (by omega) (by omega))))
  refine q_callrE (xs := [(0, 0, 0), (6, 237, 0)]) (p2 := 17) rfl rfl rfl rfl (x_rcv_s 237 hm4.2.2.2.2.2.2.2.2.2.1.choose_spec.1) rfl (zc_s_coa_0 hm4.2.2.2.2.2.2.2.2.2 hm4.2.2.2.2.2.2.2.1) (Nat.le_refl _) (Nat.le_refl _) rfl (fun φ5 hR5 => ?_)
  obtain ⟨hs5_0, fr5⟩ := hR5
  have hKc5 := x_KS_co hm4 hs5_0 (fun j h1 h2 h3 => (fr5 j (by omega)))
  refine q_newE (p2 := 18) (len := 7) (g := x_gV) rfl rfl x_gV_ok rfl (fun φ6 hh6 frn6 => ?_)
  refine q_dup (p2 := 19) rfl rfl rfl ?_
  refine q_const (p2 := 20) rfl rfl ?_
  refine q_load (v := (0, x, 0)) (p2 := 21) rfl rfl rfl rfl ?_
  refine q_i2l (p2 := 22) rfl (by omega) rfl ?_
  refine q_callvE (xs := [(2, x, 0), (0, 5, 0), (6, n, 0)]) (p2 := 23) rfl rfl rfl rfl (x_rcv_s n hh6) rfl (e_new2 hh6) (Nat.le_refl _) (Nat.le_refl _) rfl (fun φ7 hR7 => ?_)
  obtain ⟨⟨fv7, hV7, hg7⟩, fr7⟩ := hR7
  have frn7 := fr7
  refine x_n_lt (fun hlt8 => ?_)
  have hz9 := x_mv_lt (x_mv_sc (by omega) (by omega) (by decide) hV7 hg7) hlt8
  have hy9 := (x_mv_sc (by omega) (by omega) (by decide) hV7 hg7).1
  have hm10 := (zq_H_at hm3 ((frn7 0 (by omega)).trans ((frn6 0 (by omega)).trans (fr5 0 (by decide)))))
  refine q_callK (xs := [(6, n, 0), (0, 60, 0), (6, 0, 0)]) (p2 := 24) rfl rfl rfl rfl (x_rcv_s 0 hm10) rfl rfl ?_
  refine x_f_of rfl ?_
  refine q_load (v := (6, 0, 0)) (p2 := 1) rfl rfl rfl rfl ?_
  refine q_getv (v := (6, 455, 0)) (p2 := 2) rfl hm10 (by decide) rfl rfl ?_
  refine q_load (v := (0, 60, 0)) (p2 := 3) rfl rfl rfl rfl ?_
  refine q_load (v := (6, n, 0)) (p2 := 4) rfl rfl rfl rfl ?_
  have hm11 := (x_PS_at hPS1 (fun j hj hne => by have hj2 := x_some_lt hlt2 hne; exact ((frn7 j (by omega)).trans ((frn6 j (by omega)).trans (fr5 j (by omega))))))
  have hm12 := (x_KS_at2 hKc5 (fun j h1 h2 h3 h4 => ((frn7 j (by omega)).trans (frn6 j (by omega)))))
  refine q_callrB (xs := [(6, n, 0), (0, 60, 0), (6, 455, 0)]) (p2 := 5) rfl rfl rfl rfl (x_rcv_s 455 (x_KS_455 hm12)) rfl (zc_run_get0 hm11 hm12 (by omega) (by omega) (((x_s_ne (by decide)).trans ((x_s_ne (by decide)).trans ((x_s_ne (by decide)).trans (x_s_eq))))) (((x_s_ne (by decide)).trans ((x_s_ne (by decide)).trans (x_s_eq)))) (((x_s_ne (by decide)).trans (x_s_eq))) ((x_s_eq)) (x_mv_sc (by omega) (by omega) (by decide) hV7 hg7) (by omega) hisA) rfl (fun w13 φ13 n13 sl13 hn13 hN13 hs13 hT13 hR13 => ?_)
  obtain ⟨v13, hwv13, ⟨ka13, kb13, kc13, kd13, ke13, kf13, kg13, kh13, ki13, kj13, hK13⟩, hV13, frn13⟩ := hR13
  subst hwv13
  refine x_n_lt (fun hlt14 => ?_)
  have hz15 := x_mv_lt hV13 hlt14
  have hy15 := hV13.1
  refine q_store (loc2 := [(6, 0, 0), (0, 60, 0), (6, n, 0), (6, v13, 0)]) (p2 := 6) rfl rfl rfl rfl rfl ?_
  refine q_load (v := (6, 0, 0)) (p2 := 7) rfl rfl rfl rfl ?_
  have hm16 := (zq_H_at hm10 (frn13 0 (by omega) (by omega)))
  refine q_getv (v := (6, 455, 0)) (p2 := 8) rfl hm16 (by decide) rfl rfl ?_
  refine q_getv (v := (0, 0, 0)) (p2 := 9) rfl (x_KS_455 hK13) (by decide) hK13.1.choose_spec.2.2.2.2.2.2.2.2.2.2.2.2.2.2.2.2.2.1 rfl ?_
  refine q_if0_s (p2 := 10) rfl (by decide) (by omega) rfl (fun _ => ?_) (fun hb => absurd (show 0 = 0 by omega) hb)
  refine q_load (v := (6, 0, 0)) (p2 := 13) rfl rfl rfl rfl ?_
  refine q_load (v := (6, v13, 0)) (p2 := 14) rfl rfl rfl rfl ?_
  refine q_putfE (v := (6, v13, 0)) (p2 := 15) rfl hm16 (by decide) rfl rfl (fun φ17 f17 hh17 hg17 ho17 fr17 => ?_)
  have hs17 := zq_H_put_0_10 hm16 hh17 hg17 ho17 fr17
  refine q_load (v := (6, 0, 0)) (p2 := 16) rfl rfl rfl rfl ?_
  refine q_getv (v := (6, v13, 0)) (p2 := 17) rfl hs17 (by decide) rfl rfl ?_
  refine x_n_lt (fun hlt19 => ?_)
  have hv18 := x_mv_at hV13 (fun j hj hne => by have hj2 := x_some_lt hlt14 hne; exact (fr17 j (by omega)))
  obtain ⟨fG20, sG20, lG20, aG20, oG20, cG20, hW20, hg20, hk7_20⟩ := x_mv_g hv18
  have hl20 := hlt19 _ _ hW20
  have h6_20 := hv18.1
  have hbG20 := hv18.2.1
  refine q_getv (v := (0, (hm (x * 40)).1, 0)) (p2 := 18) rfl hW20 (by decide) hg20.1 rfl ?_
  refine q_retv (v := (0, (hm (x * 40)).1, 0)) rfl rfl ⟨rfl, by omega, by omega, ?_⟩
  have hm21 := (zq_tp_at hB ((fr17 1 (by decide)).trans ((frn13 1 (by omega) (by omega)).trans ((frn7 1 (by omega)).trans ((frn6 1 (by omega)).trans ((fr5 1 (by decide)).trans (frn1 1 (by omega) (by omega) (by omega))))))))
  have hm22 := (zTJ_at hTJ (fun j h1 h2 => ((fr17 j (by omega)).trans ((frn13 j (by omega) (by omega)).trans ((frn7 j (by omega)).trans ((frn6 j (by omega)).trans ((fr5 j (by omega)).trans (frn1 j (by omega) (by omega) (by omega)))))))))
  have hm23 := (zEJ_at hEJ (fun j h1 h2 => ((fr17 j (by omega)).trans ((frn13 j (by omega) (by omega)).trans ((frn7 j (by omega)).trans ((frn6 j (by omega)).trans ((fr5 j (by omega)).trans (frn1 j (by omega) (by omega) (by omega)))))))))
  have hm24 := (zq_nm_at hN ((fr17 239 (by decide)).trans ((frn13 239 (by omega) (by omega)).trans ((frn7 239 (by omega)).trans ((frn6 239 (by omega)).trans ((fr5 239 (by decide)).trans (frn1 239 (by omega) (by omega) (by omega))))))) ((fr17 242 (by decide)).trans ((frn13 242 (by omega) (by omega)).trans ((frn7 242 (by omega)).trans ((frn6 242 (by omega)).trans ((fr5 242 (by decide)).trans (frn1 242 (by omega) (by omega) (by omega))))))) ((fr17 244 (by decide)).trans ((frn13 244 (by omega) (by omega)).trans ((frn7 244 (by omega)).trans ((frn6 244 (by omega)).trans ((fr5 244 (by decide)).trans (frn1 244 (by omega) (by omega) (by omega))))))))
  have hm25 := (x_KS_at2 hK13 (fun j h1 h2 h3 h4 => (fr17 j (by omega))))
  have hm26 := (x_PS_at hm11 (fun j hj hne => by have hj2 := x_some_lt hlt8 hne; exact ((fr17 j (by omega)).trans (frn13 j (by omega) (by omega)))))
  have hm27 := (x_LK_at2 hLKx1 (fun j h1 h2 => ((fr17 j (by omega)).trans ((frn13 j (by omega) (by omega)).trans ((frn7 j (by omega)).trans ((frn6 j (by omega)).trans (fr5 j (by omega))))))))
  have hm28 := (x_SP_at hSP (fun j hj hne => by have hj2 := x_some_lt hlt0 hne; exact ((fr17 j (by omega)).trans ((frn13 j (by omega) (by omega)).trans ((frn7 j (by omega)).trans ((frn6 j (by omega)).trans ((fr5 j (by omega)).trans (frn1 j (by omega) (by omega) (by omega)))))))))
  have hm29 := (zq_V5_at hV5 ((fr17 485 (by decide)).trans ((frn13 485 (by omega) (by omega)).trans ((frn7 485 (by omega)).trans ((frn6 485 (by omega)).trans ((fr5 485 (by decide)).trans (frn1 485 (by omega) (by omega) (by omega))))))))
  have hm30 := (zq_SL_at hSL ((fr17 482 (by decide)).trans ((frn13 482 (by omega) (by omega)).trans ((frn7 482 (by omega)).trans ((frn6 482 (by omega)).trans ((fr5 482 (by decide)).trans (frn1 482 (by omega) (by omega) (by omega))))))))
  have hm31 := (zq_RW_at hRW ((fr17 483 (by decide)).trans ((frn13 483 (by omega) (by omega)).trans ((frn7 483 (by omega)).trans ((frn6 483 (by omega)).trans ((fr5 483 (by decide)).trans (frn1 483 (by omega) (by omega) (by omega))))))))
  have hm32 := (zq_J_at hJ ((fr17 468 (by decide)).trans ((frn13 468 (by omega) (by omega)).trans ((frn7 468 (by omega)).trans ((frn6 468 (by omega)).trans ((fr5 468 (by decide)).trans (frn1 468 (by omega) (by omega) (by omega))))))) ((fr17 469 (by decide)).trans ((frn13 469 (by omega) (by omega)).trans ((frn7 469 (by omega)).trans ((frn6 469 (by omega)).trans ((fr5 469 (by decide)).trans (frn1 469 (by omega) (by omega) (by omega))))))) ((fr17 470 (by decide)).trans ((frn13 470 (by omega) (by omega)).trans ((frn7 470 (by omega)).trans ((frn6 470 (by omega)).trans ((fr5 470 (by decide)).trans (frn1 470 (by omega) (by omega) (by omega))))))))
  have hm33 := (zFJ_at hFJ (fun j h1 h2 => ((fr17 j (by omega)).trans ((frn13 j (by omega) (by omega)).trans ((frn7 j (by omega)).trans ((frn6 j (by omega)).trans ((fr5 j (by omega)).trans (frn1 j (by omega) (by omega) (by omega)))))))))
  have hm34 := (zWJ_at hWJ (fun j h1 h2 => ((fr17 j (by omega)).trans ((frn13 j (by omega) (by omega)).trans ((frn7 j (by omega)).trans ((frn6 j (by omega)).trans ((fr5 j (by omega)).trans (frn1 j (by omega) (by omega) (by omega)))))))))
  have hm35 := (zq_OV_at hOV ((fr17 452 (by decide)).trans ((frn13 452 (by omega) (by omega)).trans ((frn7 452 (by omega)).trans ((frn6 452 (by omega)).trans ((fr5 452 (by decide)).trans (frn1 452 (by omega) (by omega) (by omega))))))) ((fr17 453 (by decide)).trans ((frn13 453 (by omega) (by omega)).trans ((frn7 453 (by omega)).trans ((frn6 453 (by omega)).trans ((fr5 453 (by decide)).trans (frn1 453 (by omega) (by omega) (by omega))))))))
  exact q_retv (v := (0, (hm (x * 40)).1, 0)) rfl rfl (⟨rfl, ⟨by omega, by omega⟩, ⟨by omega, by omega⟩, rfl, ⟨⟨_, _, hs17, (Or.inl hv18)⟩, hm21, hm22, hm23, hm24, ⟨_, ⟨_, _, _, _, _, _, _, _, _, _, hm25⟩, (fun i hi => by rw [x_s_ne (by omega), x_s_ne (by omega), x_s_ne (by omega), x_s_ne (by omega)]; exact hco i hi)⟩, ⟨_, _, _, hm26, hm27⟩, hm28, hm29, ⟨_, hm30⟩, hm31, hm32, hm33, hm34, ⟨_, _, hm35, hovn, hovh⟩⟩⟩)
set_option maxHeartbeats 1000000 in
theorem zc_get1_bad {d n sl : Nat} {φ : FH} {tpd : Nat} {tp : Nat → Nat} {lf : Nat} {mi : Nat} {made : Nat} {sv : Nat} {svm : Nat} {comb : Nat → Nat} {hm : Nat → MV} {sc : Nat → Nat} {sm : Nat → MV} {mh : MV} {noted : Nat} {verd : Nat} {ins : Nat → Nat} {ver : Nat → Nat} {sz : Nat} {bw : Nat → Nat} {x : Nat} (hG : zG φ tpd tp lf mi made sv svm comb hm sc sm mh noted verd ins ver sz bw) (hn0 : 486 ≤ n) (hpv : ∀ i, x_pv2 (hm i)) (hmi : mi + 100 ≤ 20000) (hx : x < 1000) (hna : ¬ x_isA made comb x 0) : x_f x_P (d + 4) 26 [(6, 0, 0), (0, x, 0), (0, 1, 0)] φ n sl (x_bR n sl 0 0 (fun zw φ2 => zw = (0, 4294967295, 0) ∧ zG φ2 tpd tp lf mi made sv svm comb hm sc sm mh noted verd ins ver sz bw)) := by
  refine x_f_of rfl ?_
  have hG0 := hG
  obtain ⟨⟨hand, ie, hH, hhw⟩, hB, hTJ, hEJ, hN, hKJ, ⟨A, B, s9, hPS, hLK0⟩, hSP, hV5, ⟨slq, hSL⟩, hRW, hJ, hFJ, hWJ, ⟨ovn, ovh, hOV, hovn, hovh⟩⟩ := hG
  refine x_n_lt (fun hlt0 => ?_)
  have hmade := x_PS_lt hPS
  obtain ⟨co, ⟨top_, fr_, pc_, mm, st, lo, re, rs, fl, se, hKS⟩, hco⟩ := hKJ
  refine q_load (v := (6, 0, 0)) (p2 := 1) rfl rfl rfl rfl ?_
  refine q_getv (v := (6, 7, 0)) (p2 := 2) rfl hH (by decide) rfl rfl ?_
  refine q_load (v := (0, x, 0)) (p2 := 3) rfl rfl rfl rfl ?_
  refine q_load (v := (0, 1, 0)) (p2 := 4) rfl rfl rfl rfl ?_
  refine q_callr (xs := [(0, 1, 0), (0, x, 0), (6, 7, 0)]) (p2 := 5) rfl rfl rfl rfl (x_rcv_s 7 hPS.1.choose_spec.1) rfl (zr_no (e_has_1 hPS.1.choose_spec hPS.2.1 hKS.2.2.2.2.2.2.2.2.2 (by omega)) hna) (Nat.le_refl _) (Nat.le_refl _) rfl ?_
  refine q_if0_s (p2 := 6) rfl (by decide) (by omega) rfl (fun hb => absurd hb (show ¬ (¬ (0 = 0)) by omega)) (fun _ => ?_)
  refine q_const (p2 := 7) rfl rfl ?_
  exact q_retv (v := (0, 4294967295, 0)) rfl rfl (⟨rfl, ⟨by omega, by omega⟩, ⟨by omega, by omega⟩, rfl, ⟨⟨_, _, hH, hhw⟩, hB, hTJ, hEJ, hN, ⟨_, ⟨_, _, _, _, _, _, _, _, _, _, hKS⟩, hco⟩, ⟨_, _, _, hPS, hLK0⟩, hSP, hV5, ⟨_, hSL⟩, hRW, hJ, hFJ, hWJ, ⟨_, _, hOV, hovn, hovh⟩⟩⟩)
set_option maxHeartbeats 1000000 in
theorem zc_get1 {d n sl : Nat} {φ : FH} {tpd : Nat} {tp : Nat → Nat} {lf : Nat} {mi : Nat} {made : Nat} {sv : Nat} {svm : Nat} {comb : Nat → Nat} {hm : Nat → MV} {sc : Nat → Nat} {sm : Nat → MV} {mh : MV} {noted : Nat} {verd : Nat} {ins : Nat → Nat} {ver : Nat → Nat} {sz : Nat} {bw : Nat → Nat} {x : Nat} (hG : zG φ tpd tp lf mi made sv svm comb hm sc sm mh noted verd ins ver sz bw) (hn0 : 486 ≤ n) (hpv : ∀ i, x_pv2 (hm i)) (hmi : mi + 100 ≤ 20000) (hx : x < 512) (hisA : x_isA made comb x 0) : x_f x_P (d + 8) 26 [(6, 0, 0), (0, x, 0), (0, 1, 0)] φ n sl (x_bR n sl 1 7 (fun zw φ2 => zw = (0, (hm (x * 40 + 1)).1, 0) ∧ zG φ2 tpd tp lf mi made sv svm comb hm sc sm (hm (x * 40 + 1)) noted verd ins ver sz bw)) := by
  refine x_f_of rfl ?_
  have hG0 := hG
  obtain ⟨⟨hand, ie, hH, hhw⟩, hB, hTJ, hEJ, hN, hKJ, ⟨A, B, s9, hPS, hLK0⟩, hSP, hV5, ⟨slq, hSL⟩, hRW, hJ, hFJ, hWJ, ⟨ovn, ovh, hOV, hovn, hovh⟩⟩ := hG
  refine x_n_lt (fun hlt0 => ?_)
  have hmade := x_PS_lt hPS
  obtain ⟨co, ⟨top_, fr_, pc_, mm, st, lo, re, rs, fl, se, hKS⟩, hco⟩ := hKJ
  refine q_load (v := (6, 0, 0)) (p2 := 1) rfl rfl rfl rfl ?_
  refine q_getv (v := (6, 7, 0)) (p2 := 2) rfl hH (by decide) rfl rfl ?_
  refine q_load (v := (0, x, 0)) (p2 := 3) rfl rfl rfl rfl ?_
  refine q_load (v := (0, 1, 0)) (p2 := 4) rfl rfl rfl rfl ?_
  refine q_callr (xs := [(0, 1, 0), (0, x, 0), (6, 7, 0)]) (p2 := 5) rfl rfl rfl rfl (x_rcv_s 7 hPS.1.choose_spec.1) rfl (x_r_yes (e_has_1 hPS.1.choose_spec hPS.2.1 hKS.2.2.2.2.2.2.2.2.2 (by omega)) hisA) (Nat.le_refl _) (Nat.le_refl _) rfl ?_
  refine q_if0_s (p2 := 6) rfl (by decide) (by omega) rfl (fun _ => ?_) (fun hb => absurd (show ¬ (1 = 0) by omega) hb)
  refine q_load (v := (6, 0, 0)) (p2 := 9) rfl rfl rfl rfl ?_
  refine q_getv (v := (6, 7, 0)) (p2 := 10) rfl hH (by decide) rfl rfl ?_
  refine q_callvE (xs := [(6, 7, 0)]) (p2 := 11) rfl rfl rfl rfl (x_rcv_s 7 hPS.1.choose_spec.1) rfl (e_prepare hPS hLK0.1 hpv hKS.2.2.2.2.2.2.2.2.2) (Nat.le_refl _) (Nat.le_refl _) rfl (fun φ1 hR1 => ?_)
  obtain ⟨A1, B1, hPS1, hLK1, frn1⟩ := hR1
  have hAB1 := x_pop_AB hPS1.1.choose_spec
  obtain ⟨lik1, lb1, hL1, hLb1, hlk1⟩ := id hLK1
  refine x_n_lt (fun hlt2 => ?_)
  have hLKx1 : x_LK φ1 A1 B1 made 0 comb hm ∧ _ := ⟨hLK1, hAB1⟩
  refine q_load (v := (6, 0, 0)) (p2 := 12) rfl rfl rfl rfl ?_
  refine q_load (v := (6, 0, 0)) (p2 := 13) rfl rfl rfl rfl ?_
  have hm3 := (zq_H_at hH (frn1 0 (by omega) (by omega) (by omega)))
  refine q_getv (v := (6, 7, 0)) (p2 := 14) rfl hm3 (by decide) rfl rfl ?_
  refine q_getv (v := (6, 237, 0)) (p2 := 15) rfl hPS1.1.choose_spec.1 (by decide) hPS1.1.choose_spec.2.1 rfl ?_
  refine q_load (v := (0, 1, 0)) (p2 := 16) rfl rfl rfl rfl ?_
  have hm4 := (x_KS_at2 hKS (fun j h1 h2 h3 h4 => (frn1 j (by omega) (by omega) (by omega))))
  refine q_callrE (xs := [(0, 1, 0), (6, 237, 0)]) (p2 := 17) rfl rfl rfl rfl (x_rcv_s 237 hm4.2.2.2.2.2.2.2.2.2.1.choose_spec.1) rfl (zc_s_coa_1 hm4.2.2.2.2.2.2.2.2.2 hm4.2.2.2.2.2.2.2.1) (Nat.le_refl _) (Nat.le_refl _) rfl (fun φ5 hR5 => ?_)
  obtain ⟨hs5_0, fr5⟩ := hR5
  have hKc5 := x_KS_co hm4 hs5_0 (fun j h1 h2 h3 => (fr5 j (by omega)))
  refine q_newE (p2 := 18) (len := 7) (g := x_gV) rfl rfl x_gV_ok rfl (fun φ6 hh6 frn6 => ?_)
  refine q_dup (p2 := 19) rfl rfl rfl ?_
  refine q_const (p2 := 20) rfl rfl ?_
  refine q_load (v := (0, x, 0)) (p2 := 21) rfl rfl rfl rfl ?_
  refine q_i2l (p2 := 22) rfl (by omega) rfl ?_
  refine q_callvE (xs := [(2, x, 0), (0, 5, 0), (6, n, 0)]) (p2 := 23) rfl rfl rfl rfl (x_rcv_s n hh6) rfl (e_new2 hh6) (Nat.le_refl _) (Nat.le_refl _) rfl (fun φ7 hR7 => ?_)
  obtain ⟨⟨fv7, hV7, hg7⟩, fr7⟩ := hR7
  have frn7 := fr7
  refine x_n_lt (fun hlt8 => ?_)
  have hz9 := x_mv_lt (x_mv_sc (by omega) (by omega) (by decide) hV7 hg7) hlt8
  have hy9 := (x_mv_sc (by omega) (by omega) (by decide) hV7 hg7).1
  have hm10 := (zq_H_at hm3 ((frn7 0 (by omega)).trans ((frn6 0 (by omega)).trans (fr5 0 (by decide)))))
  refine q_callK (xs := [(6, n, 0), (0, 60, 0), (6, 0, 0)]) (p2 := 24) rfl rfl rfl rfl (x_rcv_s 0 hm10) rfl rfl ?_
  refine x_f_of rfl ?_
  refine q_load (v := (6, 0, 0)) (p2 := 1) rfl rfl rfl rfl ?_
  refine q_getv (v := (6, 455, 0)) (p2 := 2) rfl hm10 (by decide) rfl rfl ?_
  refine q_load (v := (0, 60, 0)) (p2 := 3) rfl rfl rfl rfl ?_
  refine q_load (v := (6, n, 0)) (p2 := 4) rfl rfl rfl rfl ?_
  have hm11 := (x_PS_at hPS1 (fun j hj hne => by have hj2 := x_some_lt hlt2 hne; exact ((frn7 j (by omega)).trans ((frn6 j (by omega)).trans (fr5 j (by omega))))))
  have hm12 := (x_KS_at2 hKc5 (fun j h1 h2 h3 h4 => ((frn7 j (by omega)).trans (frn6 j (by omega)))))
  refine q_callrB (xs := [(6, n, 0), (0, 60, 0), (6, 455, 0)]) (p2 := 5) rfl rfl rfl rfl (x_rcv_s 455 (x_KS_455 hm12)) rfl (zc_run_get1 hm11 hm12 (by omega) (by omega) (((x_s_ne (by decide)).trans ((x_s_ne (by decide)).trans ((x_s_ne (by decide)).trans (x_s_eq))))) (((x_s_ne (by decide)).trans ((x_s_ne (by decide)).trans (x_s_eq)))) (((x_s_ne (by decide)).trans (x_s_eq))) ((x_s_eq)) (x_mv_sc (by omega) (by omega) (by decide) hV7 hg7) (by omega) hisA) rfl (fun w13 φ13 n13 sl13 hn13 hN13 hs13 hT13 hR13 => ?_)
  obtain ⟨v13, hwv13, ⟨ka13, kb13, kc13, kd13, ke13, kf13, kg13, kh13, ki13, kj13, hK13⟩, hV13, frn13⟩ := hR13
  subst hwv13
  refine x_n_lt (fun hlt14 => ?_)
  have hz15 := x_mv_lt hV13 hlt14
  have hy15 := hV13.1
  refine q_store (loc2 := [(6, 0, 0), (0, 60, 0), (6, n, 0), (6, v13, 0)]) (p2 := 6) rfl rfl rfl rfl rfl ?_
  refine q_load (v := (6, 0, 0)) (p2 := 7) rfl rfl rfl rfl ?_
  have hm16 := (zq_H_at hm10 (frn13 0 (by omega) (by omega)))
  refine q_getv (v := (6, 455, 0)) (p2 := 8) rfl hm16 (by decide) rfl rfl ?_
  refine q_getv (v := (0, 0, 0)) (p2 := 9) rfl (x_KS_455 hK13) (by decide) hK13.1.choose_spec.2.2.2.2.2.2.2.2.2.2.2.2.2.2.2.2.2.1 rfl ?_
  refine q_if0_s (p2 := 10) rfl (by decide) (by omega) rfl (fun _ => ?_) (fun hb => absurd (show 0 = 0 by omega) hb)
  refine q_load (v := (6, 0, 0)) (p2 := 13) rfl rfl rfl rfl ?_
  refine q_load (v := (6, v13, 0)) (p2 := 14) rfl rfl rfl rfl ?_
  refine q_putfE (v := (6, v13, 0)) (p2 := 15) rfl hm16 (by decide) rfl rfl (fun φ17 f17 hh17 hg17 ho17 fr17 => ?_)
  have hs17 := zq_H_put_0_10 hm16 hh17 hg17 ho17 fr17
  refine q_load (v := (6, 0, 0)) (p2 := 16) rfl rfl rfl rfl ?_
  refine q_getv (v := (6, v13, 0)) (p2 := 17) rfl hs17 (by decide) rfl rfl ?_
  refine x_n_lt (fun hlt19 => ?_)
  have hv18 := x_mv_at hV13 (fun j hj hne => by have hj2 := x_some_lt hlt14 hne; exact (fr17 j (by omega)))
  obtain ⟨fG20, sG20, lG20, aG20, oG20, cG20, hW20, hg20, hk7_20⟩ := x_mv_g hv18
  have hl20 := hlt19 _ _ hW20
  have h6_20 := hv18.1
  have hbG20 := hv18.2.1
  refine q_getv (v := (0, (hm (x * 40 + 1)).1, 0)) (p2 := 18) rfl hW20 (by decide) hg20.1 rfl ?_
  refine q_retv (v := (0, (hm (x * 40 + 1)).1, 0)) rfl rfl ⟨rfl, by omega, by omega, ?_⟩
  have hm21 := (zq_tp_at hB ((fr17 1 (by decide)).trans ((frn13 1 (by omega) (by omega)).trans ((frn7 1 (by omega)).trans ((frn6 1 (by omega)).trans ((fr5 1 (by decide)).trans (frn1 1 (by omega) (by omega) (by omega))))))))
  have hm22 := (zTJ_at hTJ (fun j h1 h2 => ((fr17 j (by omega)).trans ((frn13 j (by omega) (by omega)).trans ((frn7 j (by omega)).trans ((frn6 j (by omega)).trans ((fr5 j (by omega)).trans (frn1 j (by omega) (by omega) (by omega)))))))))
  have hm23 := (zEJ_at hEJ (fun j h1 h2 => ((fr17 j (by omega)).trans ((frn13 j (by omega) (by omega)).trans ((frn7 j (by omega)).trans ((frn6 j (by omega)).trans ((fr5 j (by omega)).trans (frn1 j (by omega) (by omega) (by omega)))))))))
  have hm24 := (zq_nm_at hN ((fr17 239 (by decide)).trans ((frn13 239 (by omega) (by omega)).trans ((frn7 239 (by omega)).trans ((frn6 239 (by omega)).trans ((fr5 239 (by decide)).trans (frn1 239 (by omega) (by omega) (by omega))))))) ((fr17 242 (by decide)).trans ((frn13 242 (by omega) (by omega)).trans ((frn7 242 (by omega)).trans ((frn6 242 (by omega)).trans ((fr5 242 (by decide)).trans (frn1 242 (by omega) (by omega) (by omega))))))) ((fr17 244 (by decide)).trans ((frn13 244 (by omega) (by omega)).trans ((frn7 244 (by omega)).trans ((frn6 244 (by omega)).trans ((fr5 244 (by decide)).trans (frn1 244 (by omega) (by omega) (by omega))))))))
  have hm25 := (x_KS_at2 hK13 (fun j h1 h2 h3 h4 => (fr17 j (by omega))))
  have hm26 := (x_PS_at hm11 (fun j hj hne => by have hj2 := x_some_lt hlt8 hne; exact ((fr17 j (by omega)).trans (frn13 j (by omega) (by omega)))))
  have hm27 := (x_LK_at2 hLKx1 (fun j h1 h2 => ((fr17 j (by omega)).trans ((frn13 j (by omega) (by omega)).trans ((frn7 j (by omega)).trans ((frn6 j (by omega)).trans (fr5 j (by omega))))))))
  have hm28 := (x_SP_at hSP (fun j hj hne => by have hj2 := x_some_lt hlt0 hne; exact ((fr17 j (by omega)).trans ((frn13 j (by omega) (by omega)).trans ((frn7 j (by omega)).trans ((frn6 j (by omega)).trans ((fr5 j (by omega)).trans (frn1 j (by omega) (by omega) (by omega)))))))))
  have hm29 := (zq_V5_at hV5 ((fr17 485 (by decide)).trans ((frn13 485 (by omega) (by omega)).trans ((frn7 485 (by omega)).trans ((frn6 485 (by omega)).trans ((fr5 485 (by decide)).trans (frn1 485 (by omega) (by omega) (by omega))))))))
  have hm30 := (zq_SL_at hSL ((fr17 482 (by decide)).trans ((frn13 482 (by omega) (by omega)).trans ((frn7 482 (by omega)).trans ((frn6 482 (by omega)).trans ((fr5 482 (by decide)).trans (frn1 482 (by omega) (by omega) (by omega))))))))
  have hm31 := (zq_RW_at hRW ((fr17 483 (by decide)).trans ((frn13 483 (by omega) (by omega)).trans ((frn7 483 (by omega)).trans ((frn6 483 (by omega)).trans ((fr5 483 (by decide)).trans (frn1 483 (by omega) (by omega) (by omega))))))))
  have hm32 := (zq_J_at hJ ((fr17 468 (by decide)).trans ((frn13 468 (by omega) (by omega)).trans ((frn7 468 (by omega)).trans ((frn6 468 (by omega)).trans ((fr5 468 (by decide)).trans (frn1 468 (by omega) (by omega) (by omega))))))) ((fr17 469 (by decide)).trans ((frn13 469 (by omega) (by omega)).trans ((frn7 469 (by omega)).trans ((frn6 469 (by omega)).trans ((fr5 469 (by decide)).trans (frn1 469 (by omega) (by omega) (by omega))))))) ((fr17 470 (by decide)).trans ((frn13 470 (by omega) (by omega)).trans ((frn7 470 (by omega)).trans ((frn6 470 (by omega)).trans ((fr5 470 (by decide)).trans (frn1 470 (by omega) (by omega) (by omega))))))))
  have hm33 := (zFJ_at hFJ (fun j h1 h2 => ((fr17 j (by omega)).trans ((frn13 j (by omega) (by omega)).trans ((frn7 j (by omega)).trans ((frn6 j (by omega)).trans ((fr5 j (by omega)).trans (frn1 j (by omega) (by omega) (by omega)))))))))
  have hm34 := (zWJ_at hWJ (fun j h1 h2 => ((fr17 j (by omega)).trans ((frn13 j (by omega) (by omega)).trans ((frn7 j (by omega)).trans ((frn6 j (by omega)).trans ((fr5 j (by omega)).trans (frn1 j (by omega) (by omega) (by omega)))))))))
  have hm35 := (zq_OV_at hOV ((fr17 452 (by decide)).trans ((frn13 452 (by omega) (by omega)).trans ((frn7 452 (by omega)).trans ((frn6 452 (by omega)).trans ((fr5 452 (by decide)).trans (frn1 452 (by omega) (by omega) (by omega))))))) ((fr17 453 (by decide)).trans ((frn13 453 (by omega) (by omega)).trans ((frn7 453 (by omega)).trans ((frn6 453 (by omega)).trans ((fr5 453 (by decide)).trans (frn1 453 (by omega) (by omega) (by omega))))))))
  exact q_retv (v := (0, (hm (x * 40 + 1)).1, 0)) rfl rfl (⟨rfl, ⟨by omega, by omega⟩, ⟨by omega, by omega⟩, rfl, ⟨⟨_, _, hs17, (Or.inl hv18)⟩, hm21, hm22, hm23, hm24, ⟨_, ⟨_, _, _, _, _, _, _, _, _, _, hm25⟩, (fun i hi => by rw [x_s_ne (by omega), x_s_ne (by omega), x_s_ne (by omega), x_s_ne (by omega)]; exact hco i hi)⟩, ⟨_, _, _, hm26, hm27⟩, hm28, hm29, ⟨_, hm30⟩, hm31, hm32, hm33, hm34, ⟨_, _, hm35, hovn, hovh⟩⟩⟩)
set_option maxHeartbeats 1000000 in
theorem zc_get2_bad {d n sl : Nat} {φ : FH} {tpd : Nat} {tp : Nat → Nat} {lf : Nat} {mi : Nat} {made : Nat} {sv : Nat} {svm : Nat} {comb : Nat → Nat} {hm : Nat → MV} {sc : Nat → Nat} {sm : Nat → MV} {mh : MV} {noted : Nat} {verd : Nat} {ins : Nat → Nat} {ver : Nat → Nat} {sz : Nat} {bw : Nat → Nat} {x : Nat} (hG : zG φ tpd tp lf mi made sv svm comb hm sc sm mh noted verd ins ver sz bw) (hn0 : 486 ≤ n) (hpv : ∀ i, x_pv2 (hm i)) (hmi : mi + 100 ≤ 20000) (hx : x < 1000) (hna : ¬ x_isA made comb x 0) : x_f x_P (d + 4) 26 [(6, 0, 0), (0, x, 0), (0, 2, 0)] φ n sl (x_bR n sl 0 0 (fun zw φ2 => zw = (0, 4294967295, 0) ∧ zG φ2 tpd tp lf mi made sv svm comb hm sc sm mh noted verd ins ver sz bw)) := by
  refine x_f_of rfl ?_
  have hG0 := hG
  obtain ⟨⟨hand, ie, hH, hhw⟩, hB, hTJ, hEJ, hN, hKJ, ⟨A, B, s9, hPS, hLK0⟩, hSP, hV5, ⟨slq, hSL⟩, hRW, hJ, hFJ, hWJ, ⟨ovn, ovh, hOV, hovn, hovh⟩⟩ := hG
  refine x_n_lt (fun hlt0 => ?_)
  have hmade := x_PS_lt hPS
  obtain ⟨co, ⟨top_, fr_, pc_, mm, st, lo, re, rs, fl, se, hKS⟩, hco⟩ := hKJ
  refine q_load (v := (6, 0, 0)) (p2 := 1) rfl rfl rfl rfl ?_
  refine q_getv (v := (6, 7, 0)) (p2 := 2) rfl hH (by decide) rfl rfl ?_
  refine q_load (v := (0, x, 0)) (p2 := 3) rfl rfl rfl rfl ?_
  refine q_load (v := (0, 2, 0)) (p2 := 4) rfl rfl rfl rfl ?_
  refine q_callr (xs := [(0, 2, 0), (0, x, 0), (6, 7, 0)]) (p2 := 5) rfl rfl rfl rfl (x_rcv_s 7 hPS.1.choose_spec.1) rfl (zr_no (e_has_2 hPS.1.choose_spec hPS.2.1 hKS.2.2.2.2.2.2.2.2.2 (by omega)) hna) (Nat.le_refl _) (Nat.le_refl _) rfl ?_
  refine q_if0_s (p2 := 6) rfl (by decide) (by omega) rfl (fun hb => absurd hb (show ¬ (¬ (0 = 0)) by omega)) (fun _ => ?_)
  refine q_const (p2 := 7) rfl rfl ?_
  exact q_retv (v := (0, 4294967295, 0)) rfl rfl (⟨rfl, ⟨by omega, by omega⟩, ⟨by omega, by omega⟩, rfl, ⟨⟨_, _, hH, hhw⟩, hB, hTJ, hEJ, hN, ⟨_, ⟨_, _, _, _, _, _, _, _, _, _, hKS⟩, hco⟩, ⟨_, _, _, hPS, hLK0⟩, hSP, hV5, ⟨_, hSL⟩, hRW, hJ, hFJ, hWJ, ⟨_, _, hOV, hovn, hovh⟩⟩⟩)
set_option maxHeartbeats 1000000 in
theorem zc_get2_0 {d n sl : Nat} {φ : FH} {tpd : Nat} {tp : Nat → Nat} {lf : Nat} {mi : Nat} {made : Nat} {sv : Nat} {svm : Nat} {comb : Nat → Nat} {hm : Nat → MV} {sc : Nat → Nat} {sm : Nat → MV} {mh : MV} {noted : Nat} {verd : Nat} {ins : Nat → Nat} {ver : Nat → Nat} {sz : Nat} {bw : Nat → Nat} {x : Nat} (hG : zG φ tpd tp lf mi made sv svm comb hm sc sm mh noted verd ins ver sz bw) (hn0 : 486 ≤ n) (hpv : ∀ i, x_pv2 (hm i)) (hmi : mi + 100 ≤ 20000) (hx : x < 512) (hisA : x_isA made comb x 0) (hk : hm (x * 40 + 0) = MV0) : x_f x_P (d + 8) 26 [(6, 0, 0), (0, x, 0), (0, 2, 0)] φ n sl (x_bR n sl 3 21 (fun zw φ2 => zw = (0, 0, 0) ∧ zG φ2 tpd tp lf (mi + 3) made sv svm comb hm sc sm MV0 noted verd ins ver sz bw)) := by
  refine x_f_of rfl ?_
  have hG0 := hG
  obtain ⟨⟨hand, ie, hH, hhw⟩, hB, hTJ, hEJ, hN, hKJ, ⟨A, B, s9, hPS, hLK0⟩, hSP, hV5, ⟨slq, hSL⟩, hRW, hJ, hFJ, hWJ, ⟨ovn, ovh, hOV, hovn, hovh⟩⟩ := hG
  refine x_n_lt (fun hlt0 => ?_)
  have hmade := x_PS_lt hPS
  obtain ⟨co, ⟨top_, fr_, pc_, mm, st, lo, re, rs, fl, se, hKS⟩, hco⟩ := hKJ
  refine q_load (v := (6, 0, 0)) (p2 := 1) rfl rfl rfl rfl ?_
  refine q_getv (v := (6, 7, 0)) (p2 := 2) rfl hH (by decide) rfl rfl ?_
  refine q_load (v := (0, x, 0)) (p2 := 3) rfl rfl rfl rfl ?_
  refine q_load (v := (0, 2, 0)) (p2 := 4) rfl rfl rfl rfl ?_
  refine q_callr (xs := [(0, 2, 0), (0, x, 0), (6, 7, 0)]) (p2 := 5) rfl rfl rfl rfl (x_rcv_s 7 hPS.1.choose_spec.1) rfl (x_r_yes (e_has_2 hPS.1.choose_spec hPS.2.1 hKS.2.2.2.2.2.2.2.2.2 (by omega)) hisA) (Nat.le_refl _) (Nat.le_refl _) rfl ?_
  refine q_if0_s (p2 := 6) rfl (by decide) (by omega) rfl (fun _ => ?_) (fun hb => absurd (show ¬ (1 = 0) by omega) hb)
  refine q_load (v := (6, 0, 0)) (p2 := 9) rfl rfl rfl rfl ?_
  refine q_getv (v := (6, 7, 0)) (p2 := 10) rfl hH (by decide) rfl rfl ?_
  refine q_callvE (xs := [(6, 7, 0)]) (p2 := 11) rfl rfl rfl rfl (x_rcv_s 7 hPS.1.choose_spec.1) rfl (e_prepare hPS hLK0.1 hpv hKS.2.2.2.2.2.2.2.2.2) (Nat.le_refl _) (Nat.le_refl _) rfl (fun φ1 hR1 => ?_)
  obtain ⟨A1, B1, hPS1, hLK1, frn1⟩ := hR1
  have hAB1 := x_pop_AB hPS1.1.choose_spec
  obtain ⟨lik1, lb1, hL1, hLb1, hlk1⟩ := id hLK1
  refine x_n_lt (fun hlt2 => ?_)
  have hLKx1 : x_LK φ1 A1 B1 made 0 comb hm ∧ _ := ⟨hLK1, hAB1⟩
  refine q_load (v := (6, 0, 0)) (p2 := 12) rfl rfl rfl rfl ?_
  refine q_load (v := (6, 0, 0)) (p2 := 13) rfl rfl rfl rfl ?_
  have hm3 := (zq_H_at hH (frn1 0 (by omega) (by omega) (by omega)))
  refine q_getv (v := (6, 7, 0)) (p2 := 14) rfl hm3 (by decide) rfl rfl ?_
  refine q_getv (v := (6, 237, 0)) (p2 := 15) rfl hPS1.1.choose_spec.1 (by decide) hPS1.1.choose_spec.2.1 rfl ?_
  refine q_load (v := (0, 2, 0)) (p2 := 16) rfl rfl rfl rfl ?_
  have hm4 := (x_KS_at2 hKS (fun j h1 h2 h3 h4 => (frn1 j (by omega) (by omega) (by omega))))
  refine q_callrE (xs := [(0, 2, 0), (6, 237, 0)]) (p2 := 17) rfl rfl rfl rfl (x_rcv_s 237 hm4.2.2.2.2.2.2.2.2.2.1.choose_spec.1) rfl (zc_s_coa_2 hm4.2.2.2.2.2.2.2.2.2 hm4.2.2.2.2.2.2.2.1) (Nat.le_refl _) (Nat.le_refl _) rfl (fun φ5 hR5 => ?_)
  obtain ⟨hs5_0, fr5⟩ := hR5
  have hKc5 := x_KS_co hm4 hs5_0 (fun j h1 h2 h3 => (fr5 j (by omega)))
  refine q_newE (p2 := 18) (len := 7) (g := x_gV) rfl rfl x_gV_ok rfl (fun φ6 hh6 frn6 => ?_)
  refine q_dup (p2 := 19) rfl rfl rfl ?_
  refine q_const (p2 := 20) rfl rfl ?_
  refine q_load (v := (0, x, 0)) (p2 := 21) rfl rfl rfl rfl ?_
  refine q_i2l (p2 := 22) rfl (by omega) rfl ?_
  refine q_callvE (xs := [(2, x, 0), (0, 5, 0), (6, n, 0)]) (p2 := 23) rfl rfl rfl rfl (x_rcv_s n hh6) rfl (e_new2 hh6) (Nat.le_refl _) (Nat.le_refl _) rfl (fun φ7 hR7 => ?_)
  obtain ⟨⟨fv7, hV7, hg7⟩, fr7⟩ := hR7
  have frn7 := fr7
  refine x_n_lt (fun hlt8 => ?_)
  have hz9 := x_mv_lt (x_mv_sc (by omega) (by omega) (by decide) hV7 hg7) hlt8
  have hy9 := (x_mv_sc (by omega) (by omega) (by decide) hV7 hg7).1
  have hm10 := (zq_H_at hm3 ((frn7 0 (by omega)).trans ((frn6 0 (by omega)).trans (fr5 0 (by decide)))))
  refine q_callK (xs := [(6, n, 0), (0, 60, 0), (6, 0, 0)]) (p2 := 24) rfl rfl rfl rfl (x_rcv_s 0 hm10) rfl rfl ?_
  refine x_f_of rfl ?_
  refine q_load (v := (6, 0, 0)) (p2 := 1) rfl rfl rfl rfl ?_
  refine q_getv (v := (6, 455, 0)) (p2 := 2) rfl hm10 (by decide) rfl rfl ?_
  refine q_load (v := (0, 60, 0)) (p2 := 3) rfl rfl rfl rfl ?_
  refine q_load (v := (6, n, 0)) (p2 := 4) rfl rfl rfl rfl ?_
  have hm11 := (x_PS_at hPS1 (fun j hj hne => by have hj2 := x_some_lt hlt2 hne; exact ((frn7 j (by omega)).trans ((frn6 j (by omega)).trans (fr5 j (by omega))))))
  have hm12 := (x_KS_at2 hKc5 (fun j h1 h2 h3 h4 => ((frn7 j (by omega)).trans (frn6 j (by omega)))))
  refine q_callrB (xs := [(6, n, 0), (0, 60, 0), (6, 455, 0)]) (p2 := 5) rfl rfl rfl rfl (x_rcv_s 455 (x_KS_455 hm12)) rfl (zc_run_get2_0 hm11 hm12 (by omega) (by omega) (((x_s_ne (by decide)).trans ((x_s_ne (by decide)).trans ((x_s_ne (by decide)).trans (x_s_eq))))) (((x_s_ne (by decide)).trans ((x_s_ne (by decide)).trans (x_s_eq)))) (((x_s_ne (by decide)).trans (x_s_eq))) ((x_s_eq)) (show (x_s (x_s (x_s (x_s co 60 9) 61 11) 62 2) 63 31) 8 = 1 from (by rw [x_s_ne (by decide), x_s_ne (by decide), x_s_ne (by decide), x_s_ne (by decide)]; exact hco 8 (by decide))) (show (x_s (x_s (x_s (x_s co 60 9) 61 11) 62 2) 63 31) 9 = 2 from (by rw [x_s_ne (by decide), x_s_ne (by decide), x_s_ne (by decide), x_s_ne (by decide)]; exact hco 9 (by decide))) (show (x_s (x_s (x_s (x_s co 60 9) 61 11) 62 2) 63 31) 10 = 9 from (by rw [x_s_ne (by decide), x_s_ne (by decide), x_s_ne (by decide), x_s_ne (by decide)]; exact hco 10 (by decide))) (show (x_s (x_s (x_s (x_s co 60 9) 61 11) 62 2) 63 31) 11 = 11 from (by rw [x_s_ne (by decide), x_s_ne (by decide), x_s_ne (by decide), x_s_ne (by decide)]; exact hco 11 (by decide))) (show (x_s (x_s (x_s (x_s co 60 9) 61 11) 62 2) 63 31) 12 = 0 from (by rw [x_s_ne (by decide), x_s_ne (by decide), x_s_ne (by decide), x_s_ne (by decide)]; exact hco 12 (by decide))) (show (x_s (x_s (x_s (x_s co 60 9) 61 11) 62 2) 63 31) 13 = 1 from (by rw [x_s_ne (by decide), x_s_ne (by decide), x_s_ne (by decide), x_s_ne (by decide)]; exact hco 13 (by decide))) (show (x_s (x_s (x_s (x_s co 60 9) 61 11) 62 2) 63 31) 14 = 1 from (by rw [x_s_ne (by decide), x_s_ne (by decide), x_s_ne (by decide), x_s_ne (by decide)]; exact hco 14 (by decide))) (show (x_s (x_s (x_s (x_s co 60 9) 61 11) 62 2) 63 31) 15 = 3 from (by rw [x_s_ne (by decide), x_s_ne (by decide), x_s_ne (by decide), x_s_ne (by decide)]; exact hco 15 (by decide))) (show (x_s (x_s (x_s (x_s co 60 9) 61 11) 62 2) 63 31) 16 = 2 from (by rw [x_s_ne (by decide), x_s_ne (by decide), x_s_ne (by decide), x_s_ne (by decide)]; exact hco 16 (by decide))) (show (x_s (x_s (x_s (x_s co 60 9) 61 11) 62 2) 63 31) 17 = 13 from (by rw [x_s_ne (by decide), x_s_ne (by decide), x_s_ne (by decide), x_s_ne (by decide)]; exact hco 17 (by decide))) (show (x_s (x_s (x_s (x_s co 60 9) 61 11) 62 2) 63 31) 18 = 71 from (by rw [x_s_ne (by decide), x_s_ne (by decide), x_s_ne (by decide), x_s_ne (by decide)]; exact hco 18 (by decide))) (show (x_s (x_s (x_s (x_s co 60 9) 61 11) 62 2) 63 31) 19 = 31 from (by rw [x_s_ne (by decide), x_s_ne (by decide), x_s_ne (by decide), x_s_ne (by decide)]; exact hco 19 (by decide))) (x_mv_sc (by omega) (by omega) (by decide) hV7 hg7) (by omega) hisA hk) rfl (fun w13 φ13 n13 sl13 hn13 hN13 hs13 hT13 hR13 => ?_)
  obtain ⟨v13, hwv13, ⟨ka13, kb13, kc13, kd13, ke13, kf13, kg13, kh13, ki13, kj13, hK13⟩, hV13, frn13⟩ := hR13
  subst hwv13
  refine x_n_lt (fun hlt14 => ?_)
  have hz15 := x_mv_lt hV13 hlt14
  have hy15 := hV13.1
  refine q_store (loc2 := [(6, 0, 0), (0, 60, 0), (6, n, 0), (6, v13, 0)]) (p2 := 6) rfl rfl rfl rfl rfl ?_
  refine q_load (v := (6, 0, 0)) (p2 := 7) rfl rfl rfl rfl ?_
  have hm16 := (zq_H_at hm10 (frn13 0 (by omega) (by omega)))
  refine q_getv (v := (6, 455, 0)) (p2 := 8) rfl hm16 (by decide) rfl rfl ?_
  refine q_getv (v := (0, 0, 0)) (p2 := 9) rfl (x_KS_455 hK13) (by decide) hK13.1.choose_spec.2.2.2.2.2.2.2.2.2.2.2.2.2.2.2.2.2.1 rfl ?_
  refine q_if0_s (p2 := 10) rfl (by decide) (by omega) rfl (fun _ => ?_) (fun hb => absurd (show 0 = 0 by omega) hb)
  refine q_load (v := (6, 0, 0)) (p2 := 13) rfl rfl rfl rfl ?_
  refine q_load (v := (6, v13, 0)) (p2 := 14) rfl rfl rfl rfl ?_
  refine q_putfE (v := (6, v13, 0)) (p2 := 15) rfl hm16 (by decide) rfl rfl (fun φ17 f17 hh17 hg17 ho17 fr17 => ?_)
  have hs17 := zq_H_put_0_10 hm16 hh17 hg17 ho17 fr17
  refine q_load (v := (6, 0, 0)) (p2 := 16) rfl rfl rfl rfl ?_
  refine q_getv (v := (6, v13, 0)) (p2 := 17) rfl hs17 (by decide) rfl rfl ?_
  refine x_n_lt (fun hlt19 => ?_)
  have hv18 := x_mv_at hV13 (fun j hj hne => by have hj2 := x_some_lt hlt14 hne; exact (fr17 j (by omega)))
  obtain ⟨fV20, hW20, hg20⟩ := x_mv_gS hv18 (by decide)
  have hl20 := hlt19 _ _ hW20
  have h6_20 := hv18.1
  refine q_getv (v := (0, 0, 0)) (p2 := 18) rfl hW20 (by decide) hg20.1 rfl ?_
  refine q_retv (v := (0, 0, 0)) rfl rfl ⟨rfl, by omega, by omega, ?_⟩
  have hm21 := (zq_tp_at hB ((fr17 1 (by decide)).trans ((frn13 1 (by omega) (by omega)).trans ((frn7 1 (by omega)).trans ((frn6 1 (by omega)).trans ((fr5 1 (by decide)).trans (frn1 1 (by omega) (by omega) (by omega))))))))
  have hm22 := (zTJ_at hTJ (fun j h1 h2 => ((fr17 j (by omega)).trans ((frn13 j (by omega) (by omega)).trans ((frn7 j (by omega)).trans ((frn6 j (by omega)).trans ((fr5 j (by omega)).trans (frn1 j (by omega) (by omega) (by omega)))))))))
  have hm23 := (zEJ_at hEJ (fun j h1 h2 => ((fr17 j (by omega)).trans ((frn13 j (by omega) (by omega)).trans ((frn7 j (by omega)).trans ((frn6 j (by omega)).trans ((fr5 j (by omega)).trans (frn1 j (by omega) (by omega) (by omega)))))))))
  have hm24 := (zq_nm_at hN ((fr17 239 (by decide)).trans ((frn13 239 (by omega) (by omega)).trans ((frn7 239 (by omega)).trans ((frn6 239 (by omega)).trans ((fr5 239 (by decide)).trans (frn1 239 (by omega) (by omega) (by omega))))))) ((fr17 242 (by decide)).trans ((frn13 242 (by omega) (by omega)).trans ((frn7 242 (by omega)).trans ((frn6 242 (by omega)).trans ((fr5 242 (by decide)).trans (frn1 242 (by omega) (by omega) (by omega))))))) ((fr17 244 (by decide)).trans ((frn13 244 (by omega) (by omega)).trans ((frn7 244 (by omega)).trans ((frn6 244 (by omega)).trans ((fr5 244 (by decide)).trans (frn1 244 (by omega) (by omega) (by omega))))))))
  have hm25 := (x_KS_at2 hK13 (fun j h1 h2 h3 h4 => (fr17 j (by omega))))
  have hm26 := (x_PS_at hm11 (fun j hj hne => by have hj2 := x_some_lt hlt8 hne; exact ((fr17 j (by omega)).trans (frn13 j (by omega) (by omega)))))
  have hm27 := (x_LK_at2 hLKx1 (fun j h1 h2 => ((fr17 j (by omega)).trans ((frn13 j (by omega) (by omega)).trans ((frn7 j (by omega)).trans ((frn6 j (by omega)).trans (fr5 j (by omega))))))))
  have hm28 := (x_SP_at hSP (fun j hj hne => by have hj2 := x_some_lt hlt0 hne; exact ((fr17 j (by omega)).trans ((frn13 j (by omega) (by omega)).trans ((frn7 j (by omega)).trans ((frn6 j (by omega)).trans ((fr5 j (by omega)).trans (frn1 j (by omega) (by omega) (by omega)))))))))
  have hm29 := (zq_V5_at hV5 ((fr17 485 (by decide)).trans ((frn13 485 (by omega) (by omega)).trans ((frn7 485 (by omega)).trans ((frn6 485 (by omega)).trans ((fr5 485 (by decide)).trans (frn1 485 (by omega) (by omega) (by omega))))))))
  have hm30 := (zq_SL_at hSL ((fr17 482 (by decide)).trans ((frn13 482 (by omega) (by omega)).trans ((frn7 482 (by omega)).trans ((frn6 482 (by omega)).trans ((fr5 482 (by decide)).trans (frn1 482 (by omega) (by omega) (by omega))))))))
  have hm31 := (zq_RW_at hRW ((fr17 483 (by decide)).trans ((frn13 483 (by omega) (by omega)).trans ((frn7 483 (by omega)).trans ((frn6 483 (by omega)).trans ((fr5 483 (by decide)).trans (frn1 483 (by omega) (by omega) (by omega))))))))
  have hm32 := (zq_J_at hJ ((fr17 468 (by decide)).trans ((frn13 468 (by omega) (by omega)).trans ((frn7 468 (by omega)).trans ((frn6 468 (by omega)).trans ((fr5 468 (by decide)).trans (frn1 468 (by omega) (by omega) (by omega))))))) ((fr17 469 (by decide)).trans ((frn13 469 (by omega) (by omega)).trans ((frn7 469 (by omega)).trans ((frn6 469 (by omega)).trans ((fr5 469 (by decide)).trans (frn1 469 (by omega) (by omega) (by omega))))))) ((fr17 470 (by decide)).trans ((frn13 470 (by omega) (by omega)).trans ((frn7 470 (by omega)).trans ((frn6 470 (by omega)).trans ((fr5 470 (by decide)).trans (frn1 470 (by omega) (by omega) (by omega))))))))
  have hm33 := (zFJ_at hFJ (fun j h1 h2 => ((fr17 j (by omega)).trans ((frn13 j (by omega) (by omega)).trans ((frn7 j (by omega)).trans ((frn6 j (by omega)).trans ((fr5 j (by omega)).trans (frn1 j (by omega) (by omega) (by omega)))))))))
  have hm34 := (zWJ_at hWJ (fun j h1 h2 => ((fr17 j (by omega)).trans ((frn13 j (by omega) (by omega)).trans ((frn7 j (by omega)).trans ((frn6 j (by omega)).trans ((fr5 j (by omega)).trans (frn1 j (by omega) (by omega) (by omega)))))))))
  have hm35 := (zq_OV_at hOV ((fr17 452 (by decide)).trans ((frn13 452 (by omega) (by omega)).trans ((frn7 452 (by omega)).trans ((frn6 452 (by omega)).trans ((fr5 452 (by decide)).trans (frn1 452 (by omega) (by omega) (by omega))))))) ((fr17 453 (by decide)).trans ((frn13 453 (by omega) (by omega)).trans ((frn7 453 (by omega)).trans ((frn6 453 (by omega)).trans ((fr5 453 (by decide)).trans (frn1 453 (by omega) (by omega) (by omega))))))))
  exact q_retv (v := (0, 0, 0)) rfl rfl (⟨rfl, ⟨by omega, by omega⟩, ⟨by omega, by omega⟩, rfl, ⟨⟨_, _, hs17, (Or.inl hv18)⟩, hm21, hm22, hm23, hm24, ⟨_, ⟨_, _, _, _, _, _, _, _, _, _, hm25⟩, (fun i hi => by rw [x_s_ne (by omega), x_s_ne (by omega), x_s_ne (by omega), x_s_ne (by omega)]; exact hco i hi)⟩, ⟨_, _, _, hm26, hm27⟩, hm28, hm29, ⟨_, hm30⟩, hm31, hm32, hm33, hm34, ⟨_, _, hm35, hovn, hovh⟩⟩⟩)
set_option maxHeartbeats 1000000 in
theorem zc_get2_1 {d n sl : Nat} {φ : FH} {tpd : Nat} {tp : Nat → Nat} {lf : Nat} {mi : Nat} {made : Nat} {sv : Nat} {svm : Nat} {comb : Nat → Nat} {hm : Nat → MV} {sc : Nat → Nat} {sm : Nat → MV} {mh : MV} {noted : Nat} {verd : Nat} {ins : Nat → Nat} {ver : Nat → Nat} {sz : Nat} {bw : Nat → Nat} {x kk : Nat} (hG : zG φ tpd tp lf mi made sv svm comb hm sc sm mh noted verd ins ver sz bw) (hn0 : 486 ≤ n) (hpv : ∀ i, x_pv2 (hm i)) (hmi : mi + 100 ≤ 20000) (hx : x < 512) (hisA : x_isA made comb x 0) (hk : hm (x * 40 + 0) = (1, kk, 0, 0, [])) (hkk : kk < 1024) : x_f x_P (d + 8) 26 [(6, 0, 0), (0, x, 0), (0, 2, 0)] φ n sl (x_bR n sl 3 21 (fun zw φ2 => zw = (0, 1, 0) ∧ zG φ2 tpd tp lf (mi + 3) made sv svm comb hm sc sm (1, kk * 2, 0, 0, []) noted verd ins ver sz bw)) := by
  refine x_f_of rfl ?_
  have hG0 := hG
  obtain ⟨⟨hand, ie, hH, hhw⟩, hB, hTJ, hEJ, hN, hKJ, ⟨A, B, s9, hPS, hLK0⟩, hSP, hV5, ⟨slq, hSL⟩, hRW, hJ, hFJ, hWJ, ⟨ovn, ovh, hOV, hovn, hovh⟩⟩ := hG
  refine x_n_lt (fun hlt0 => ?_)
  have hmade := x_PS_lt hPS
  obtain ⟨co, ⟨top_, fr_, pc_, mm, st, lo, re, rs, fl, se, hKS⟩, hco⟩ := hKJ
  refine q_load (v := (6, 0, 0)) (p2 := 1) rfl rfl rfl rfl ?_
  refine q_getv (v := (6, 7, 0)) (p2 := 2) rfl hH (by decide) rfl rfl ?_
  refine q_load (v := (0, x, 0)) (p2 := 3) rfl rfl rfl rfl ?_
  refine q_load (v := (0, 2, 0)) (p2 := 4) rfl rfl rfl rfl ?_
  refine q_callr (xs := [(0, 2, 0), (0, x, 0), (6, 7, 0)]) (p2 := 5) rfl rfl rfl rfl (x_rcv_s 7 hPS.1.choose_spec.1) rfl (x_r_yes (e_has_2 hPS.1.choose_spec hPS.2.1 hKS.2.2.2.2.2.2.2.2.2 (by omega)) hisA) (Nat.le_refl _) (Nat.le_refl _) rfl ?_
  refine q_if0_s (p2 := 6) rfl (by decide) (by omega) rfl (fun _ => ?_) (fun hb => absurd (show ¬ (1 = 0) by omega) hb)
  refine q_load (v := (6, 0, 0)) (p2 := 9) rfl rfl rfl rfl ?_
  refine q_getv (v := (6, 7, 0)) (p2 := 10) rfl hH (by decide) rfl rfl ?_
  refine q_callvE (xs := [(6, 7, 0)]) (p2 := 11) rfl rfl rfl rfl (x_rcv_s 7 hPS.1.choose_spec.1) rfl (e_prepare hPS hLK0.1 hpv hKS.2.2.2.2.2.2.2.2.2) (Nat.le_refl _) (Nat.le_refl _) rfl (fun φ1 hR1 => ?_)
  obtain ⟨A1, B1, hPS1, hLK1, frn1⟩ := hR1
  have hAB1 := x_pop_AB hPS1.1.choose_spec
  obtain ⟨lik1, lb1, hL1, hLb1, hlk1⟩ := id hLK1
  refine x_n_lt (fun hlt2 => ?_)
  have hLKx1 : x_LK φ1 A1 B1 made 0 comb hm ∧ _ := ⟨hLK1, hAB1⟩
  refine q_load (v := (6, 0, 0)) (p2 := 12) rfl rfl rfl rfl ?_
  refine q_load (v := (6, 0, 0)) (p2 := 13) rfl rfl rfl rfl ?_
  have hm3 := (zq_H_at hH (frn1 0 (by omega) (by omega) (by omega)))
  refine q_getv (v := (6, 7, 0)) (p2 := 14) rfl hm3 (by decide) rfl rfl ?_
  refine q_getv (v := (6, 237, 0)) (p2 := 15) rfl hPS1.1.choose_spec.1 (by decide) hPS1.1.choose_spec.2.1 rfl ?_
  refine q_load (v := (0, 2, 0)) (p2 := 16) rfl rfl rfl rfl ?_
  have hm4 := (x_KS_at2 hKS (fun j h1 h2 h3 h4 => (frn1 j (by omega) (by omega) (by omega))))
  refine q_callrE (xs := [(0, 2, 0), (6, 237, 0)]) (p2 := 17) rfl rfl rfl rfl (x_rcv_s 237 hm4.2.2.2.2.2.2.2.2.2.1.choose_spec.1) rfl (zc_s_coa_2 hm4.2.2.2.2.2.2.2.2.2 hm4.2.2.2.2.2.2.2.1) (Nat.le_refl _) (Nat.le_refl _) rfl (fun φ5 hR5 => ?_)
  obtain ⟨hs5_0, fr5⟩ := hR5
  have hKc5 := x_KS_co hm4 hs5_0 (fun j h1 h2 h3 => (fr5 j (by omega)))
  refine q_newE (p2 := 18) (len := 7) (g := x_gV) rfl rfl x_gV_ok rfl (fun φ6 hh6 frn6 => ?_)
  refine q_dup (p2 := 19) rfl rfl rfl ?_
  refine q_const (p2 := 20) rfl rfl ?_
  refine q_load (v := (0, x, 0)) (p2 := 21) rfl rfl rfl rfl ?_
  refine q_i2l (p2 := 22) rfl (by omega) rfl ?_
  refine q_callvE (xs := [(2, x, 0), (0, 5, 0), (6, n, 0)]) (p2 := 23) rfl rfl rfl rfl (x_rcv_s n hh6) rfl (e_new2 hh6) (Nat.le_refl _) (Nat.le_refl _) rfl (fun φ7 hR7 => ?_)
  obtain ⟨⟨fv7, hV7, hg7⟩, fr7⟩ := hR7
  have frn7 := fr7
  refine x_n_lt (fun hlt8 => ?_)
  have hz9 := x_mv_lt (x_mv_sc (by omega) (by omega) (by decide) hV7 hg7) hlt8
  have hy9 := (x_mv_sc (by omega) (by omega) (by decide) hV7 hg7).1
  have hm10 := (zq_H_at hm3 ((frn7 0 (by omega)).trans ((frn6 0 (by omega)).trans (fr5 0 (by decide)))))
  refine q_callK (xs := [(6, n, 0), (0, 60, 0), (6, 0, 0)]) (p2 := 24) rfl rfl rfl rfl (x_rcv_s 0 hm10) rfl rfl ?_
  refine x_f_of rfl ?_
  refine q_load (v := (6, 0, 0)) (p2 := 1) rfl rfl rfl rfl ?_
  refine q_getv (v := (6, 455, 0)) (p2 := 2) rfl hm10 (by decide) rfl rfl ?_
  refine q_load (v := (0, 60, 0)) (p2 := 3) rfl rfl rfl rfl ?_
  refine q_load (v := (6, n, 0)) (p2 := 4) rfl rfl rfl rfl ?_
  have hm11 := (x_PS_at hPS1 (fun j hj hne => by have hj2 := x_some_lt hlt2 hne; exact ((frn7 j (by omega)).trans ((frn6 j (by omega)).trans (fr5 j (by omega))))))
  have hm12 := (x_KS_at2 hKc5 (fun j h1 h2 h3 h4 => ((frn7 j (by omega)).trans (frn6 j (by omega)))))
  refine q_callrB (xs := [(6, n, 0), (0, 60, 0), (6, 455, 0)]) (p2 := 5) rfl rfl rfl rfl (x_rcv_s 455 (x_KS_455 hm12)) rfl (zc_run_get2_1 hm11 hm12 (by omega) (by omega) (((x_s_ne (by decide)).trans ((x_s_ne (by decide)).trans ((x_s_ne (by decide)).trans (x_s_eq))))) (((x_s_ne (by decide)).trans ((x_s_ne (by decide)).trans (x_s_eq)))) (((x_s_ne (by decide)).trans (x_s_eq))) ((x_s_eq)) (show (x_s (x_s (x_s (x_s co 60 9) 61 11) 62 2) 63 31) 8 = 1 from (by rw [x_s_ne (by decide), x_s_ne (by decide), x_s_ne (by decide), x_s_ne (by decide)]; exact hco 8 (by decide))) (show (x_s (x_s (x_s (x_s co 60 9) 61 11) 62 2) 63 31) 9 = 2 from (by rw [x_s_ne (by decide), x_s_ne (by decide), x_s_ne (by decide), x_s_ne (by decide)]; exact hco 9 (by decide))) (show (x_s (x_s (x_s (x_s co 60 9) 61 11) 62 2) 63 31) 10 = 9 from (by rw [x_s_ne (by decide), x_s_ne (by decide), x_s_ne (by decide), x_s_ne (by decide)]; exact hco 10 (by decide))) (show (x_s (x_s (x_s (x_s co 60 9) 61 11) 62 2) 63 31) 11 = 11 from (by rw [x_s_ne (by decide), x_s_ne (by decide), x_s_ne (by decide), x_s_ne (by decide)]; exact hco 11 (by decide))) (show (x_s (x_s (x_s (x_s co 60 9) 61 11) 62 2) 63 31) 12 = 0 from (by rw [x_s_ne (by decide), x_s_ne (by decide), x_s_ne (by decide), x_s_ne (by decide)]; exact hco 12 (by decide))) (show (x_s (x_s (x_s (x_s co 60 9) 61 11) 62 2) 63 31) 13 = 1 from (by rw [x_s_ne (by decide), x_s_ne (by decide), x_s_ne (by decide), x_s_ne (by decide)]; exact hco 13 (by decide))) (show (x_s (x_s (x_s (x_s co 60 9) 61 11) 62 2) 63 31) 14 = 1 from (by rw [x_s_ne (by decide), x_s_ne (by decide), x_s_ne (by decide), x_s_ne (by decide)]; exact hco 14 (by decide))) (show (x_s (x_s (x_s (x_s co 60 9) 61 11) 62 2) 63 31) 15 = 3 from (by rw [x_s_ne (by decide), x_s_ne (by decide), x_s_ne (by decide), x_s_ne (by decide)]; exact hco 15 (by decide))) (show (x_s (x_s (x_s (x_s co 60 9) 61 11) 62 2) 63 31) 16 = 2 from (by rw [x_s_ne (by decide), x_s_ne (by decide), x_s_ne (by decide), x_s_ne (by decide)]; exact hco 16 (by decide))) (show (x_s (x_s (x_s (x_s co 60 9) 61 11) 62 2) 63 31) 17 = 13 from (by rw [x_s_ne (by decide), x_s_ne (by decide), x_s_ne (by decide), x_s_ne (by decide)]; exact hco 17 (by decide))) (show (x_s (x_s (x_s (x_s co 60 9) 61 11) 62 2) 63 31) 18 = 71 from (by rw [x_s_ne (by decide), x_s_ne (by decide), x_s_ne (by decide), x_s_ne (by decide)]; exact hco 18 (by decide))) (show (x_s (x_s (x_s (x_s co 60 9) 61 11) 62 2) 63 31) 19 = 31 from (by rw [x_s_ne (by decide), x_s_ne (by decide), x_s_ne (by decide), x_s_ne (by decide)]; exact hco 19 (by decide))) (x_mv_sc (by omega) (by omega) (by decide) hV7 hg7) (by omega) hisA hk (by omega)) rfl (fun w13 φ13 n13 sl13 hn13 hN13 hs13 hT13 hR13 => ?_)
  obtain ⟨v13, hwv13, ⟨ka13, kb13, kc13, kd13, ke13, kf13, kg13, kh13, ki13, kj13, hK13⟩, hV13, frn13⟩ := hR13
  subst hwv13
  refine x_n_lt (fun hlt14 => ?_)
  have hz15 := x_mv_lt hV13 hlt14
  have hy15 := hV13.1
  refine q_store (loc2 := [(6, 0, 0), (0, 60, 0), (6, n, 0), (6, v13, 0)]) (p2 := 6) rfl rfl rfl rfl rfl ?_
  refine q_load (v := (6, 0, 0)) (p2 := 7) rfl rfl rfl rfl ?_
  have hm16 := (zq_H_at hm10 (frn13 0 (by omega) (by omega)))
  refine q_getv (v := (6, 455, 0)) (p2 := 8) rfl hm16 (by decide) rfl rfl ?_
  refine q_getv (v := (0, 0, 0)) (p2 := 9) rfl (x_KS_455 hK13) (by decide) hK13.1.choose_spec.2.2.2.2.2.2.2.2.2.2.2.2.2.2.2.2.2.1 rfl ?_
  refine q_if0_s (p2 := 10) rfl (by decide) (by omega) rfl (fun _ => ?_) (fun hb => absurd (show 0 = 0 by omega) hb)
  refine q_load (v := (6, 0, 0)) (p2 := 13) rfl rfl rfl rfl ?_
  refine q_load (v := (6, v13, 0)) (p2 := 14) rfl rfl rfl rfl ?_
  refine q_putfE (v := (6, v13, 0)) (p2 := 15) rfl hm16 (by decide) rfl rfl (fun φ17 f17 hh17 hg17 ho17 fr17 => ?_)
  have hs17 := zq_H_put_0_10 hm16 hh17 hg17 ho17 fr17
  refine q_load (v := (6, 0, 0)) (p2 := 16) rfl rfl rfl rfl ?_
  refine q_getv (v := (6, v13, 0)) (p2 := 17) rfl hs17 (by decide) rfl rfl ?_
  refine x_n_lt (fun hlt19 => ?_)
  have hv18 := x_mv_at hV13 (fun j hj hne => by have hj2 := x_some_lt hlt14 hne; exact (fr17 j (by omega)))
  obtain ⟨fV20, hW20, hg20⟩ := x_mv_gS hv18 (by decide)
  have hl20 := hlt19 _ _ hW20
  have h6_20 := hv18.1
  refine q_getv (v := (0, 1, 0)) (p2 := 18) rfl hW20 (by decide) hg20.1 rfl ?_
  refine q_retv (v := (0, 1, 0)) rfl rfl ⟨rfl, by omega, by omega, ?_⟩
  have hm21 := (zq_tp_at hB ((fr17 1 (by decide)).trans ((frn13 1 (by omega) (by omega)).trans ((frn7 1 (by omega)).trans ((frn6 1 (by omega)).trans ((fr5 1 (by decide)).trans (frn1 1 (by omega) (by omega) (by omega))))))))
  have hm22 := (zTJ_at hTJ (fun j h1 h2 => ((fr17 j (by omega)).trans ((frn13 j (by omega) (by omega)).trans ((frn7 j (by omega)).trans ((frn6 j (by omega)).trans ((fr5 j (by omega)).trans (frn1 j (by omega) (by omega) (by omega)))))))))
  have hm23 := (zEJ_at hEJ (fun j h1 h2 => ((fr17 j (by omega)).trans ((frn13 j (by omega) (by omega)).trans ((frn7 j (by omega)).trans ((frn6 j (by omega)).trans ((fr5 j (by omega)).trans (frn1 j (by omega) (by omega) (by omega)))))))))
  have hm24 := (zq_nm_at hN ((fr17 239 (by decide)).trans ((frn13 239 (by omega) (by omega)).trans ((frn7 239 (by omega)).trans ((frn6 239 (by omega)).trans ((fr5 239 (by decide)).trans (frn1 239 (by omega) (by omega) (by omega))))))) ((fr17 242 (by decide)).trans ((frn13 242 (by omega) (by omega)).trans ((frn7 242 (by omega)).trans ((frn6 242 (by omega)).trans ((fr5 242 (by decide)).trans (frn1 242 (by omega) (by omega) (by omega))))))) ((fr17 244 (by decide)).trans ((frn13 244 (by omega) (by omega)).trans ((frn7 244 (by omega)).trans ((frn6 244 (by omega)).trans ((fr5 244 (by decide)).trans (frn1 244 (by omega) (by omega) (by omega))))))))
  have hm25 := (x_KS_at2 hK13 (fun j h1 h2 h3 h4 => (fr17 j (by omega))))
  have hm26 := (x_PS_at hm11 (fun j hj hne => by have hj2 := x_some_lt hlt8 hne; exact ((fr17 j (by omega)).trans (frn13 j (by omega) (by omega)))))
  have hm27 := (x_LK_at2 hLKx1 (fun j h1 h2 => ((fr17 j (by omega)).trans ((frn13 j (by omega) (by omega)).trans ((frn7 j (by omega)).trans ((frn6 j (by omega)).trans (fr5 j (by omega))))))))
  have hm28 := (x_SP_at hSP (fun j hj hne => by have hj2 := x_some_lt hlt0 hne; exact ((fr17 j (by omega)).trans ((frn13 j (by omega) (by omega)).trans ((frn7 j (by omega)).trans ((frn6 j (by omega)).trans ((fr5 j (by omega)).trans (frn1 j (by omega) (by omega) (by omega)))))))))
  have hm29 := (zq_V5_at hV5 ((fr17 485 (by decide)).trans ((frn13 485 (by omega) (by omega)).trans ((frn7 485 (by omega)).trans ((frn6 485 (by omega)).trans ((fr5 485 (by decide)).trans (frn1 485 (by omega) (by omega) (by omega))))))))
  have hm30 := (zq_SL_at hSL ((fr17 482 (by decide)).trans ((frn13 482 (by omega) (by omega)).trans ((frn7 482 (by omega)).trans ((frn6 482 (by omega)).trans ((fr5 482 (by decide)).trans (frn1 482 (by omega) (by omega) (by omega))))))))
  have hm31 := (zq_RW_at hRW ((fr17 483 (by decide)).trans ((frn13 483 (by omega) (by omega)).trans ((frn7 483 (by omega)).trans ((frn6 483 (by omega)).trans ((fr5 483 (by decide)).trans (frn1 483 (by omega) (by omega) (by omega))))))))
  have hm32 := (zq_J_at hJ ((fr17 468 (by decide)).trans ((frn13 468 (by omega) (by omega)).trans ((frn7 468 (by omega)).trans ((frn6 468 (by omega)).trans ((fr5 468 (by decide)).trans (frn1 468 (by omega) (by omega) (by omega))))))) ((fr17 469 (by decide)).trans ((frn13 469 (by omega) (by omega)).trans ((frn7 469 (by omega)).trans ((frn6 469 (by omega)).trans ((fr5 469 (by decide)).trans (frn1 469 (by omega) (by omega) (by omega))))))) ((fr17 470 (by decide)).trans ((frn13 470 (by omega) (by omega)).trans ((frn7 470 (by omega)).trans ((frn6 470 (by omega)).trans ((fr5 470 (by decide)).trans (frn1 470 (by omega) (by omega) (by omega))))))))
  have hm33 := (zFJ_at hFJ (fun j h1 h2 => ((fr17 j (by omega)).trans ((frn13 j (by omega) (by omega)).trans ((frn7 j (by omega)).trans ((frn6 j (by omega)).trans ((fr5 j (by omega)).trans (frn1 j (by omega) (by omega) (by omega)))))))))
  have hm34 := (zWJ_at hWJ (fun j h1 h2 => ((fr17 j (by omega)).trans ((frn13 j (by omega) (by omega)).trans ((frn7 j (by omega)).trans ((frn6 j (by omega)).trans ((fr5 j (by omega)).trans (frn1 j (by omega) (by omega) (by omega)))))))))
  have hm35 := (zq_OV_at hOV ((fr17 452 (by decide)).trans ((frn13 452 (by omega) (by omega)).trans ((frn7 452 (by omega)).trans ((frn6 452 (by omega)).trans ((fr5 452 (by decide)).trans (frn1 452 (by omega) (by omega) (by omega))))))) ((fr17 453 (by decide)).trans ((frn13 453 (by omega) (by omega)).trans ((frn7 453 (by omega)).trans ((frn6 453 (by omega)).trans ((fr5 453 (by decide)).trans (frn1 453 (by omega) (by omega) (by omega))))))))
  exact q_retv (v := (0, 1, 0)) rfl rfl (⟨rfl, ⟨by omega, by omega⟩, ⟨by omega, by omega⟩, rfl, ⟨⟨_, _, hs17, (Or.inl hv18)⟩, hm21, hm22, hm23, hm24, ⟨_, ⟨_, _, _, _, _, _, _, _, _, _, hm25⟩, (fun i hi => by rw [x_s_ne (by omega), x_s_ne (by omega), x_s_ne (by omega), x_s_ne (by omega)]; exact hco i hi)⟩, ⟨_, _, _, hm26, hm27⟩, hm28, hm29, ⟨_, hm30⟩, hm31, hm32, hm33, hm34, ⟨_, _, hm35, hovn, hovh⟩⟩⟩)
set_option maxHeartbeats 1000000 in
theorem zc_get3_bad {d n sl : Nat} {φ : FH} {tpd : Nat} {tp : Nat → Nat} {lf : Nat} {mi : Nat} {made : Nat} {sv : Nat} {svm : Nat} {comb : Nat → Nat} {hm : Nat → MV} {sc : Nat → Nat} {sm : Nat → MV} {mh : MV} {noted : Nat} {verd : Nat} {ins : Nat → Nat} {ver : Nat → Nat} {sz : Nat} {bw : Nat → Nat} {x : Nat} (hG : zG φ tpd tp lf mi made sv svm comb hm sc sm mh noted verd ins ver sz bw) (hn0 : 486 ≤ n) (hpv : ∀ i, x_pv2 (hm i)) (hmi : mi + 100 ≤ 20000) (hx : x < 1000) (hna : ¬ x_isA made comb x 1) : x_f x_P (d + 4) 26 [(6, 0, 0), (0, x, 0), (0, 3, 0)] φ n sl (x_bR n sl 0 0 (fun zw φ2 => zw = (0, 4294967295, 0) ∧ zG φ2 tpd tp lf mi made sv svm comb hm sc sm mh noted verd ins ver sz bw)) := by
  refine x_f_of rfl ?_
  have hG0 := hG
  obtain ⟨⟨hand, ie, hH, hhw⟩, hB, hTJ, hEJ, hN, hKJ, ⟨A, B, s9, hPS, hLK0⟩, hSP, hV5, ⟨slq, hSL⟩, hRW, hJ, hFJ, hWJ, ⟨ovn, ovh, hOV, hovn, hovh⟩⟩ := hG
  refine x_n_lt (fun hlt0 => ?_)
  have hmade := x_PS_lt hPS
  obtain ⟨co, ⟨top_, fr_, pc_, mm, st, lo, re, rs, fl, se, hKS⟩, hco⟩ := hKJ
  refine q_load (v := (6, 0, 0)) (p2 := 1) rfl rfl rfl rfl ?_
  refine q_getv (v := (6, 7, 0)) (p2 := 2) rfl hH (by decide) rfl rfl ?_
  refine q_load (v := (0, x, 0)) (p2 := 3) rfl rfl rfl rfl ?_
  refine q_load (v := (0, 3, 0)) (p2 := 4) rfl rfl rfl rfl ?_
  refine q_callr (xs := [(0, 3, 0), (0, x, 0), (6, 7, 0)]) (p2 := 5) rfl rfl rfl rfl (x_rcv_s 7 hPS.1.choose_spec.1) rfl (zr_no (e_has_3 hPS.1.choose_spec hPS.2.1 hKS.2.2.2.2.2.2.2.2.2 (by omega)) hna) (Nat.le_refl _) (Nat.le_refl _) rfl ?_
  refine q_if0_s (p2 := 6) rfl (by decide) (by omega) rfl (fun hb => absurd hb (show ¬ (¬ (0 = 0)) by omega)) (fun _ => ?_)
  refine q_const (p2 := 7) rfl rfl ?_
  exact q_retv (v := (0, 4294967295, 0)) rfl rfl (⟨rfl, ⟨by omega, by omega⟩, ⟨by omega, by omega⟩, rfl, ⟨⟨_, _, hH, hhw⟩, hB, hTJ, hEJ, hN, ⟨_, ⟨_, _, _, _, _, _, _, _, _, _, hKS⟩, hco⟩, ⟨_, _, _, hPS, hLK0⟩, hSP, hV5, ⟨_, hSL⟩, hRW, hJ, hFJ, hWJ, ⟨_, _, hOV, hovn, hovh⟩⟩⟩)
set_option maxHeartbeats 1000000 in
theorem zc_get3 {d n sl : Nat} {φ : FH} {tpd : Nat} {tp : Nat → Nat} {lf : Nat} {mi : Nat} {made : Nat} {sv : Nat} {svm : Nat} {comb : Nat → Nat} {hm : Nat → MV} {sc : Nat → Nat} {sm : Nat → MV} {mh : MV} {noted : Nat} {verd : Nat} {ins : Nat → Nat} {ver : Nat → Nat} {sz : Nat} {bw : Nat → Nat} {x : Nat} (hG : zG φ tpd tp lf mi made sv svm comb hm sc sm mh noted verd ins ver sz bw) (hn0 : 486 ≤ n) (hpv : ∀ i, x_pv2 (hm i)) (hmi : mi + 100 ≤ 20000) (hx : x < 512) (hisA : x_isA made comb x 1) : x_f x_P (d + 8) 26 [(6, 0, 0), (0, x, 0), (0, 3, 0)] φ n sl (x_bR n sl 1 7 (fun zw φ2 => zw = (0, (hm (x * 40 + 3)).1, 0) ∧ zG φ2 tpd tp lf mi made sv svm comb hm sc sm (hm (x * 40 + 3)) noted verd ins ver sz bw)) := by
  refine x_f_of rfl ?_
  have hG0 := hG
  obtain ⟨⟨hand, ie, hH, hhw⟩, hB, hTJ, hEJ, hN, hKJ, ⟨A, B, s9, hPS, hLK0⟩, hSP, hV5, ⟨slq, hSL⟩, hRW, hJ, hFJ, hWJ, ⟨ovn, ovh, hOV, hovn, hovh⟩⟩ := hG
  refine x_n_lt (fun hlt0 => ?_)
  have hmade := x_PS_lt hPS
  obtain ⟨co, ⟨top_, fr_, pc_, mm, st, lo, re, rs, fl, se, hKS⟩, hco⟩ := hKJ
  refine q_load (v := (6, 0, 0)) (p2 := 1) rfl rfl rfl rfl ?_
  refine q_getv (v := (6, 7, 0)) (p2 := 2) rfl hH (by decide) rfl rfl ?_
  refine q_load (v := (0, x, 0)) (p2 := 3) rfl rfl rfl rfl ?_
  refine q_load (v := (0, 3, 0)) (p2 := 4) rfl rfl rfl rfl ?_
  refine q_callr (xs := [(0, 3, 0), (0, x, 0), (6, 7, 0)]) (p2 := 5) rfl rfl rfl rfl (x_rcv_s 7 hPS.1.choose_spec.1) rfl (x_r_yes (e_has_3 hPS.1.choose_spec hPS.2.1 hKS.2.2.2.2.2.2.2.2.2 (by omega)) hisA) (Nat.le_refl _) (Nat.le_refl _) rfl ?_
  refine q_if0_s (p2 := 6) rfl (by decide) (by omega) rfl (fun _ => ?_) (fun hb => absurd (show ¬ (1 = 0) by omega) hb)
  refine q_load (v := (6, 0, 0)) (p2 := 9) rfl rfl rfl rfl ?_
  refine q_getv (v := (6, 7, 0)) (p2 := 10) rfl hH (by decide) rfl rfl ?_
  refine q_callvE (xs := [(6, 7, 0)]) (p2 := 11) rfl rfl rfl rfl (x_rcv_s 7 hPS.1.choose_spec.1) rfl (e_prepare hPS hLK0.1 hpv hKS.2.2.2.2.2.2.2.2.2) (Nat.le_refl _) (Nat.le_refl _) rfl (fun φ1 hR1 => ?_)
  obtain ⟨A1, B1, hPS1, hLK1, frn1⟩ := hR1
  have hAB1 := x_pop_AB hPS1.1.choose_spec
  obtain ⟨lik1, lb1, hL1, hLb1, hlk1⟩ := id hLK1
  refine x_n_lt (fun hlt2 => ?_)
  have hLKx1 : x_LK φ1 A1 B1 made 0 comb hm ∧ _ := ⟨hLK1, hAB1⟩
  refine q_load (v := (6, 0, 0)) (p2 := 12) rfl rfl rfl rfl ?_
  refine q_load (v := (6, 0, 0)) (p2 := 13) rfl rfl rfl rfl ?_
  have hm3 := (zq_H_at hH (frn1 0 (by omega) (by omega) (by omega)))
  refine q_getv (v := (6, 7, 0)) (p2 := 14) rfl hm3 (by decide) rfl rfl ?_
  refine q_getv (v := (6, 237, 0)) (p2 := 15) rfl hPS1.1.choose_spec.1 (by decide) hPS1.1.choose_spec.2.1 rfl ?_
  refine q_load (v := (0, 3, 0)) (p2 := 16) rfl rfl rfl rfl ?_
  have hm4 := (x_KS_at2 hKS (fun j h1 h2 h3 h4 => (frn1 j (by omega) (by omega) (by omega))))
  refine q_callrE (xs := [(0, 3, 0), (6, 237, 0)]) (p2 := 17) rfl rfl rfl rfl (x_rcv_s 237 hm4.2.2.2.2.2.2.2.2.2.1.choose_spec.1) rfl (zc_s_coa_3 hm4.2.2.2.2.2.2.2.2.2 hm4.2.2.2.2.2.2.2.1) (Nat.le_refl _) (Nat.le_refl _) rfl (fun φ5 hR5 => ?_)
  obtain ⟨hs5_0, fr5⟩ := hR5
  have hKc5 := x_KS_co hm4 hs5_0 (fun j h1 h2 h3 => (fr5 j (by omega)))
  refine q_newE (p2 := 18) (len := 7) (g := x_gV) rfl rfl x_gV_ok rfl (fun φ6 hh6 frn6 => ?_)
  refine q_dup (p2 := 19) rfl rfl rfl ?_
  refine q_const (p2 := 20) rfl rfl ?_
  refine q_load (v := (0, x, 0)) (p2 := 21) rfl rfl rfl rfl ?_
  refine q_i2l (p2 := 22) rfl (by omega) rfl ?_
  refine q_callvE (xs := [(2, x, 0), (0, 5, 0), (6, n, 0)]) (p2 := 23) rfl rfl rfl rfl (x_rcv_s n hh6) rfl (e_new2 hh6) (Nat.le_refl _) (Nat.le_refl _) rfl (fun φ7 hR7 => ?_)
  obtain ⟨⟨fv7, hV7, hg7⟩, fr7⟩ := hR7
  have frn7 := fr7
  refine x_n_lt (fun hlt8 => ?_)
  have hz9 := x_mv_lt (x_mv_sc (by omega) (by omega) (by decide) hV7 hg7) hlt8
  have hy9 := (x_mv_sc (by omega) (by omega) (by decide) hV7 hg7).1
  have hm10 := (zq_H_at hm3 ((frn7 0 (by omega)).trans ((frn6 0 (by omega)).trans (fr5 0 (by decide)))))
  refine q_callK (xs := [(6, n, 0), (0, 60, 0), (6, 0, 0)]) (p2 := 24) rfl rfl rfl rfl (x_rcv_s 0 hm10) rfl rfl ?_
  refine x_f_of rfl ?_
  refine q_load (v := (6, 0, 0)) (p2 := 1) rfl rfl rfl rfl ?_
  refine q_getv (v := (6, 455, 0)) (p2 := 2) rfl hm10 (by decide) rfl rfl ?_
  refine q_load (v := (0, 60, 0)) (p2 := 3) rfl rfl rfl rfl ?_
  refine q_load (v := (6, n, 0)) (p2 := 4) rfl rfl rfl rfl ?_
  have hm11 := (x_PS_at hPS1 (fun j hj hne => by have hj2 := x_some_lt hlt2 hne; exact ((frn7 j (by omega)).trans ((frn6 j (by omega)).trans (fr5 j (by omega))))))
  have hm12 := (x_KS_at2 hKc5 (fun j h1 h2 h3 h4 => ((frn7 j (by omega)).trans (frn6 j (by omega)))))
  refine q_callrB (xs := [(6, n, 0), (0, 60, 0), (6, 455, 0)]) (p2 := 5) rfl rfl rfl rfl (x_rcv_s 455 (x_KS_455 hm12)) rfl (zc_run_get3 hm11 hm12 (by omega) (by omega) (((x_s_ne (by decide)).trans ((x_s_ne (by decide)).trans ((x_s_ne (by decide)).trans (x_s_eq))))) (((x_s_ne (by decide)).trans ((x_s_ne (by decide)).trans (x_s_eq)))) (((x_s_ne (by decide)).trans (x_s_eq))) ((x_s_eq)) (x_mv_sc (by omega) (by omega) (by decide) hV7 hg7) (by omega) hisA) rfl (fun w13 φ13 n13 sl13 hn13 hN13 hs13 hT13 hR13 => ?_)
  obtain ⟨v13, hwv13, ⟨ka13, kb13, kc13, kd13, ke13, kf13, kg13, kh13, ki13, kj13, hK13⟩, hV13, frn13⟩ := hR13
  subst hwv13
  refine x_n_lt (fun hlt14 => ?_)
  have hz15 := x_mv_lt hV13 hlt14
  have hy15 := hV13.1
  refine q_store (loc2 := [(6, 0, 0), (0, 60, 0), (6, n, 0), (6, v13, 0)]) (p2 := 6) rfl rfl rfl rfl rfl ?_
  refine q_load (v := (6, 0, 0)) (p2 := 7) rfl rfl rfl rfl ?_
  have hm16 := (zq_H_at hm10 (frn13 0 (by omega) (by omega)))
  refine q_getv (v := (6, 455, 0)) (p2 := 8) rfl hm16 (by decide) rfl rfl ?_
  refine q_getv (v := (0, 0, 0)) (p2 := 9) rfl (x_KS_455 hK13) (by decide) hK13.1.choose_spec.2.2.2.2.2.2.2.2.2.2.2.2.2.2.2.2.2.1 rfl ?_
  refine q_if0_s (p2 := 10) rfl (by decide) (by omega) rfl (fun _ => ?_) (fun hb => absurd (show 0 = 0 by omega) hb)
  refine q_load (v := (6, 0, 0)) (p2 := 13) rfl rfl rfl rfl ?_
  refine q_load (v := (6, v13, 0)) (p2 := 14) rfl rfl rfl rfl ?_
  refine q_putfE (v := (6, v13, 0)) (p2 := 15) rfl hm16 (by decide) rfl rfl (fun φ17 f17 hh17 hg17 ho17 fr17 => ?_)
  have hs17 := zq_H_put_0_10 hm16 hh17 hg17 ho17 fr17
  refine q_load (v := (6, 0, 0)) (p2 := 16) rfl rfl rfl rfl ?_
  refine q_getv (v := (6, v13, 0)) (p2 := 17) rfl hs17 (by decide) rfl rfl ?_
  refine x_n_lt (fun hlt19 => ?_)
  have hv18 := x_mv_at hV13 (fun j hj hne => by have hj2 := x_some_lt hlt14 hne; exact (fr17 j (by omega)))
  obtain ⟨fG20, sG20, lG20, aG20, oG20, cG20, hW20, hg20, hk7_20⟩ := x_mv_g hv18
  have hl20 := hlt19 _ _ hW20
  have h6_20 := hv18.1
  have hbG20 := hv18.2.1
  refine q_getv (v := (0, (hm (x * 40 + 3)).1, 0)) (p2 := 18) rfl hW20 (by decide) hg20.1 rfl ?_
  refine q_retv (v := (0, (hm (x * 40 + 3)).1, 0)) rfl rfl ⟨rfl, by omega, by omega, ?_⟩
  have hm21 := (zq_tp_at hB ((fr17 1 (by decide)).trans ((frn13 1 (by omega) (by omega)).trans ((frn7 1 (by omega)).trans ((frn6 1 (by omega)).trans ((fr5 1 (by decide)).trans (frn1 1 (by omega) (by omega) (by omega))))))))
  have hm22 := (zTJ_at hTJ (fun j h1 h2 => ((fr17 j (by omega)).trans ((frn13 j (by omega) (by omega)).trans ((frn7 j (by omega)).trans ((frn6 j (by omega)).trans ((fr5 j (by omega)).trans (frn1 j (by omega) (by omega) (by omega)))))))))
  have hm23 := (zEJ_at hEJ (fun j h1 h2 => ((fr17 j (by omega)).trans ((frn13 j (by omega) (by omega)).trans ((frn7 j (by omega)).trans ((frn6 j (by omega)).trans ((fr5 j (by omega)).trans (frn1 j (by omega) (by omega) (by omega)))))))))
  have hm24 := (zq_nm_at hN ((fr17 239 (by decide)).trans ((frn13 239 (by omega) (by omega)).trans ((frn7 239 (by omega)).trans ((frn6 239 (by omega)).trans ((fr5 239 (by decide)).trans (frn1 239 (by omega) (by omega) (by omega))))))) ((fr17 242 (by decide)).trans ((frn13 242 (by omega) (by omega)).trans ((frn7 242 (by omega)).trans ((frn6 242 (by omega)).trans ((fr5 242 (by decide)).trans (frn1 242 (by omega) (by omega) (by omega))))))) ((fr17 244 (by decide)).trans ((frn13 244 (by omega) (by omega)).trans ((frn7 244 (by omega)).trans ((frn6 244 (by omega)).trans ((fr5 244 (by decide)).trans (frn1 244 (by omega) (by omega) (by omega))))))))
  have hm25 := (x_KS_at2 hK13 (fun j h1 h2 h3 h4 => (fr17 j (by omega))))
  have hm26 := (x_PS_at hm11 (fun j hj hne => by have hj2 := x_some_lt hlt8 hne; exact ((fr17 j (by omega)).trans (frn13 j (by omega) (by omega)))))
  have hm27 := (x_LK_at2 hLKx1 (fun j h1 h2 => ((fr17 j (by omega)).trans ((frn13 j (by omega) (by omega)).trans ((frn7 j (by omega)).trans ((frn6 j (by omega)).trans (fr5 j (by omega))))))))
  have hm28 := (x_SP_at hSP (fun j hj hne => by have hj2 := x_some_lt hlt0 hne; exact ((fr17 j (by omega)).trans ((frn13 j (by omega) (by omega)).trans ((frn7 j (by omega)).trans ((frn6 j (by omega)).trans ((fr5 j (by omega)).trans (frn1 j (by omega) (by omega) (by omega)))))))))
  have hm29 := (zq_V5_at hV5 ((fr17 485 (by decide)).trans ((frn13 485 (by omega) (by omega)).trans ((frn7 485 (by omega)).trans ((frn6 485 (by omega)).trans ((fr5 485 (by decide)).trans (frn1 485 (by omega) (by omega) (by omega))))))))
  have hm30 := (zq_SL_at hSL ((fr17 482 (by decide)).trans ((frn13 482 (by omega) (by omega)).trans ((frn7 482 (by omega)).trans ((frn6 482 (by omega)).trans ((fr5 482 (by decide)).trans (frn1 482 (by omega) (by omega) (by omega))))))))
  have hm31 := (zq_RW_at hRW ((fr17 483 (by decide)).trans ((frn13 483 (by omega) (by omega)).trans ((frn7 483 (by omega)).trans ((frn6 483 (by omega)).trans ((fr5 483 (by decide)).trans (frn1 483 (by omega) (by omega) (by omega))))))))
  have hm32 := (zq_J_at hJ ((fr17 468 (by decide)).trans ((frn13 468 (by omega) (by omega)).trans ((frn7 468 (by omega)).trans ((frn6 468 (by omega)).trans ((fr5 468 (by decide)).trans (frn1 468 (by omega) (by omega) (by omega))))))) ((fr17 469 (by decide)).trans ((frn13 469 (by omega) (by omega)).trans ((frn7 469 (by omega)).trans ((frn6 469 (by omega)).trans ((fr5 469 (by decide)).trans (frn1 469 (by omega) (by omega) (by omega))))))) ((fr17 470 (by decide)).trans ((frn13 470 (by omega) (by omega)).trans ((frn7 470 (by omega)).trans ((frn6 470 (by omega)).trans ((fr5 470 (by decide)).trans (frn1 470 (by omega) (by omega) (by omega))))))))
  have hm33 := (zFJ_at hFJ (fun j h1 h2 => ((fr17 j (by omega)).trans ((frn13 j (by omega) (by omega)).trans ((frn7 j (by omega)).trans ((frn6 j (by omega)).trans ((fr5 j (by omega)).trans (frn1 j (by omega) (by omega) (by omega)))))))))
  have hm34 := (zWJ_at hWJ (fun j h1 h2 => ((fr17 j (by omega)).trans ((frn13 j (by omega) (by omega)).trans ((frn7 j (by omega)).trans ((frn6 j (by omega)).trans ((fr5 j (by omega)).trans (frn1 j (by omega) (by omega) (by omega)))))))))
  have hm35 := (zq_OV_at hOV ((fr17 452 (by decide)).trans ((frn13 452 (by omega) (by omega)).trans ((frn7 452 (by omega)).trans ((frn6 452 (by omega)).trans ((fr5 452 (by decide)).trans (frn1 452 (by omega) (by omega) (by omega))))))) ((fr17 453 (by decide)).trans ((frn13 453 (by omega) (by omega)).trans ((frn7 453 (by omega)).trans ((frn6 453 (by omega)).trans ((fr5 453 (by decide)).trans (frn1 453 (by omega) (by omega) (by omega))))))))
  exact q_retv (v := (0, (hm (x * 40 + 3)).1, 0)) rfl rfl (⟨rfl, ⟨by omega, by omega⟩, ⟨by omega, by omega⟩, rfl, ⟨⟨_, _, hs17, (Or.inl hv18)⟩, hm21, hm22, hm23, hm24, ⟨_, ⟨_, _, _, _, _, _, _, _, _, _, hm25⟩, (fun i hi => by rw [x_s_ne (by omega), x_s_ne (by omega), x_s_ne (by omega), x_s_ne (by omega)]; exact hco i hi)⟩, ⟨_, _, _, hm26, hm27⟩, hm28, hm29, ⟨_, hm30⟩, hm31, hm32, hm33, hm34, ⟨_, _, hm35, hovn, hovh⟩⟩⟩)
set_option maxHeartbeats 1000000 in
theorem zc_get4_bad {d n sl : Nat} {φ : FH} {tpd : Nat} {tp : Nat → Nat} {lf : Nat} {mi : Nat} {made : Nat} {sv : Nat} {svm : Nat} {comb : Nat → Nat} {hm : Nat → MV} {sc : Nat → Nat} {sm : Nat → MV} {mh : MV} {noted : Nat} {verd : Nat} {ins : Nat → Nat} {ver : Nat → Nat} {sz : Nat} {bw : Nat → Nat} {x : Nat} (hG : zG φ tpd tp lf mi made sv svm comb hm sc sm mh noted verd ins ver sz bw) (hn0 : 486 ≤ n) (hpv : ∀ i, x_pv2 (hm i)) (hmi : mi + 100 ≤ 20000) (hx : x < 1000) (hna : ¬ x_isA made comb x 2) : x_f x_P (d + 4) 26 [(6, 0, 0), (0, x, 0), (0, 4, 0)] φ n sl (x_bR n sl 0 0 (fun zw φ2 => zw = (0, 4294967295, 0) ∧ zG φ2 tpd tp lf mi made sv svm comb hm sc sm mh noted verd ins ver sz bw)) := by
  refine x_f_of rfl ?_
  have hG0 := hG
  obtain ⟨⟨hand, ie, hH, hhw⟩, hB, hTJ, hEJ, hN, hKJ, ⟨A, B, s9, hPS, hLK0⟩, hSP, hV5, ⟨slq, hSL⟩, hRW, hJ, hFJ, hWJ, ⟨ovn, ovh, hOV, hovn, hovh⟩⟩ := hG
  refine x_n_lt (fun hlt0 => ?_)
  have hmade := x_PS_lt hPS
  obtain ⟨co, ⟨top_, fr_, pc_, mm, st, lo, re, rs, fl, se, hKS⟩, hco⟩ := hKJ
  refine q_load (v := (6, 0, 0)) (p2 := 1) rfl rfl rfl rfl ?_
  refine q_getv (v := (6, 7, 0)) (p2 := 2) rfl hH (by decide) rfl rfl ?_
  refine q_load (v := (0, x, 0)) (p2 := 3) rfl rfl rfl rfl ?_
  refine q_load (v := (0, 4, 0)) (p2 := 4) rfl rfl rfl rfl ?_
  refine q_callr (xs := [(0, 4, 0), (0, x, 0), (6, 7, 0)]) (p2 := 5) rfl rfl rfl rfl (x_rcv_s 7 hPS.1.choose_spec.1) rfl (zr_no (e_has_4 hPS.1.choose_spec hPS.2.1 hKS.2.2.2.2.2.2.2.2.2 (by omega)) hna) (Nat.le_refl _) (Nat.le_refl _) rfl ?_
  refine q_if0_s (p2 := 6) rfl (by decide) (by omega) rfl (fun hb => absurd hb (show ¬ (¬ (0 = 0)) by omega)) (fun _ => ?_)
  refine q_const (p2 := 7) rfl rfl ?_
  exact q_retv (v := (0, 4294967295, 0)) rfl rfl (⟨rfl, ⟨by omega, by omega⟩, ⟨by omega, by omega⟩, rfl, ⟨⟨_, _, hH, hhw⟩, hB, hTJ, hEJ, hN, ⟨_, ⟨_, _, _, _, _, _, _, _, _, _, hKS⟩, hco⟩, ⟨_, _, _, hPS, hLK0⟩, hSP, hV5, ⟨_, hSL⟩, hRW, hJ, hFJ, hWJ, ⟨_, _, hOV, hovn, hovh⟩⟩⟩)
set_option maxHeartbeats 1000000 in
theorem zc_get4 {d n sl : Nat} {φ : FH} {tpd : Nat} {tp : Nat → Nat} {lf : Nat} {mi : Nat} {made : Nat} {sv : Nat} {svm : Nat} {comb : Nat → Nat} {hm : Nat → MV} {sc : Nat → Nat} {sm : Nat → MV} {mh : MV} {noted : Nat} {verd : Nat} {ins : Nat → Nat} {ver : Nat → Nat} {sz : Nat} {bw : Nat → Nat} {x : Nat} (hG : zG φ tpd tp lf mi made sv svm comb hm sc sm mh noted verd ins ver sz bw) (hn0 : 486 ≤ n) (hpv : ∀ i, x_pv2 (hm i)) (hmi : mi + 100 ≤ 20000) (hx : x < 512) (hisA : x_isA made comb x 2) : x_f x_P (d + 8) 26 [(6, 0, 0), (0, x, 0), (0, 4, 0)] φ n sl (x_bR n sl 4 62 (fun zw φ2 => zw = (0, (if (x_fl (fun y => comb y ≠ 0 ∧ x_ho (hm (y * 40 + 3)) x) made).length ≤ 24 then (6, 0, 3, 5, (x_fl (fun y => comb y ≠ 0 ∧ x_ho (hm (y * 40 + 3)) x) made)) else MV0 : MV).1, 0) ∧ zG φ2 tpd tp lf mi made sv svm comb hm sc sm (if (x_fl (fun y => comb y ≠ 0 ∧ x_ho (hm (y * 40 + 3)) x) made).length ≤ 24 then (6, 0, 3, 5, (x_fl (fun y => comb y ≠ 0 ∧ x_ho (hm (y * 40 + 3)) x) made)) else MV0) noted verd ins ver sz bw)) := by
  refine x_f_of rfl ?_
  have hG0 := hG
  obtain ⟨⟨hand, ie, hH, hhw⟩, hB, hTJ, hEJ, hN, hKJ, ⟨A, B, s9, hPS, hLK0⟩, hSP, hV5, ⟨slq, hSL⟩, hRW, hJ, hFJ, hWJ, ⟨ovn, ovh, hOV, hovn, hovh⟩⟩ := hG
  refine x_n_lt (fun hlt0 => ?_)
  have hmade := x_PS_lt hPS
  obtain ⟨co, ⟨top_, fr_, pc_, mm, st, lo, re, rs, fl, se, hKS⟩, hco⟩ := hKJ
  refine q_load (v := (6, 0, 0)) (p2 := 1) rfl rfl rfl rfl ?_
  refine q_getv (v := (6, 7, 0)) (p2 := 2) rfl hH (by decide) rfl rfl ?_
  refine q_load (v := (0, x, 0)) (p2 := 3) rfl rfl rfl rfl ?_
  refine q_load (v := (0, 4, 0)) (p2 := 4) rfl rfl rfl rfl ?_
  refine q_callr (xs := [(0, 4, 0), (0, x, 0), (6, 7, 0)]) (p2 := 5) rfl rfl rfl rfl (x_rcv_s 7 hPS.1.choose_spec.1) rfl (x_r_yes (e_has_4 hPS.1.choose_spec hPS.2.1 hKS.2.2.2.2.2.2.2.2.2 (by omega)) hisA) (Nat.le_refl _) (Nat.le_refl _) rfl ?_
  refine q_if0_s (p2 := 6) rfl (by decide) (by omega) rfl (fun _ => ?_) (fun hb => absurd (show ¬ (1 = 0) by omega) hb)
  refine q_load (v := (6, 0, 0)) (p2 := 9) rfl rfl rfl rfl ?_
  refine q_getv (v := (6, 7, 0)) (p2 := 10) rfl hH (by decide) rfl rfl ?_
  refine q_callvE (xs := [(6, 7, 0)]) (p2 := 11) rfl rfl rfl rfl (x_rcv_s 7 hPS.1.choose_spec.1) rfl (e_prepare hPS hLK0.1 hpv hKS.2.2.2.2.2.2.2.2.2) (Nat.le_refl _) (Nat.le_refl _) rfl (fun φ1 hR1 => ?_)
  obtain ⟨A1, B1, hPS1, hLK1, frn1⟩ := hR1
  have hAB1 := x_pop_AB hPS1.1.choose_spec
  obtain ⟨lik1, lb1, hL1, hLb1, hlk1⟩ := id hLK1
  refine x_n_lt (fun hlt2 => ?_)
  have hLKx1 : x_LK φ1 A1 B1 made 0 comb hm ∧ _ := ⟨hLK1, hAB1⟩
  refine q_load (v := (6, 0, 0)) (p2 := 12) rfl rfl rfl rfl ?_
  refine q_load (v := (6, 0, 0)) (p2 := 13) rfl rfl rfl rfl ?_
  have hm3 := (zq_H_at hH (frn1 0 (by omega) (by omega) (by omega)))
  refine q_getv (v := (6, 7, 0)) (p2 := 14) rfl hm3 (by decide) rfl rfl ?_
  refine q_getv (v := (6, 237, 0)) (p2 := 15) rfl hPS1.1.choose_spec.1 (by decide) hPS1.1.choose_spec.2.1 rfl ?_
  refine q_load (v := (0, 4, 0)) (p2 := 16) rfl rfl rfl rfl ?_
  have hm4 := (x_KS_at2 hKS (fun j h1 h2 h3 h4 => (frn1 j (by omega) (by omega) (by omega))))
  refine q_callrE (xs := [(0, 4, 0), (6, 237, 0)]) (p2 := 17) rfl rfl rfl rfl (x_rcv_s 237 hm4.2.2.2.2.2.2.2.2.2.1.choose_spec.1) rfl (zc_s_coa_4 hm4.2.2.2.2.2.2.2.2.2 hm4.2.2.2.2.2.2.2.1) (Nat.le_refl _) (Nat.le_refl _) rfl (fun φ5 hR5 => ?_)
  obtain ⟨hs5_0, fr5⟩ := hR5
  have hKc5 := x_KS_co hm4 hs5_0 (fun j h1 h2 h3 => (fr5 j (by omega)))
  refine q_newE (p2 := 18) (len := 7) (g := x_gV) rfl rfl x_gV_ok rfl (fun φ6 hh6 frn6 => ?_)
  refine q_dup (p2 := 19) rfl rfl rfl ?_
  refine q_const (p2 := 20) rfl rfl ?_
  refine q_load (v := (0, x, 0)) (p2 := 21) rfl rfl rfl rfl ?_
  refine q_i2l (p2 := 22) rfl (by omega) rfl ?_
  refine q_callvE (xs := [(2, x, 0), (0, 5, 0), (6, n, 0)]) (p2 := 23) rfl rfl rfl rfl (x_rcv_s n hh6) rfl (e_new2 hh6) (Nat.le_refl _) (Nat.le_refl _) rfl (fun φ7 hR7 => ?_)
  obtain ⟨⟨fv7, hV7, hg7⟩, fr7⟩ := hR7
  have frn7 := fr7
  refine x_n_lt (fun hlt8 => ?_)
  have hz9 := x_mv_lt (x_mv_sc (by omega) (by omega) (by decide) hV7 hg7) hlt8
  have hy9 := (x_mv_sc (by omega) (by omega) (by decide) hV7 hg7).1
  have hm10 := (zq_H_at hm3 ((frn7 0 (by omega)).trans ((frn6 0 (by omega)).trans (fr5 0 (by decide)))))
  refine q_callK (xs := [(6, n, 0), (0, 60, 0), (6, 0, 0)]) (p2 := 24) rfl rfl rfl rfl (x_rcv_s 0 hm10) rfl rfl ?_
  refine x_f_of rfl ?_
  refine q_load (v := (6, 0, 0)) (p2 := 1) rfl rfl rfl rfl ?_
  refine q_getv (v := (6, 455, 0)) (p2 := 2) rfl hm10 (by decide) rfl rfl ?_
  refine q_load (v := (0, 60, 0)) (p2 := 3) rfl rfl rfl rfl ?_
  refine q_load (v := (6, n, 0)) (p2 := 4) rfl rfl rfl rfl ?_
  have hm11 := (x_PS_at hPS1 (fun j hj hne => by have hj2 := x_some_lt hlt2 hne; exact ((frn7 j (by omega)).trans ((frn6 j (by omega)).trans (fr5 j (by omega))))))
  have hm12 := (x_KS_at2 hKc5 (fun j h1 h2 h3 h4 => ((frn7 j (by omega)).trans (frn6 j (by omega)))))
  refine q_callrB (xs := [(6, n, 0), (0, 60, 0), (6, 455, 0)]) (p2 := 5) rfl rfl rfl rfl (x_rcv_s 455 (x_KS_455 hm12)) rfl (zc_run_get4 hm11 hm12 (by omega) (by omega) (((x_s_ne (by decide)).trans ((x_s_ne (by decide)).trans ((x_s_ne (by decide)).trans (x_s_eq))))) (((x_s_ne (by decide)).trans ((x_s_ne (by decide)).trans (x_s_eq)))) (((x_s_ne (by decide)).trans (x_s_eq))) ((x_s_eq)) (x_mv_sc (by omega) (by omega) (by decide) hV7 hg7) (by omega) hisA) rfl (fun w13 φ13 n13 sl13 hn13 hN13 hs13 hT13 hR13 => ?_)
  obtain ⟨v13, hwv13, ⟨ka13, kb13, kc13, kd13, ke13, kf13, kg13, kh13, ki13, kj13, hK13⟩, hV13, frn13⟩ := hR13
  subst hwv13
  refine x_n_lt (fun hlt14 => ?_)
  have hz15 := x_mv_lt hV13 hlt14
  have hy15 := hV13.1
  refine q_store (loc2 := [(6, 0, 0), (0, 60, 0), (6, n, 0), (6, v13, 0)]) (p2 := 6) rfl rfl rfl rfl rfl ?_
  refine q_load (v := (6, 0, 0)) (p2 := 7) rfl rfl rfl rfl ?_
  have hm16 := (zq_H_at hm10 (frn13 0 (by omega) (by omega)))
  refine q_getv (v := (6, 455, 0)) (p2 := 8) rfl hm16 (by decide) rfl rfl ?_
  refine q_getv (v := (0, 0, 0)) (p2 := 9) rfl (x_KS_455 hK13) (by decide) hK13.1.choose_spec.2.2.2.2.2.2.2.2.2.2.2.2.2.2.2.2.2.1 rfl ?_
  refine q_if0_s (p2 := 10) rfl (by decide) (by omega) rfl (fun _ => ?_) (fun hb => absurd (show 0 = 0 by omega) hb)
  refine q_load (v := (6, 0, 0)) (p2 := 13) rfl rfl rfl rfl ?_
  refine q_load (v := (6, v13, 0)) (p2 := 14) rfl rfl rfl rfl ?_
  refine q_putfE (v := (6, v13, 0)) (p2 := 15) rfl hm16 (by decide) rfl rfl (fun φ17 f17 hh17 hg17 ho17 fr17 => ?_)
  have hs17 := zq_H_put_0_10 hm16 hh17 hg17 ho17 fr17
  refine q_load (v := (6, 0, 0)) (p2 := 16) rfl rfl rfl rfl ?_
  refine q_getv (v := (6, v13, 0)) (p2 := 17) rfl hs17 (by decide) rfl rfl ?_
  refine x_n_lt (fun hlt19 => ?_)
  have hv18 := x_mv_at hV13 (fun j hj hne => by have hj2 := x_some_lt hlt14 hne; exact (fr17 j (by omega)))
  obtain ⟨fG20, sG20, lG20, aG20, oG20, cG20, hW20, hg20, hk7_20⟩ := x_mv_g hv18
  have hl20 := hlt19 _ _ hW20
  have h6_20 := hv18.1
  have hbG20 := hv18.2.1
  refine q_getv (v := (0, (if (x_fl (fun y => comb y ≠ 0 ∧ x_ho (hm (y * 40 + 3)) x) made).length ≤ 24 then (6, 0, 3, 5, (x_fl (fun y => comb y ≠ 0 ∧ x_ho (hm (y * 40 + 3)) x) made)) else MV0 : MV).1, 0)) (p2 := 18) rfl hW20 (by decide) hg20.1 rfl ?_
  refine q_retv (v := (0, (if (x_fl (fun y => comb y ≠ 0 ∧ x_ho (hm (y * 40 + 3)) x) made).length ≤ 24 then (6, 0, 3, 5, (x_fl (fun y => comb y ≠ 0 ∧ x_ho (hm (y * 40 + 3)) x) made)) else MV0 : MV).1, 0)) rfl rfl ⟨rfl, by omega, by omega, ?_⟩
  have hm21 := (zq_tp_at hB ((fr17 1 (by decide)).trans ((frn13 1 (by omega) (by omega)).trans ((frn7 1 (by omega)).trans ((frn6 1 (by omega)).trans ((fr5 1 (by decide)).trans (frn1 1 (by omega) (by omega) (by omega))))))))
  have hm22 := (zTJ_at hTJ (fun j h1 h2 => ((fr17 j (by omega)).trans ((frn13 j (by omega) (by omega)).trans ((frn7 j (by omega)).trans ((frn6 j (by omega)).trans ((fr5 j (by omega)).trans (frn1 j (by omega) (by omega) (by omega)))))))))
  have hm23 := (zEJ_at hEJ (fun j h1 h2 => ((fr17 j (by omega)).trans ((frn13 j (by omega) (by omega)).trans ((frn7 j (by omega)).trans ((frn6 j (by omega)).trans ((fr5 j (by omega)).trans (frn1 j (by omega) (by omega) (by omega)))))))))
  have hm24 := (zq_nm_at hN ((fr17 239 (by decide)).trans ((frn13 239 (by omega) (by omega)).trans ((frn7 239 (by omega)).trans ((frn6 239 (by omega)).trans ((fr5 239 (by decide)).trans (frn1 239 (by omega) (by omega) (by omega))))))) ((fr17 242 (by decide)).trans ((frn13 242 (by omega) (by omega)).trans ((frn7 242 (by omega)).trans ((frn6 242 (by omega)).trans ((fr5 242 (by decide)).trans (frn1 242 (by omega) (by omega) (by omega))))))) ((fr17 244 (by decide)).trans ((frn13 244 (by omega) (by omega)).trans ((frn7 244 (by omega)).trans ((frn6 244 (by omega)).trans ((fr5 244 (by decide)).trans (frn1 244 (by omega) (by omega) (by omega))))))))
  have hm25 := (x_KS_at2 hK13 (fun j h1 h2 h3 h4 => (fr17 j (by omega))))
  have hm26 := (x_PS_at hm11 (fun j hj hne => by have hj2 := x_some_lt hlt8 hne; exact ((fr17 j (by omega)).trans (frn13 j (by omega) (by omega)))))
  have hm27 := (x_LK_at2 hLKx1 (fun j h1 h2 => ((fr17 j (by omega)).trans ((frn13 j (by omega) (by omega)).trans ((frn7 j (by omega)).trans ((frn6 j (by omega)).trans (fr5 j (by omega))))))))
  have hm28 := (x_SP_at hSP (fun j hj hne => by have hj2 := x_some_lt hlt0 hne; exact ((fr17 j (by omega)).trans ((frn13 j (by omega) (by omega)).trans ((frn7 j (by omega)).trans ((frn6 j (by omega)).trans ((fr5 j (by omega)).trans (frn1 j (by omega) (by omega) (by omega)))))))))
  have hm29 := (zq_V5_at hV5 ((fr17 485 (by decide)).trans ((frn13 485 (by omega) (by omega)).trans ((frn7 485 (by omega)).trans ((frn6 485 (by omega)).trans ((fr5 485 (by decide)).trans (frn1 485 (by omega) (by omega) (by omega))))))))
  have hm30 := (zq_SL_at hSL ((fr17 482 (by decide)).trans ((frn13 482 (by omega) (by omega)).trans ((frn7 482 (by omega)).trans ((frn6 482 (by omega)).trans ((fr5 482 (by decide)).trans (frn1 482 (by omega) (by omega) (by omega))))))))
  have hm31 := (zq_RW_at hRW ((fr17 483 (by decide)).trans ((frn13 483 (by omega) (by omega)).trans ((frn7 483 (by omega)).trans ((frn6 483 (by omega)).trans ((fr5 483 (by decide)).trans (frn1 483 (by omega) (by omega) (by omega))))))))
  have hm32 := (zq_J_at hJ ((fr17 468 (by decide)).trans ((frn13 468 (by omega) (by omega)).trans ((frn7 468 (by omega)).trans ((frn6 468 (by omega)).trans ((fr5 468 (by decide)).trans (frn1 468 (by omega) (by omega) (by omega))))))) ((fr17 469 (by decide)).trans ((frn13 469 (by omega) (by omega)).trans ((frn7 469 (by omega)).trans ((frn6 469 (by omega)).trans ((fr5 469 (by decide)).trans (frn1 469 (by omega) (by omega) (by omega))))))) ((fr17 470 (by decide)).trans ((frn13 470 (by omega) (by omega)).trans ((frn7 470 (by omega)).trans ((frn6 470 (by omega)).trans ((fr5 470 (by decide)).trans (frn1 470 (by omega) (by omega) (by omega))))))))
  have hm33 := (zFJ_at hFJ (fun j h1 h2 => ((fr17 j (by omega)).trans ((frn13 j (by omega) (by omega)).trans ((frn7 j (by omega)).trans ((frn6 j (by omega)).trans ((fr5 j (by omega)).trans (frn1 j (by omega) (by omega) (by omega)))))))))
  have hm34 := (zWJ_at hWJ (fun j h1 h2 => ((fr17 j (by omega)).trans ((frn13 j (by omega) (by omega)).trans ((frn7 j (by omega)).trans ((frn6 j (by omega)).trans ((fr5 j (by omega)).trans (frn1 j (by omega) (by omega) (by omega)))))))))
  have hm35 := (zq_OV_at hOV ((fr17 452 (by decide)).trans ((frn13 452 (by omega) (by omega)).trans ((frn7 452 (by omega)).trans ((frn6 452 (by omega)).trans ((fr5 452 (by decide)).trans (frn1 452 (by omega) (by omega) (by omega))))))) ((fr17 453 (by decide)).trans ((frn13 453 (by omega) (by omega)).trans ((frn7 453 (by omega)).trans ((frn6 453 (by omega)).trans ((fr5 453 (by decide)).trans (frn1 453 (by omega) (by omega) (by omega))))))))
  exact q_retv (v := (0, (if (x_fl (fun y => comb y ≠ 0 ∧ x_ho (hm (y * 40 + 3)) x) made).length ≤ 24 then (6, 0, 3, 5, (x_fl (fun y => comb y ≠ 0 ∧ x_ho (hm (y * 40 + 3)) x) made)) else MV0 : MV).1, 0)) rfl rfl (⟨rfl, ⟨by omega, by omega⟩, ⟨by omega, by omega⟩, rfl, ⟨⟨_, _, hs17, (Or.inl hv18)⟩, hm21, hm22, hm23, hm24, ⟨_, ⟨_, _, _, _, _, _, _, _, _, _, hm25⟩, (fun i hi => by rw [x_s_ne (by omega), x_s_ne (by omega), x_s_ne (by omega), x_s_ne (by omega)]; exact hco i hi)⟩, ⟨_, _, _, hm26, hm27⟩, hm28, hm29, ⟨_, hm30⟩, hm31, hm32, hm33, hm34, ⟨_, _, hm35, hovn, hovh⟩⟩⟩)
set_option maxHeartbeats 1000000 in
theorem zc_get_no5 {d n sl : Nat} {φ : FH} {tpd : Nat} {tp : Nat → Nat} {lf : Nat} {mi : Nat} {made : Nat} {sv : Nat} {svm : Nat} {comb : Nat → Nat} {hm : Nat → MV} {sc : Nat → Nat} {sm : Nat → MV} {mh : MV} {noted : Nat} {verd : Nat} {ins : Nat → Nat} {ver : Nat → Nat} {sz : Nat} {bw : Nat → Nat} {x : Nat} (hG : zG φ tpd tp lf mi made sv svm comb hm sc sm mh noted verd ins ver sz bw) (hn0 : 486 ≤ n) (hpv : ∀ i, x_pv2 (hm i)) (hmi : mi + 100 ≤ 20000) (hx : x < 1000) : x_f x_P (d + 4) 26 [(6, 0, 0), (0, x, 0), (0, 5, 0)] φ n sl (x_bR n sl 0 0 (fun zw φ2 => zw = (0, 4294967295, 0) ∧ zG φ2 tpd tp lf mi made sv svm comb hm sc sm mh noted verd ins ver sz bw)) := by
  refine x_f_of rfl ?_
  have hG0 := hG
  obtain ⟨⟨hand, ie, hH, hhw⟩, hB, hTJ, hEJ, hN, hKJ, ⟨A, B, s9, hPS, hLK0⟩, hSP, hV5, ⟨slq, hSL⟩, hRW, hJ, hFJ, hWJ, ⟨ovn, ovh, hOV, hovn, hovh⟩⟩ := hG
  refine x_n_lt (fun hlt0 => ?_)
  have hmade := x_PS_lt hPS
  obtain ⟨co, ⟨top_, fr_, pc_, mm, st, lo, re, rs, fl, se, hKS⟩, hco⟩ := hKJ
  refine q_load (v := (6, 0, 0)) (p2 := 1) rfl rfl rfl rfl ?_
  refine q_getv (v := (6, 7, 0)) (p2 := 2) rfl hH (by decide) rfl rfl ?_
  refine q_load (v := (0, x, 0)) (p2 := 3) rfl rfl rfl rfl ?_
  refine q_load (v := (0, 5, 0)) (p2 := 4) rfl rfl rfl rfl ?_
  refine q_callr (xs := [(0, 5, 0), (0, x, 0), (6, 7, 0)]) (p2 := 5) rfl rfl rfl rfl (x_rcv_s 7 hPS.1.choose_spec.1) rfl (e_has_no hPS.1.choose_spec hKS.2.2.2.2.2.2.2.2.2 (by omega) (by omega)) (Nat.le_refl _) (Nat.le_refl _) rfl ?_
  refine q_if0_s (p2 := 6) rfl (by decide) (by omega) rfl (fun hb => absurd hb (show ¬ (¬ (0 = 0)) by omega)) (fun _ => ?_)
  refine q_const (p2 := 7) rfl rfl ?_
  exact q_retv (v := (0, 4294967295, 0)) rfl rfl (⟨rfl, ⟨by omega, by omega⟩, ⟨by omega, by omega⟩, rfl, ⟨⟨_, _, hH, hhw⟩, hB, hTJ, hEJ, hN, ⟨_, ⟨_, _, _, _, _, _, _, _, _, _, hKS⟩, hco⟩, ⟨_, _, _, hPS, hLK0⟩, hSP, hV5, ⟨_, hSL⟩, hRW, hJ, hFJ, hWJ, ⟨_, _, hOV, hovn, hovh⟩⟩⟩)
set_option maxHeartbeats 1000000 in
theorem zc_get_no6 {d n sl : Nat} {φ : FH} {tpd : Nat} {tp : Nat → Nat} {lf : Nat} {mi : Nat} {made : Nat} {sv : Nat} {svm : Nat} {comb : Nat → Nat} {hm : Nat → MV} {sc : Nat → Nat} {sm : Nat → MV} {mh : MV} {noted : Nat} {verd : Nat} {ins : Nat → Nat} {ver : Nat → Nat} {sz : Nat} {bw : Nat → Nat} {x : Nat} (hG : zG φ tpd tp lf mi made sv svm comb hm sc sm mh noted verd ins ver sz bw) (hn0 : 486 ≤ n) (hpv : ∀ i, x_pv2 (hm i)) (hmi : mi + 100 ≤ 20000) (hx : x < 1000) : x_f x_P (d + 4) 26 [(6, 0, 0), (0, x, 0), (0, 6, 0)] φ n sl (x_bR n sl 0 0 (fun zw φ2 => zw = (0, 4294967295, 0) ∧ zG φ2 tpd tp lf mi made sv svm comb hm sc sm mh noted verd ins ver sz bw)) := by
  refine x_f_of rfl ?_
  have hG0 := hG
  obtain ⟨⟨hand, ie, hH, hhw⟩, hB, hTJ, hEJ, hN, hKJ, ⟨A, B, s9, hPS, hLK0⟩, hSP, hV5, ⟨slq, hSL⟩, hRW, hJ, hFJ, hWJ, ⟨ovn, ovh, hOV, hovn, hovh⟩⟩ := hG
  refine x_n_lt (fun hlt0 => ?_)
  have hmade := x_PS_lt hPS
  obtain ⟨co, ⟨top_, fr_, pc_, mm, st, lo, re, rs, fl, se, hKS⟩, hco⟩ := hKJ
  refine q_load (v := (6, 0, 0)) (p2 := 1) rfl rfl rfl rfl ?_
  refine q_getv (v := (6, 7, 0)) (p2 := 2) rfl hH (by decide) rfl rfl ?_
  refine q_load (v := (0, x, 0)) (p2 := 3) rfl rfl rfl rfl ?_
  refine q_load (v := (0, 6, 0)) (p2 := 4) rfl rfl rfl rfl ?_
  refine q_callr (xs := [(0, 6, 0), (0, x, 0), (6, 7, 0)]) (p2 := 5) rfl rfl rfl rfl (x_rcv_s 7 hPS.1.choose_spec.1) rfl (e_has_no hPS.1.choose_spec hKS.2.2.2.2.2.2.2.2.2 (by omega) (by omega)) (Nat.le_refl _) (Nat.le_refl _) rfl ?_
  refine q_if0_s (p2 := 6) rfl (by decide) (by omega) rfl (fun hb => absurd hb (show ¬ (¬ (0 = 0)) by omega)) (fun _ => ?_)
  refine q_const (p2 := 7) rfl rfl ?_
  exact q_retv (v := (0, 4294967295, 0)) rfl rfl (⟨rfl, ⟨by omega, by omega⟩, ⟨by omega, by omega⟩, rfl, ⟨⟨_, _, hH, hhw⟩, hB, hTJ, hEJ, hN, ⟨_, ⟨_, _, _, _, _, _, _, _, _, _, hKS⟩, hco⟩, ⟨_, _, _, hPS, hLK0⟩, hSP, hV5, ⟨_, hSL⟩, hRW, hJ, hFJ, hWJ, ⟨_, _, hOV, hovn, hovh⟩⟩⟩)
set_option maxHeartbeats 1000000 in
theorem zc_get_no7 {d n sl : Nat} {φ : FH} {tpd : Nat} {tp : Nat → Nat} {lf : Nat} {mi : Nat} {made : Nat} {sv : Nat} {svm : Nat} {comb : Nat → Nat} {hm : Nat → MV} {sc : Nat → Nat} {sm : Nat → MV} {mh : MV} {noted : Nat} {verd : Nat} {ins : Nat → Nat} {ver : Nat → Nat} {sz : Nat} {bw : Nat → Nat} {x : Nat} (hG : zG φ tpd tp lf mi made sv svm comb hm sc sm mh noted verd ins ver sz bw) (hn0 : 486 ≤ n) (hpv : ∀ i, x_pv2 (hm i)) (hmi : mi + 100 ≤ 20000) (hx : x < 1000) : x_f x_P (d + 4) 26 [(6, 0, 0), (0, x, 0), (0, 7, 0)] φ n sl (x_bR n sl 0 0 (fun zw φ2 => zw = (0, 4294967295, 0) ∧ zG φ2 tpd tp lf mi made sv svm comb hm sc sm mh noted verd ins ver sz bw)) := by
  refine x_f_of rfl ?_
  have hG0 := hG
  obtain ⟨⟨hand, ie, hH, hhw⟩, hB, hTJ, hEJ, hN, hKJ, ⟨A, B, s9, hPS, hLK0⟩, hSP, hV5, ⟨slq, hSL⟩, hRW, hJ, hFJ, hWJ, ⟨ovn, ovh, hOV, hovn, hovh⟩⟩ := hG
  refine x_n_lt (fun hlt0 => ?_)
  have hmade := x_PS_lt hPS
  obtain ⟨co, ⟨top_, fr_, pc_, mm, st, lo, re, rs, fl, se, hKS⟩, hco⟩ := hKJ
  refine q_load (v := (6, 0, 0)) (p2 := 1) rfl rfl rfl rfl ?_
  refine q_getv (v := (6, 7, 0)) (p2 := 2) rfl hH (by decide) rfl rfl ?_
  refine q_load (v := (0, x, 0)) (p2 := 3) rfl rfl rfl rfl ?_
  refine q_load (v := (0, 7, 0)) (p2 := 4) rfl rfl rfl rfl ?_
  refine q_callr (xs := [(0, 7, 0), (0, x, 0), (6, 7, 0)]) (p2 := 5) rfl rfl rfl rfl (x_rcv_s 7 hPS.1.choose_spec.1) rfl (e_has_no hPS.1.choose_spec hKS.2.2.2.2.2.2.2.2.2 (by omega) (by omega)) (Nat.le_refl _) (Nat.le_refl _) rfl ?_
  refine q_if0_s (p2 := 6) rfl (by decide) (by omega) rfl (fun hb => absurd hb (show ¬ (¬ (0 = 0)) by omega)) (fun _ => ?_)
  refine q_const (p2 := 7) rfl rfl ?_
  exact q_retv (v := (0, 4294967295, 0)) rfl rfl (⟨rfl, ⟨by omega, by omega⟩, ⟨by omega, by omega⟩, rfl, ⟨⟨_, _, hH, hhw⟩, hB, hTJ, hEJ, hN, ⟨_, ⟨_, _, _, _, _, _, _, _, _, _, hKS⟩, hco⟩, ⟨_, _, _, hPS, hLK0⟩, hSP, hV5, ⟨_, hSL⟩, hRW, hJ, hFJ, hWJ, ⟨_, _, hOV, hovn, hovh⟩⟩⟩)
set_option maxHeartbeats 1000000 in
theorem zc_work_call_n {d n sl : Nat} {φ : FH} {tp : Nat → Nat} {lf : Nat} {mi : Nat} {made : Nat} {sv : Nat} {svm : Nat} {comb : Nat → Nat} {hm : Nat → MV} {sc : Nat → Nat} {sm : Nat → MV} {mh : MV} {noted : Nat} {verd : Nat} {ins : Nat → Nat} {ver : Nat → Nat} {sz : Nat} {bw : Nat → Nat} {w1 d1 : Nat} (hG : zG φ 5 tp lf mi made sv svm comb hm sc sm mh noted verd ins ver sz bw) (hn0 : 486 ≤ n) (hpv : ∀ i, x_pv2 (hm i)) (hmi : mi + 100 ≤ 20000) (ht0 : tp 0 = 102) (ht1 : tp 1 = 40) (ht2 : tp 2 = 35) (ht3 : tp 3 = d1) (ht4 : tp 4 = 41) (hdd1 : 48 ≤ d1 ∧ d1 ≤ 57) (hw_1 : 0 + d1 - 48 = w1) (hw1 : w1 < 512) (h1 : ¬ (w1 < made ∧ comb w1 ≠ 0)) : x_f x_P (d + 20) 28 [(6, 0, 0), (11, 0, 0)] φ n sl (x_bR n sl 2 14 (fun zw φ2 => zw = (0, 0, 0) ∧ zG φ2 0 tp 0 (mi + 6) made sv svm comb hm sc sm MV0 noted verd ins ver sz bw)) := by
  refine x_f_of rfl ?_
  have hG0 := hG
  obtain ⟨⟨hand, ie, hH, hhw⟩, hB, hTJ, hEJ, hN, hKJ, ⟨A, B, s9, hPS, hLK0⟩, hSP, hV5, ⟨slq, hSL⟩, hRW, hJ, hFJ, hWJ, ⟨ovn, ovh, hOV, hovn, hovh⟩⟩ := hG
  refine x_n_lt (fun hlt0 => ?_)
  have hmade := x_PS_lt hPS
  obtain ⟨tot, at_, cur, pl, va, fa, fp, sf, sp, no, op, K, P, V, hT⟩ := hTJ
  obtain ⟨bi, top, hid, lc, slo, own, sk, hE⟩ := hEJ
  obtain ⟨co, ⟨top_, fr_, pc_, mm, st, lo, re, rs, fl, se, hKS⟩, hco⟩ := hKJ
  refine q_load (v := (6, 0, 0)) (p2 := 1) rfl rfl rfl rfl ?_
  refine q_callrE (xs := [(6, 0, 0)]) (p2 := 2) rfl rfl rfl rfl (x_rcv_s 0 hH) rfl (zc_h_rx_call hH hB hT hE hKS hPS hN ht0 ht1 ht2 ht3 ht4 (by omega)) (Nat.le_refl _) (Nat.le_refl _) rfl (fun φ1 hR1 => ?_)
  obtain ⟨hs1_0, hs1_1, hs1_2, hs1_3, fr1⟩ := hR1
  refine q_store (loc2 := [(6, 0, 0), (0, 60, 0)]) (p2 := 3) rfl rfl rfl rfl rfl ?_
  refine q_load (v := (0, 60, 0)) (p2 := 4) rfl rfl rfl rfl ?_
  refine q_if0_s (p2 := 5) rfl (by decide) (by omega) rfl (fun _ => ?_) (fun hb => absurd (show ¬ (60 < 0) by omega) hb)
  refine q_load (v := (6, 0, 0)) (p2 := 8) rfl rfl rfl rfl ?_
  refine q_getv (v := (6, 7, 0)) (p2 := 9) rfl hs1_0 (by decide) rfl rfl ?_
  refine x_n_lt (fun hlt3 => ?_)
  have hm2 := (x_PS_at hPS (fun j hj hne => by have hj2 := x_some_lt hlt0 hne; exact (fr1 j (by omega) (by omega) (by omega) (by omega) (by omega) (by omega) (by omega))))
  have hm4 := (x_LK_at2 hLK0 (fun j h1 h2 => (fr1 j (by omega) (by omega) (by omega) (by omega) (by omega) (by omega) (by omega))))
  refine q_callvE (xs := [(6, 7, 0)]) (p2 := 10) rfl rfl rfl rfl (x_rcv_s 7 hm2.1.choose_spec.1) rfl (e_prepare hm2 hm4.1 hpv hs1_3.2.2.2.2.2.2.2.2.2) (Nat.le_refl _) (Nat.le_refl _) rfl (fun φ5 hR5 => ?_)
  obtain ⟨A5, B5, hPS5, hLK5, frn5⟩ := hR5
  have hAB5 := x_pop_AB hPS5.1.choose_spec
  obtain ⟨lik5, lb5, hL5, hLb5, hlk5⟩ := id hLK5
  refine x_n_lt (fun hlt6 => ?_)
  have hLKx5 : x_LK φ5 A5 B5 made 0 comb hm ∧ _ := ⟨hLK5, hAB5⟩
  refine q_load (v := (6, 0, 0)) (p2 := 11) rfl rfl rfl rfl ?_
  refine q_load (v := (0, 60, 0)) (p2 := 12) rfl rfl rfl rfl ?_
  refine q_load (v := (6, 0, 0)) (p2 := 13) rfl rfl rfl rfl ?_
  have hm7 := (zq_H_at hs1_0 (frn5 0 (by omega) (by omega) (by omega)))
  refine q_getv (v := (6, 7, 0)) (p2 := 14) rfl hm7 (by decide) rfl rfl ?_
  refine q_getv (v := (6, 225, 0)) (p2 := 15) rfl hPS5.1.choose_spec.1 (by decide) hPS5.1.choose_spec.2.2.1 rfl ?_
  refine q_callK (xs := [(6, 225, 0), (0, 60, 0), (6, 0, 0)]) (p2 := 16) rfl rfl rfl rfl (x_rcv_s 0 hm7) rfl rfl ?_
  refine x_f_of rfl ?_
  refine q_load (v := (6, 0, 0)) (p2 := 1) rfl rfl rfl rfl ?_
  refine q_getv (v := (6, 455, 0)) (p2 := 2) rfl hm7 (by decide) rfl rfl ?_
  refine q_load (v := (0, 60, 0)) (p2 := 3) rfl rfl rfl rfl ?_
  refine q_load (v := (6, 225, 0)) (p2 := 4) rfl rfl rfl rfl ?_
  have hm8 := (x_KS_at2 hs1_3 (fun j h1 h2 h3 h4 => (frn5 j (by omega) (by omega) (by omega))))
  refine q_callrB (xs := [(6, 225, 0), (0, 60, 0), (6, 455, 0)]) (p2 := 5) rfl rfl rfl rfl (x_rcv_s 455 (x_KS_455 hm8)) rfl (zc_run_call_n hPS5 hm8 (by omega) (by omega) (((x_s_ne (by decide)).trans ((x_s_ne (by decide)).trans ((x_s_ne (by decide)).trans ((x_s_ne (by decide)).trans ((x_s_ne (by decide)).trans ((x_s_ne (by decide)).trans ((x_s_ne (by decide)).trans ((x_s_ne (by decide)).trans ((x_s_ne (by decide)).trans ((x_s_ne (by decide)).trans (x_s_eq)))))))))))) (((x_s_ne (by decide)).trans ((x_s_ne (by decide)).trans ((x_s_ne (by decide)).trans ((x_s_ne (by decide)).trans ((x_s_ne (by decide)).trans ((x_s_ne (by decide)).trans ((x_s_ne (by decide)).trans ((x_s_ne (by decide)).trans (x_s_eq)))))))))) (((x_s_ne (by decide)).trans ((x_s_ne (by decide)).trans ((x_s_ne (by decide)).trans ((x_s_ne (by decide)).trans ((x_s_ne (by decide)).trans ((x_s_ne (by decide)).trans ((x_s_ne (by decide)).trans (x_s_eq))))))))) (((x_s_ne (by decide)).trans ((x_s_ne (by decide)).trans ((x_s_ne (by decide)).trans ((x_s_ne (by decide)).trans ((x_s_ne (by decide)).trans (x_s_eq))))))) (((x_s_ne (by decide)).trans ((x_s_ne (by decide)).trans ((x_s_ne (by decide)).trans ((x_s_ne (by decide)).trans (x_s_eq)))))) ((((x_s_ne (by decide)).trans ((x_s_ne (by decide)).trans ((x_s_ne (by decide)).trans (x_s_eq))))).trans hw_1) (((x_s_ne (by decide)).trans ((x_s_ne (by decide)).trans (x_s_eq)))) (((x_s_ne (by decide)).trans (x_s_eq))) ((x_s_eq)) (show (x_s (x_s (x_s (x_s (x_s (x_s (x_s (x_s (x_s (x_s (x_s co 60 1) 61 0) 61 1) 62 1) 63 0) 63 1) 64 7) 65 (0 + d1 - 48)) 66 20) 67 0) 68 31) 30 = 1 from (by rw [x_s_ne (by decide), x_s_ne (by decide), x_s_ne (by decide), x_s_ne (by decide), x_s_ne (by decide), x_s_ne (by decide), x_s_ne (by decide), x_s_ne (by decide), x_s_ne (by decide), x_s_ne (by decide), x_s_ne (by decide)]; exact hco 30 (by decide))) (show (x_s (x_s (x_s (x_s (x_s (x_s (x_s (x_s (x_s (x_s (x_s co 60 1) 61 0) 61 1) 62 1) 63 0) 63 1) 64 7) 65 (0 + d1 - 48)) 66 20) 67 0) 68 31) 31 = 1 from (by rw [x_s_ne (by decide), x_s_ne (by decide), x_s_ne (by decide), x_s_ne (by decide), x_s_ne (by decide), x_s_ne (by decide), x_s_ne (by decide), x_s_ne (by decide), x_s_ne (by decide), x_s_ne (by decide), x_s_ne (by decide)]; exact hco 31 (by decide))) (show (x_s (x_s (x_s (x_s (x_s (x_s (x_s (x_s (x_s (x_s (x_s co 60 1) 61 0) 61 1) 62 1) 63 0) 63 1) 64 7) 65 (0 + d1 - 48)) 66 20) 67 0) 68 31) 32 = 1 from (by rw [x_s_ne (by decide), x_s_ne (by decide), x_s_ne (by decide), x_s_ne (by decide), x_s_ne (by decide), x_s_ne (by decide), x_s_ne (by decide), x_s_ne (by decide), x_s_ne (by decide), x_s_ne (by decide), x_s_ne (by decide)]; exact hco 32 (by decide))) (show (x_s (x_s (x_s (x_s (x_s (x_s (x_s (x_s (x_s (x_s (x_s co 60 1) 61 0) 61 1) 62 1) 63 0) 63 1) 64 7) 65 (0 + d1 - 48)) 66 20) 67 0) 68 31) 33 = 1 from (by rw [x_s_ne (by decide), x_s_ne (by decide), x_s_ne (by decide), x_s_ne (by decide), x_s_ne (by decide), x_s_ne (by decide), x_s_ne (by decide), x_s_ne (by decide), x_s_ne (by decide), x_s_ne (by decide), x_s_ne (by decide)]; exact hco 33 (by decide))) (show (x_s (x_s (x_s (x_s (x_s (x_s (x_s (x_s (x_s (x_s (x_s co 60 1) 61 0) 61 1) 62 1) 63 0) 63 1) 64 7) 65 (0 + d1 - 48)) 66 20) 67 0) 68 31) 34 = 1 from (by rw [x_s_ne (by decide), x_s_ne (by decide), x_s_ne (by decide), x_s_ne (by decide), x_s_ne (by decide), x_s_ne (by decide), x_s_ne (by decide), x_s_ne (by decide), x_s_ne (by decide), x_s_ne (by decide), x_s_ne (by decide)]; exact hco 34 (by decide))) (show (x_s (x_s (x_s (x_s (x_s (x_s (x_s (x_s (x_s (x_s (x_s co 60 1) 61 0) 61 1) 62 1) 63 0) 63 1) 64 7) 65 (0 + d1 - 48)) 66 20) 67 0) 68 31) 35 = 2 from (by rw [x_s_ne (by decide), x_s_ne (by decide), x_s_ne (by decide), x_s_ne (by decide), x_s_ne (by decide), x_s_ne (by decide), x_s_ne (by decide), x_s_ne (by decide), x_s_ne (by decide), x_s_ne (by decide), x_s_ne (by decide)]; exact hco 35 (by decide))) (show (x_s (x_s (x_s (x_s (x_s (x_s (x_s (x_s (x_s (x_s (x_s co 60 1) 61 0) 61 1) 62 1) 63 0) 63 1) 64 7) 65 (0 + d1 - 48)) 66 20) 67 0) 68 31) 36 = 10 from (by rw [x_s_ne (by decide), x_s_ne (by decide), x_s_ne (by decide), x_s_ne (by decide), x_s_ne (by decide), x_s_ne (by decide), x_s_ne (by decide), x_s_ne (by decide), x_s_ne (by decide), x_s_ne (by decide), x_s_ne (by decide)]; exact hco 36 (by decide))) (show (x_s (x_s (x_s (x_s (x_s (x_s (x_s (x_s (x_s (x_s (x_s co 60 1) 61 0) 61 1) 62 1) 63 0) 63 1) 64 7) 65 (0 + d1 - 48)) 66 20) 67 0) 68 31) 37 = 0 from (by rw [x_s_ne (by decide), x_s_ne (by decide), x_s_ne (by decide), x_s_ne (by decide), x_s_ne (by decide), x_s_ne (by decide), x_s_ne (by decide), x_s_ne (by decide), x_s_ne (by decide), x_s_ne (by decide), x_s_ne (by decide)]; exact hco 37 (by decide))) (show (x_s (x_s (x_s (x_s (x_s (x_s (x_s (x_s (x_s (x_s (x_s co 60 1) 61 0) 61 1) 62 1) 63 0) 63 1) 64 7) 65 (0 + d1 - 48)) 66 20) 67 0) 68 31) 38 = 11 from (by rw [x_s_ne (by decide), x_s_ne (by decide), x_s_ne (by decide), x_s_ne (by decide), x_s_ne (by decide), x_s_ne (by decide), x_s_ne (by decide), x_s_ne (by decide), x_s_ne (by decide), x_s_ne (by decide), x_s_ne (by decide)]; exact hco 38 (by decide))) (show (x_s (x_s (x_s (x_s (x_s (x_s (x_s (x_s (x_s (x_s (x_s co 60 1) 61 0) 61 1) 62 1) 63 0) 63 1) 64 7) 65 (0 + d1 - 48)) 66 20) 67 0) 68 31) 39 = 0 from (by rw [x_s_ne (by decide), x_s_ne (by decide), x_s_ne (by decide), x_s_ne (by decide), x_s_ne (by decide), x_s_ne (by decide), x_s_ne (by decide), x_s_ne (by decide), x_s_ne (by decide), x_s_ne (by decide), x_s_ne (by decide)]; exact hco 39 (by decide))) (show (x_s (x_s (x_s (x_s (x_s (x_s (x_s (x_s (x_s (x_s (x_s co 60 1) 61 0) 61 1) 62 1) 63 0) 63 1) 64 7) 65 (0 + d1 - 48)) 66 20) 67 0) 68 31) 40 = 19 from (by rw [x_s_ne (by decide), x_s_ne (by decide), x_s_ne (by decide), x_s_ne (by decide), x_s_ne (by decide), x_s_ne (by decide), x_s_ne (by decide), x_s_ne (by decide), x_s_ne (by decide), x_s_ne (by decide), x_s_ne (by decide)]; exact hco 40 (by decide))) (show (x_s (x_s (x_s (x_s (x_s (x_s (x_s (x_s (x_s (x_s (x_s co 60 1) 61 0) 61 1) 62 1) 63 0) 63 1) 64 7) 65 (0 + d1 - 48)) 66 20) 67 0) 68 31) 41 = 8 from (by rw [x_s_ne (by decide), x_s_ne (by decide), x_s_ne (by decide), x_s_ne (by decide), x_s_ne (by decide), x_s_ne (by decide), x_s_ne (by decide), x_s_ne (by decide), x_s_ne (by decide), x_s_ne (by decide), x_s_ne (by decide)]; exact hco 41 (by decide))) (show (x_s (x_s (x_s (x_s (x_s (x_s (x_s (x_s (x_s (x_s (x_s co 60 1) 61 0) 61 1) 62 1) 63 0) 63 1) 64 7) 65 (0 + d1 - 48)) 66 20) 67 0) 68 31) 42 = 27 from (by rw [x_s_ne (by decide), x_s_ne (by decide), x_s_ne (by decide), x_s_ne (by decide), x_s_ne (by decide), x_s_ne (by decide), x_s_ne (by decide), x_s_ne (by decide), x_s_ne (by decide), x_s_ne (by decide), x_s_ne (by decide)]; exact hco 42 (by decide))) (show (x_s (x_s (x_s (x_s (x_s (x_s (x_s (x_s (x_s (x_s (x_s co 60 1) 61 0) 61 1) 62 1) 63 0) 63 1) 64 7) 65 (0 + d1 - 48)) 66 20) 67 0) 68 31) 43 = 59 from (by rw [x_s_ne (by decide), x_s_ne (by decide), x_s_ne (by decide), x_s_ne (by decide), x_s_ne (by decide), x_s_ne (by decide), x_s_ne (by decide), x_s_ne (by decide), x_s_ne (by decide), x_s_ne (by decide), x_s_ne (by decide)]; exact hco 43 (by decide))) (show (x_s (x_s (x_s (x_s (x_s (x_s (x_s (x_s (x_s (x_s (x_s co 60 1) 61 0) 61 1) 62 1) 63 0) 63 1) 64 7) 65 (0 + d1 - 48)) 66 20) 67 0) 68 31) 44 = 1 from (by rw [x_s_ne (by decide), x_s_ne (by decide), x_s_ne (by decide), x_s_ne (by decide), x_s_ne (by decide), x_s_ne (by decide), x_s_ne (by decide), x_s_ne (by decide), x_s_ne (by decide), x_s_ne (by decide), x_s_ne (by decide)]; exact hco 44 (by decide))) (show (x_s (x_s (x_s (x_s (x_s (x_s (x_s (x_s (x_s (x_s (x_s co 60 1) 61 0) 61 1) 62 1) 63 0) 63 1) 64 7) 65 (0 + d1 - 48)) 66 20) 67 0) 68 31) 45 = 1 from (by rw [x_s_ne (by decide), x_s_ne (by decide), x_s_ne (by decide), x_s_ne (by decide), x_s_ne (by decide), x_s_ne (by decide), x_s_ne (by decide), x_s_ne (by decide), x_s_ne (by decide), x_s_ne (by decide), x_s_ne (by decide)]; exact hco 45 (by decide))) (show (x_s (x_s (x_s (x_s (x_s (x_s (x_s (x_s (x_s (x_s (x_s co 60 1) 61 0) 61 1) 62 1) 63 0) 63 1) 64 7) 65 (0 + d1 - 48)) 66 20) 67 0) 68 31) 46 = 1 from (by rw [x_s_ne (by decide), x_s_ne (by decide), x_s_ne (by decide), x_s_ne (by decide), x_s_ne (by decide), x_s_ne (by decide), x_s_ne (by decide), x_s_ne (by decide), x_s_ne (by decide), x_s_ne (by decide), x_s_ne (by decide)]; exact hco 46 (by decide))) (show (x_s (x_s (x_s (x_s (x_s (x_s (x_s (x_s (x_s (x_s (x_s co 60 1) 61 0) 61 1) 62 1) 63 0) 63 1) 64 7) 65 (0 + d1 - 48)) 66 20) 67 0) 68 31) 47 = 3 from (by rw [x_s_ne (by decide), x_s_ne (by decide), x_s_ne (by decide), x_s_ne (by decide), x_s_ne (by decide), x_s_ne (by decide), x_s_ne (by decide), x_s_ne (by decide), x_s_ne (by decide), x_s_ne (by decide), x_s_ne (by decide)]; exact hco 47 (by decide))) (show (x_s (x_s (x_s (x_s (x_s (x_s (x_s (x_s (x_s (x_s (x_s co 60 1) 61 0) 61 1) 62 1) 63 0) 63 1) 64 7) 65 (0 + d1 - 48)) 66 20) 67 0) 68 31) 48 = 10 from (by rw [x_s_ne (by decide), x_s_ne (by decide), x_s_ne (by decide), x_s_ne (by decide), x_s_ne (by decide), x_s_ne (by decide), x_s_ne (by decide), x_s_ne (by decide), x_s_ne (by decide), x_s_ne (by decide), x_s_ne (by decide)]; exact hco 48 (by decide))) (show (x_s (x_s (x_s (x_s (x_s (x_s (x_s (x_s (x_s (x_s (x_s co 60 1) 61 0) 61 1) 62 1) 63 0) 63 1) 64 7) 65 (0 + d1 - 48)) 66 20) 67 0) 68 31) 49 = 0 from (by rw [x_s_ne (by decide), x_s_ne (by decide), x_s_ne (by decide), x_s_ne (by decide), x_s_ne (by decide), x_s_ne (by decide), x_s_ne (by decide), x_s_ne (by decide), x_s_ne (by decide), x_s_ne (by decide), x_s_ne (by decide)]; exact hco 49 (by decide))) (show (x_s (x_s (x_s (x_s (x_s (x_s (x_s (x_s (x_s (x_s (x_s co 60 1) 61 0) 61 1) 62 1) 63 0) 63 1) 64 7) 65 (0 + d1 - 48)) 66 20) 67 0) 68 31) 50 = 11 from (by rw [x_s_ne (by decide), x_s_ne (by decide), x_s_ne (by decide), x_s_ne (by decide), x_s_ne (by decide), x_s_ne (by decide), x_s_ne (by decide), x_s_ne (by decide), x_s_ne (by decide), x_s_ne (by decide), x_s_ne (by decide)]; exact hco 50 (by decide))) (show (x_s (x_s (x_s (x_s (x_s (x_s (x_s (x_s (x_s (x_s (x_s co 60 1) 61 0) 61 1) 62 1) 63 0) 63 1) 64 7) 65 (0 + d1 - 48)) 66 20) 67 0) 68 31) 51 = 0 from (by rw [x_s_ne (by decide), x_s_ne (by decide), x_s_ne (by decide), x_s_ne (by decide), x_s_ne (by decide), x_s_ne (by decide), x_s_ne (by decide), x_s_ne (by decide), x_s_ne (by decide), x_s_ne (by decide), x_s_ne (by decide)]; exact hco 51 (by decide))) (show (x_s (x_s (x_s (x_s (x_s (x_s (x_s (x_s (x_s (x_s (x_s co 60 1) 61 0) 61 1) 62 1) 63 0) 63 1) 64 7) 65 (0 + d1 - 48)) 66 20) 67 0) 68 31) 52 = 1 from (by rw [x_s_ne (by decide), x_s_ne (by decide), x_s_ne (by decide), x_s_ne (by decide), x_s_ne (by decide), x_s_ne (by decide), x_s_ne (by decide), x_s_ne (by decide), x_s_ne (by decide), x_s_ne (by decide), x_s_ne (by decide)]; exact hco 52 (by decide))) (show (x_s (x_s (x_s (x_s (x_s (x_s (x_s (x_s (x_s (x_s (x_s co 60 1) 61 0) 61 1) 62 1) 63 0) 63 1) 64 7) 65 (0 + d1 - 48)) 66 20) 67 0) 68 31) 53 = 1 from (by rw [x_s_ne (by decide), x_s_ne (by decide), x_s_ne (by decide), x_s_ne (by decide), x_s_ne (by decide), x_s_ne (by decide), x_s_ne (by decide), x_s_ne (by decide), x_s_ne (by decide), x_s_ne (by decide), x_s_ne (by decide)]; exact hco 53 (by decide))) (show (x_s (x_s (x_s (x_s (x_s (x_s (x_s (x_s (x_s (x_s (x_s co 60 1) 61 0) 61 1) 62 1) 63 0) 63 1) 64 7) 65 (0 + d1 - 48)) 66 20) 67 0) 68 31) 54 = 3 from (by rw [x_s_ne (by decide), x_s_ne (by decide), x_s_ne (by decide), x_s_ne (by decide), x_s_ne (by decide), x_s_ne (by decide), x_s_ne (by decide), x_s_ne (by decide), x_s_ne (by decide), x_s_ne (by decide), x_s_ne (by decide)]; exact hco 54 (by decide))) (show (x_s (x_s (x_s (x_s (x_s (x_s (x_s (x_s (x_s (x_s (x_s co 60 1) 61 0) 61 1) 62 1) 63 0) 63 1) 64 7) 65 (0 + d1 - 48)) 66 20) 67 0) 68 31) 55 = 1 from (by rw [x_s_ne (by decide), x_s_ne (by decide), x_s_ne (by decide), x_s_ne (by decide), x_s_ne (by decide), x_s_ne (by decide), x_s_ne (by decide), x_s_ne (by decide), x_s_ne (by decide), x_s_ne (by decide), x_s_ne (by decide)]; exact hco 55 (by decide))) (show (x_s (x_s (x_s (x_s (x_s (x_s (x_s (x_s (x_s (x_s (x_s co 60 1) 61 0) 61 1) 62 1) 63 0) 63 1) 64 7) 65 (0 + d1 - 48)) 66 20) 67 0) 68 31) 56 = 13 from (by rw [x_s_ne (by decide), x_s_ne (by decide), x_s_ne (by decide), x_s_ne (by decide), x_s_ne (by decide), x_s_ne (by decide), x_s_ne (by decide), x_s_ne (by decide), x_s_ne (by decide), x_s_ne (by decide), x_s_ne (by decide)]; exact hco 56 (by decide))) (show (x_s (x_s (x_s (x_s (x_s (x_s (x_s (x_s (x_s (x_s (x_s co 60 1) 61 0) 61 1) 62 1) 63 0) 63 1) 64 7) 65 (0 + d1 - 48)) 66 20) 67 0) 68 31) 57 = 69 from (by rw [x_s_ne (by decide), x_s_ne (by decide), x_s_ne (by decide), x_s_ne (by decide), x_s_ne (by decide), x_s_ne (by decide), x_s_ne (by decide), x_s_ne (by decide), x_s_ne (by decide), x_s_ne (by decide), x_s_ne (by decide)]; exact hco 57 (by decide))) (show (x_s (x_s (x_s (x_s (x_s (x_s (x_s (x_s (x_s (x_s (x_s co 60 1) 61 0) 61 1) 62 1) 63 0) 63 1) 64 7) 65 (0 + d1 - 48)) 66 20) 67 0) 68 31) 58 = 31 from (by rw [x_s_ne (by decide), x_s_ne (by decide), x_s_ne (by decide), x_s_ne (by decide), x_s_ne (by decide), x_s_ne (by decide), x_s_ne (by decide), x_s_ne (by decide), x_s_ne (by decide), x_s_ne (by decide), x_s_ne (by decide)]; exact hco 58 (by decide))) (show (x_s (x_s (x_s (x_s (x_s (x_s (x_s (x_s (x_s (x_s (x_s co 60 1) 61 0) 61 1) 62 1) 63 0) 63 1) 64 7) 65 (0 + d1 - 48)) 66 20) 67 0) 68 31) 59 = 32 from (by rw [x_s_ne (by decide), x_s_ne (by decide), x_s_ne (by decide), x_s_ne (by decide), x_s_ne (by decide), x_s_ne (by decide), x_s_ne (by decide), x_s_ne (by decide), x_s_ne (by decide), x_s_ne (by decide), x_s_ne (by decide)]; exact hco 59 (by decide))) (by omega) h1) rfl (fun w9 φ9 n9 sl9 hn9 hN9 hs9 hT9 hR9 => ?_)
  obtain ⟨v9, hwv9, ⟨ka9, kb9, kc9, kd9, ke9, kf9, kg9, kh9, ki9, kj9, hK9⟩, hV9, frn9⟩ := hR9
  subst hwv9
  refine x_n_lt (fun hlt10 => ?_)
  have hz11 := x_mv_lt hV9 hlt10
  have hy11 := hV9.1
  refine q_store (loc2 := [(6, 0, 0), (0, 60, 0), (6, 225, 0), (6, v9, 0)]) (p2 := 6) rfl rfl rfl rfl rfl ?_
  refine q_load (v := (6, 0, 0)) (p2 := 7) rfl rfl rfl rfl ?_
  have hm12 := (zq_H_at hm7 (frn9 0 (by omega) (by omega)))
  refine q_getv (v := (6, 455, 0)) (p2 := 8) rfl hm12 (by decide) rfl rfl ?_
  refine q_getv (v := (0, 0, 0)) (p2 := 9) rfl (x_KS_455 hK9) (by decide) hK9.1.choose_spec.2.2.2.2.2.2.2.2.2.2.2.2.2.2.2.2.2.1 rfl ?_
  refine q_if0_s (p2 := 10) rfl (by decide) (by omega) rfl (fun _ => ?_) (fun hb => absurd (show 0 = 0 by omega) hb)
  refine q_load (v := (6, 0, 0)) (p2 := 13) rfl rfl rfl rfl ?_
  refine q_load (v := (6, v9, 0)) (p2 := 14) rfl rfl rfl rfl ?_
  refine q_putfE (v := (6, v9, 0)) (p2 := 15) rfl hm12 (by decide) rfl rfl (fun φ13 f13 hh13 hg13 ho13 fr13 => ?_)
  have hs13 := zq_H_put_0_10 hm12 hh13 hg13 ho13 fr13
  refine q_load (v := (6, 0, 0)) (p2 := 16) rfl rfl rfl rfl ?_
  refine q_getv (v := (6, v9, 0)) (p2 := 17) rfl hs13 (by decide) rfl rfl ?_
  refine x_n_lt (fun hlt15 => ?_)
  have hv14 := x_mv_at hV9 (fun j hj hne => by have hj2 := x_some_lt hlt10 hne; exact (fr13 j (by omega)))
  obtain ⟨fV16, hW16, hg16⟩ := x_mv_gS hv14 (by decide)
  have hl16 := hlt15 _ _ hW16
  have h6_16 := hv14.1
  refine q_getv (v := (0, 0, 0)) (p2 := 18) rfl hW16 (by decide) hg16.1 rfl ?_
  refine q_retv (v := (0, 0, 0)) rfl rfl ⟨rfl, by omega, by omega, ?_⟩
  have hm17 := (zq_tp_at hB ((fr13 1 (by decide)).trans ((frn9 1 (by omega) (by omega)).trans ((frn5 1 (by omega) (by omega) (by omega)).trans (fr1 1 (by decide) (by decide) (by decide) (by decide) (by decide) (by decide) (by decide))))))
  have hm18 := (zq_T_at hs1_1 ((fr13 2 (by decide)).trans ((frn9 2 (by omega) (by omega)).trans (frn5 2 (by omega) (by omega) (by omega)))) ((fr13 3 (by decide)).trans ((frn9 3 (by omega) (by omega)).trans (frn5 3 (by omega) (by omega) (by omega)))) ((fr13 4 (by decide)).trans ((frn9 4 (by omega) (by omega)).trans (frn5 4 (by omega) (by omega) (by omega)))) ((fr13 5 (by decide)).trans ((frn9 5 (by omega) (by omega)).trans (frn5 5 (by omega) (by omega) (by omega)))) ((fr13 6 (by decide)).trans ((frn9 6 (by omega) (by omega)).trans (frn5 6 (by omega) (by omega) (by omega)))))
  have hm19 := (zq_E_at hs1_2 ((fr13 232 (by decide)).trans ((frn9 232 (by omega) (by omega)).trans (frn5 232 (by omega) (by omega) (by omega)))))
  have hm20 := (zq_nm_at hN ((fr13 239 (by decide)).trans ((frn9 239 (by omega) (by omega)).trans ((frn5 239 (by omega) (by omega) (by omega)).trans (fr1 239 (by decide) (by decide) (by decide) (by decide) (by decide) (by decide) (by decide))))) ((fr13 242 (by decide)).trans ((frn9 242 (by omega) (by omega)).trans ((frn5 242 (by omega) (by omega) (by omega)).trans (fr1 242 (by decide) (by decide) (by decide) (by decide) (by decide) (by decide) (by decide))))) ((fr13 244 (by decide)).trans ((frn9 244 (by omega) (by omega)).trans ((frn5 244 (by omega) (by omega) (by omega)).trans (fr1 244 (by decide) (by decide) (by decide) (by decide) (by decide) (by decide) (by decide))))))
  have hm21 := (x_KS_at2 hK9 (fun j h1 h2 h3 h4 => (fr13 j (by omega))))
  have hm22 := (x_PS_at hPS5 (fun j hj hne => by have hj2 := x_some_lt hlt6 hne; exact ((fr13 j (by omega)).trans (frn9 j (by omega) (by omega)))))
  have hm23 := (x_LK_at2 hLKx5 (fun j h1 h2 => ((fr13 j (by omega)).trans (frn9 j (by omega) (by omega)))))
  have hm24 := (x_SP_at hSP (fun j hj hne => by have hj2 := x_some_lt hlt0 hne; exact ((fr13 j (by omega)).trans ((frn9 j (by omega) (by omega)).trans ((frn5 j (by omega) (by omega) (by omega)).trans (fr1 j (by omega) (by omega) (by omega) (by omega) (by omega) (by omega) (by omega)))))))
  have hm25 := (zq_V5_at hV5 ((fr13 485 (by decide)).trans ((frn9 485 (by omega) (by omega)).trans ((frn5 485 (by omega) (by omega) (by omega)).trans (fr1 485 (by decide) (by decide) (by decide) (by decide) (by decide) (by decide) (by decide))))))
  have hm26 := (zq_SL_at hSL ((fr13 482 (by decide)).trans ((frn9 482 (by omega) (by omega)).trans ((frn5 482 (by omega) (by omega) (by omega)).trans (fr1 482 (by decide) (by decide) (by decide) (by decide) (by decide) (by decide) (by decide))))))
  have hm27 := (zq_RW_at hRW ((fr13 483 (by decide)).trans ((frn9 483 (by omega) (by omega)).trans ((frn5 483 (by omega) (by omega) (by omega)).trans (fr1 483 (by decide) (by decide) (by decide) (by decide) (by decide) (by decide) (by decide))))))
  have hm28 := (zq_J_at hJ ((fr13 468 (by decide)).trans ((frn9 468 (by omega) (by omega)).trans ((frn5 468 (by omega) (by omega) (by omega)).trans (fr1 468 (by decide) (by decide) (by decide) (by decide) (by decide) (by decide) (by decide))))) ((fr13 469 (by decide)).trans ((frn9 469 (by omega) (by omega)).trans ((frn5 469 (by omega) (by omega) (by omega)).trans (fr1 469 (by decide) (by decide) (by decide) (by decide) (by decide) (by decide) (by decide))))) ((fr13 470 (by decide)).trans ((frn9 470 (by omega) (by omega)).trans ((frn5 470 (by omega) (by omega) (by omega)).trans (fr1 470 (by decide) (by decide) (by decide) (by decide) (by decide) (by decide) (by decide))))))
  have hm29 := (zFJ_at hFJ (fun j h1 h2 => ((fr13 j (by omega)).trans ((frn9 j (by omega) (by omega)).trans ((frn5 j (by omega) (by omega) (by omega)).trans (fr1 j (by omega) (by omega) (by omega) (by omega) (by omega) (by omega) (by omega)))))))
  have hm30 := (zWJ_at hWJ (fun j h1 h2 => ((fr13 j (by omega)).trans ((frn9 j (by omega) (by omega)).trans ((frn5 j (by omega) (by omega) (by omega)).trans (fr1 j (by omega) (by omega) (by omega) (by omega) (by omega) (by omega) (by omega)))))))
  have hm31 := (zq_OV_at hOV ((fr13 452 (by decide)).trans ((frn9 452 (by omega) (by omega)).trans ((frn5 452 (by omega) (by omega) (by omega)).trans (fr1 452 (by decide) (by decide) (by decide) (by decide) (by decide) (by decide) (by decide))))) ((fr13 453 (by decide)).trans ((frn9 453 (by omega) (by omega)).trans ((frn5 453 (by omega) (by omega) (by omega)).trans (fr1 453 (by decide) (by decide) (by decide) (by decide) (by decide) (by decide) (by decide))))))
  exact q_retv (v := (0, 0, 0)) rfl rfl (⟨rfl, ⟨by omega, by omega⟩, ⟨by omega, by omega⟩, rfl, ⟨⟨_, _, hs13, (Or.inl hv14)⟩, hm17, ⟨_, _, _, _, _, _, _, _, _, _, _, _, _, _, hm18⟩, ⟨_, _, _, _, _, _, _, hm19⟩, hm20, ⟨_, ⟨_, _, _, _, _, _, _, _, _, _, hm21⟩, (fun i hi => by rw [x_s_ne (by omega), x_s_ne (by omega), x_s_ne (by omega), x_s_ne (by omega), x_s_ne (by omega), x_s_ne (by omega), x_s_ne (by omega), x_s_ne (by omega), x_s_ne (by omega), x_s_ne (by omega), x_s_ne (by omega)]; exact hco i hi)⟩, ⟨_, _, _, hm22, hm23⟩, hm24, hm25, ⟨_, hm26⟩, hm27, hm28, hm29, hm30, ⟨_, _, hm31, hovn, hovh⟩⟩⟩)
set_option maxHeartbeats 1000000 in
theorem zc_work_call_y0 {d n sl : Nat} {φ : FH} {tp : Nat → Nat} {lf : Nat} {mi : Nat} {made : Nat} {sv : Nat} {svm : Nat} {comb : Nat → Nat} {hm : Nat → MV} {sc : Nat → Nat} {sm : Nat → MV} {mh : MV} {noted : Nat} {verd : Nat} {ins : Nat → Nat} {ver : Nat → Nat} {sz : Nat} {bw : Nat → Nat} {w1 d1 : Nat} (hG : zG φ 5 tp lf mi made sv svm comb hm sc sm mh noted verd ins ver sz bw) (hn0 : 486 ≤ n) (hpv : ∀ i, x_pv2 (hm i)) (hmi : mi + 100 ≤ 20000) (ht0 : tp 0 = 102) (ht1 : tp 1 = 40) (ht2 : tp 2 = 35) (ht3 : tp 3 = d1) (ht4 : tp 4 = 41) (hdd1 : 48 ≤ d1 ∧ d1 ≤ 57) (hw_1 : 0 + d1 - 48 = w1) (hw1 : w1 < 512) (h1 : w1 < made ∧ comb w1 ≠ 0) (hisA : x_isA made comb w1 0) (hbit : 1 &&& comb w1 ≠ 0) (hk : hm (w1 * 40 + 0) = MV0) : x_f x_P (d + 20) 28 [(6, 0, 0), (11, 0, 0)] φ n sl (x_bR n sl 2 14 (fun zw φ2 => zw = (0, 0, 0) ∧ zG φ2 0 tp 0 (mi + 6) made sv svm comb hm sc sm MV0 noted verd ins ver sz bw)) := by
  refine x_f_of rfl ?_
  have hG0 := hG
  obtain ⟨⟨hand, ie, hH, hhw⟩, hB, hTJ, hEJ, hN, hKJ, ⟨A, B, s9, hPS, hLK0⟩, hSP, hV5, ⟨slq, hSL⟩, hRW, hJ, hFJ, hWJ, ⟨ovn, ovh, hOV, hovn, hovh⟩⟩ := hG
  refine x_n_lt (fun hlt0 => ?_)
  have hmade := x_PS_lt hPS
  obtain ⟨tot, at_, cur, pl, va, fa, fp, sf, sp, no, op, K, P, V, hT⟩ := hTJ
  obtain ⟨bi, top, hid, lc, slo, own, sk, hE⟩ := hEJ
  obtain ⟨co, ⟨top_, fr_, pc_, mm, st, lo, re, rs, fl, se, hKS⟩, hco⟩ := hKJ
  refine q_load (v := (6, 0, 0)) (p2 := 1) rfl rfl rfl rfl ?_
  refine q_callrE (xs := [(6, 0, 0)]) (p2 := 2) rfl rfl rfl rfl (x_rcv_s 0 hH) rfl (zc_h_rx_call hH hB hT hE hKS hPS hN ht0 ht1 ht2 ht3 ht4 (by omega)) (Nat.le_refl _) (Nat.le_refl _) rfl (fun φ1 hR1 => ?_)
  obtain ⟨hs1_0, hs1_1, hs1_2, hs1_3, fr1⟩ := hR1
  refine q_store (loc2 := [(6, 0, 0), (0, 60, 0)]) (p2 := 3) rfl rfl rfl rfl rfl ?_
  refine q_load (v := (0, 60, 0)) (p2 := 4) rfl rfl rfl rfl ?_
  refine q_if0_s (p2 := 5) rfl (by decide) (by omega) rfl (fun _ => ?_) (fun hb => absurd (show ¬ (60 < 0) by omega) hb)
  refine q_load (v := (6, 0, 0)) (p2 := 8) rfl rfl rfl rfl ?_
  refine q_getv (v := (6, 7, 0)) (p2 := 9) rfl hs1_0 (by decide) rfl rfl ?_
  refine x_n_lt (fun hlt3 => ?_)
  have hm2 := (x_PS_at hPS (fun j hj hne => by have hj2 := x_some_lt hlt0 hne; exact (fr1 j (by omega) (by omega) (by omega) (by omega) (by omega) (by omega) (by omega))))
  have hm4 := (x_LK_at2 hLK0 (fun j h1 h2 => (fr1 j (by omega) (by omega) (by omega) (by omega) (by omega) (by omega) (by omega))))
  refine q_callvE (xs := [(6, 7, 0)]) (p2 := 10) rfl rfl rfl rfl (x_rcv_s 7 hm2.1.choose_spec.1) rfl (e_prepare hm2 hm4.1 hpv hs1_3.2.2.2.2.2.2.2.2.2) (Nat.le_refl _) (Nat.le_refl _) rfl (fun φ5 hR5 => ?_)
  obtain ⟨A5, B5, hPS5, hLK5, frn5⟩ := hR5
  have hAB5 := x_pop_AB hPS5.1.choose_spec
  obtain ⟨lik5, lb5, hL5, hLb5, hlk5⟩ := id hLK5
  refine x_n_lt (fun hlt6 => ?_)
  have hLKx5 : x_LK φ5 A5 B5 made 0 comb hm ∧ _ := ⟨hLK5, hAB5⟩
  refine q_load (v := (6, 0, 0)) (p2 := 11) rfl rfl rfl rfl ?_
  refine q_load (v := (0, 60, 0)) (p2 := 12) rfl rfl rfl rfl ?_
  refine q_load (v := (6, 0, 0)) (p2 := 13) rfl rfl rfl rfl ?_
  have hm7 := (zq_H_at hs1_0 (frn5 0 (by omega) (by omega) (by omega)))
  refine q_getv (v := (6, 7, 0)) (p2 := 14) rfl hm7 (by decide) rfl rfl ?_
  refine q_getv (v := (6, 225, 0)) (p2 := 15) rfl hPS5.1.choose_spec.1 (by decide) hPS5.1.choose_spec.2.2.1 rfl ?_
  refine q_callK (xs := [(6, 225, 0), (0, 60, 0), (6, 0, 0)]) (p2 := 16) rfl rfl rfl rfl (x_rcv_s 0 hm7) rfl rfl ?_
  refine x_f_of rfl ?_
  refine q_load (v := (6, 0, 0)) (p2 := 1) rfl rfl rfl rfl ?_
  refine q_getv (v := (6, 455, 0)) (p2 := 2) rfl hm7 (by decide) rfl rfl ?_
  refine q_load (v := (0, 60, 0)) (p2 := 3) rfl rfl rfl rfl ?_
  refine q_load (v := (6, 225, 0)) (p2 := 4) rfl rfl rfl rfl ?_
  have hm8 := (x_KS_at2 hs1_3 (fun j h1 h2 h3 h4 => (frn5 j (by omega) (by omega) (by omega))))
  refine q_callrB (xs := [(6, 225, 0), (0, 60, 0), (6, 455, 0)]) (p2 := 5) rfl rfl rfl rfl (x_rcv_s 455 (x_KS_455 hm8)) rfl (zc_run_call_y0 hPS5 hm8 (by omega) (by omega) (((x_s_ne (by decide)).trans ((x_s_ne (by decide)).trans ((x_s_ne (by decide)).trans ((x_s_ne (by decide)).trans ((x_s_ne (by decide)).trans ((x_s_ne (by decide)).trans ((x_s_ne (by decide)).trans ((x_s_ne (by decide)).trans ((x_s_ne (by decide)).trans ((x_s_ne (by decide)).trans (x_s_eq)))))))))))) (((x_s_ne (by decide)).trans ((x_s_ne (by decide)).trans ((x_s_ne (by decide)).trans ((x_s_ne (by decide)).trans ((x_s_ne (by decide)).trans ((x_s_ne (by decide)).trans ((x_s_ne (by decide)).trans ((x_s_ne (by decide)).trans (x_s_eq)))))))))) (((x_s_ne (by decide)).trans ((x_s_ne (by decide)).trans ((x_s_ne (by decide)).trans ((x_s_ne (by decide)).trans ((x_s_ne (by decide)).trans ((x_s_ne (by decide)).trans ((x_s_ne (by decide)).trans (x_s_eq))))))))) (((x_s_ne (by decide)).trans ((x_s_ne (by decide)).trans ((x_s_ne (by decide)).trans ((x_s_ne (by decide)).trans ((x_s_ne (by decide)).trans (x_s_eq))))))) (((x_s_ne (by decide)).trans ((x_s_ne (by decide)).trans ((x_s_ne (by decide)).trans ((x_s_ne (by decide)).trans (x_s_eq)))))) ((((x_s_ne (by decide)).trans ((x_s_ne (by decide)).trans ((x_s_ne (by decide)).trans (x_s_eq))))).trans hw_1) (((x_s_ne (by decide)).trans ((x_s_ne (by decide)).trans (x_s_eq)))) (((x_s_ne (by decide)).trans (x_s_eq))) ((x_s_eq)) (show (x_s (x_s (x_s (x_s (x_s (x_s (x_s (x_s (x_s (x_s (x_s co 60 1) 61 0) 61 1) 62 1) 63 0) 63 1) 64 7) 65 (0 + d1 - 48)) 66 20) 67 0) 68 31) 30 = 1 from (by rw [x_s_ne (by decide), x_s_ne (by decide), x_s_ne (by decide), x_s_ne (by decide), x_s_ne (by decide), x_s_ne (by decide), x_s_ne (by decide), x_s_ne (by decide), x_s_ne (by decide), x_s_ne (by decide), x_s_ne (by decide)]; exact hco 30 (by decide))) (show (x_s (x_s (x_s (x_s (x_s (x_s (x_s (x_s (x_s (x_s (x_s co 60 1) 61 0) 61 1) 62 1) 63 0) 63 1) 64 7) 65 (0 + d1 - 48)) 66 20) 67 0) 68 31) 31 = 1 from (by rw [x_s_ne (by decide), x_s_ne (by decide), x_s_ne (by decide), x_s_ne (by decide), x_s_ne (by decide), x_s_ne (by decide), x_s_ne (by decide), x_s_ne (by decide), x_s_ne (by decide), x_s_ne (by decide), x_s_ne (by decide)]; exact hco 31 (by decide))) (show (x_s (x_s (x_s (x_s (x_s (x_s (x_s (x_s (x_s (x_s (x_s co 60 1) 61 0) 61 1) 62 1) 63 0) 63 1) 64 7) 65 (0 + d1 - 48)) 66 20) 67 0) 68 31) 32 = 1 from (by rw [x_s_ne (by decide), x_s_ne (by decide), x_s_ne (by decide), x_s_ne (by decide), x_s_ne (by decide), x_s_ne (by decide), x_s_ne (by decide), x_s_ne (by decide), x_s_ne (by decide), x_s_ne (by decide), x_s_ne (by decide)]; exact hco 32 (by decide))) (show (x_s (x_s (x_s (x_s (x_s (x_s (x_s (x_s (x_s (x_s (x_s co 60 1) 61 0) 61 1) 62 1) 63 0) 63 1) 64 7) 65 (0 + d1 - 48)) 66 20) 67 0) 68 31) 33 = 1 from (by rw [x_s_ne (by decide), x_s_ne (by decide), x_s_ne (by decide), x_s_ne (by decide), x_s_ne (by decide), x_s_ne (by decide), x_s_ne (by decide), x_s_ne (by decide), x_s_ne (by decide), x_s_ne (by decide), x_s_ne (by decide)]; exact hco 33 (by decide))) (show (x_s (x_s (x_s (x_s (x_s (x_s (x_s (x_s (x_s (x_s (x_s co 60 1) 61 0) 61 1) 62 1) 63 0) 63 1) 64 7) 65 (0 + d1 - 48)) 66 20) 67 0) 68 31) 34 = 1 from (by rw [x_s_ne (by decide), x_s_ne (by decide), x_s_ne (by decide), x_s_ne (by decide), x_s_ne (by decide), x_s_ne (by decide), x_s_ne (by decide), x_s_ne (by decide), x_s_ne (by decide), x_s_ne (by decide), x_s_ne (by decide)]; exact hco 34 (by decide))) (show (x_s (x_s (x_s (x_s (x_s (x_s (x_s (x_s (x_s (x_s (x_s co 60 1) 61 0) 61 1) 62 1) 63 0) 63 1) 64 7) 65 (0 + d1 - 48)) 66 20) 67 0) 68 31) 35 = 2 from (by rw [x_s_ne (by decide), x_s_ne (by decide), x_s_ne (by decide), x_s_ne (by decide), x_s_ne (by decide), x_s_ne (by decide), x_s_ne (by decide), x_s_ne (by decide), x_s_ne (by decide), x_s_ne (by decide), x_s_ne (by decide)]; exact hco 35 (by decide))) (show (x_s (x_s (x_s (x_s (x_s (x_s (x_s (x_s (x_s (x_s (x_s co 60 1) 61 0) 61 1) 62 1) 63 0) 63 1) 64 7) 65 (0 + d1 - 48)) 66 20) 67 0) 68 31) 36 = 10 from (by rw [x_s_ne (by decide), x_s_ne (by decide), x_s_ne (by decide), x_s_ne (by decide), x_s_ne (by decide), x_s_ne (by decide), x_s_ne (by decide), x_s_ne (by decide), x_s_ne (by decide), x_s_ne (by decide), x_s_ne (by decide)]; exact hco 36 (by decide))) (show (x_s (x_s (x_s (x_s (x_s (x_s (x_s (x_s (x_s (x_s (x_s co 60 1) 61 0) 61 1) 62 1) 63 0) 63 1) 64 7) 65 (0 + d1 - 48)) 66 20) 67 0) 68 31) 37 = 0 from (by rw [x_s_ne (by decide), x_s_ne (by decide), x_s_ne (by decide), x_s_ne (by decide), x_s_ne (by decide), x_s_ne (by decide), x_s_ne (by decide), x_s_ne (by decide), x_s_ne (by decide), x_s_ne (by decide), x_s_ne (by decide)]; exact hco 37 (by decide))) (show (x_s (x_s (x_s (x_s (x_s (x_s (x_s (x_s (x_s (x_s (x_s co 60 1) 61 0) 61 1) 62 1) 63 0) 63 1) 64 7) 65 (0 + d1 - 48)) 66 20) 67 0) 68 31) 38 = 11 from (by rw [x_s_ne (by decide), x_s_ne (by decide), x_s_ne (by decide), x_s_ne (by decide), x_s_ne (by decide), x_s_ne (by decide), x_s_ne (by decide), x_s_ne (by decide), x_s_ne (by decide), x_s_ne (by decide), x_s_ne (by decide)]; exact hco 38 (by decide))) (show (x_s (x_s (x_s (x_s (x_s (x_s (x_s (x_s (x_s (x_s (x_s co 60 1) 61 0) 61 1) 62 1) 63 0) 63 1) 64 7) 65 (0 + d1 - 48)) 66 20) 67 0) 68 31) 39 = 0 from (by rw [x_s_ne (by decide), x_s_ne (by decide), x_s_ne (by decide), x_s_ne (by decide), x_s_ne (by decide), x_s_ne (by decide), x_s_ne (by decide), x_s_ne (by decide), x_s_ne (by decide), x_s_ne (by decide), x_s_ne (by decide)]; exact hco 39 (by decide))) (show (x_s (x_s (x_s (x_s (x_s (x_s (x_s (x_s (x_s (x_s (x_s co 60 1) 61 0) 61 1) 62 1) 63 0) 63 1) 64 7) 65 (0 + d1 - 48)) 66 20) 67 0) 68 31) 40 = 19 from (by rw [x_s_ne (by decide), x_s_ne (by decide), x_s_ne (by decide), x_s_ne (by decide), x_s_ne (by decide), x_s_ne (by decide), x_s_ne (by decide), x_s_ne (by decide), x_s_ne (by decide), x_s_ne (by decide), x_s_ne (by decide)]; exact hco 40 (by decide))) (show (x_s (x_s (x_s (x_s (x_s (x_s (x_s (x_s (x_s (x_s (x_s co 60 1) 61 0) 61 1) 62 1) 63 0) 63 1) 64 7) 65 (0 + d1 - 48)) 66 20) 67 0) 68 31) 41 = 8 from (by rw [x_s_ne (by decide), x_s_ne (by decide), x_s_ne (by decide), x_s_ne (by decide), x_s_ne (by decide), x_s_ne (by decide), x_s_ne (by decide), x_s_ne (by decide), x_s_ne (by decide), x_s_ne (by decide), x_s_ne (by decide)]; exact hco 41 (by decide))) (show (x_s (x_s (x_s (x_s (x_s (x_s (x_s (x_s (x_s (x_s (x_s co 60 1) 61 0) 61 1) 62 1) 63 0) 63 1) 64 7) 65 (0 + d1 - 48)) 66 20) 67 0) 68 31) 42 = 27 from (by rw [x_s_ne (by decide), x_s_ne (by decide), x_s_ne (by decide), x_s_ne (by decide), x_s_ne (by decide), x_s_ne (by decide), x_s_ne (by decide), x_s_ne (by decide), x_s_ne (by decide), x_s_ne (by decide), x_s_ne (by decide)]; exact hco 42 (by decide))) (show (x_s (x_s (x_s (x_s (x_s (x_s (x_s (x_s (x_s (x_s (x_s co 60 1) 61 0) 61 1) 62 1) 63 0) 63 1) 64 7) 65 (0 + d1 - 48)) 66 20) 67 0) 68 31) 43 = 59 from (by rw [x_s_ne (by decide), x_s_ne (by decide), x_s_ne (by decide), x_s_ne (by decide), x_s_ne (by decide), x_s_ne (by decide), x_s_ne (by decide), x_s_ne (by decide), x_s_ne (by decide), x_s_ne (by decide), x_s_ne (by decide)]; exact hco 43 (by decide))) (show (x_s (x_s (x_s (x_s (x_s (x_s (x_s (x_s (x_s (x_s (x_s co 60 1) 61 0) 61 1) 62 1) 63 0) 63 1) 64 7) 65 (0 + d1 - 48)) 66 20) 67 0) 68 31) 44 = 1 from (by rw [x_s_ne (by decide), x_s_ne (by decide), x_s_ne (by decide), x_s_ne (by decide), x_s_ne (by decide), x_s_ne (by decide), x_s_ne (by decide), x_s_ne (by decide), x_s_ne (by decide), x_s_ne (by decide), x_s_ne (by decide)]; exact hco 44 (by decide))) (show (x_s (x_s (x_s (x_s (x_s (x_s (x_s (x_s (x_s (x_s (x_s co 60 1) 61 0) 61 1) 62 1) 63 0) 63 1) 64 7) 65 (0 + d1 - 48)) 66 20) 67 0) 68 31) 45 = 1 from (by rw [x_s_ne (by decide), x_s_ne (by decide), x_s_ne (by decide), x_s_ne (by decide), x_s_ne (by decide), x_s_ne (by decide), x_s_ne (by decide), x_s_ne (by decide), x_s_ne (by decide), x_s_ne (by decide), x_s_ne (by decide)]; exact hco 45 (by decide))) (show (x_s (x_s (x_s (x_s (x_s (x_s (x_s (x_s (x_s (x_s (x_s co 60 1) 61 0) 61 1) 62 1) 63 0) 63 1) 64 7) 65 (0 + d1 - 48)) 66 20) 67 0) 68 31) 46 = 1 from (by rw [x_s_ne (by decide), x_s_ne (by decide), x_s_ne (by decide), x_s_ne (by decide), x_s_ne (by decide), x_s_ne (by decide), x_s_ne (by decide), x_s_ne (by decide), x_s_ne (by decide), x_s_ne (by decide), x_s_ne (by decide)]; exact hco 46 (by decide))) (show (x_s (x_s (x_s (x_s (x_s (x_s (x_s (x_s (x_s (x_s (x_s co 60 1) 61 0) 61 1) 62 1) 63 0) 63 1) 64 7) 65 (0 + d1 - 48)) 66 20) 67 0) 68 31) 47 = 3 from (by rw [x_s_ne (by decide), x_s_ne (by decide), x_s_ne (by decide), x_s_ne (by decide), x_s_ne (by decide), x_s_ne (by decide), x_s_ne (by decide), x_s_ne (by decide), x_s_ne (by decide), x_s_ne (by decide), x_s_ne (by decide)]; exact hco 47 (by decide))) (show (x_s (x_s (x_s (x_s (x_s (x_s (x_s (x_s (x_s (x_s (x_s co 60 1) 61 0) 61 1) 62 1) 63 0) 63 1) 64 7) 65 (0 + d1 - 48)) 66 20) 67 0) 68 31) 48 = 10 from (by rw [x_s_ne (by decide), x_s_ne (by decide), x_s_ne (by decide), x_s_ne (by decide), x_s_ne (by decide), x_s_ne (by decide), x_s_ne (by decide), x_s_ne (by decide), x_s_ne (by decide), x_s_ne (by decide), x_s_ne (by decide)]; exact hco 48 (by decide))) (show (x_s (x_s (x_s (x_s (x_s (x_s (x_s (x_s (x_s (x_s (x_s co 60 1) 61 0) 61 1) 62 1) 63 0) 63 1) 64 7) 65 (0 + d1 - 48)) 66 20) 67 0) 68 31) 49 = 0 from (by rw [x_s_ne (by decide), x_s_ne (by decide), x_s_ne (by decide), x_s_ne (by decide), x_s_ne (by decide), x_s_ne (by decide), x_s_ne (by decide), x_s_ne (by decide), x_s_ne (by decide), x_s_ne (by decide), x_s_ne (by decide)]; exact hco 49 (by decide))) (show (x_s (x_s (x_s (x_s (x_s (x_s (x_s (x_s (x_s (x_s (x_s co 60 1) 61 0) 61 1) 62 1) 63 0) 63 1) 64 7) 65 (0 + d1 - 48)) 66 20) 67 0) 68 31) 50 = 11 from (by rw [x_s_ne (by decide), x_s_ne (by decide), x_s_ne (by decide), x_s_ne (by decide), x_s_ne (by decide), x_s_ne (by decide), x_s_ne (by decide), x_s_ne (by decide), x_s_ne (by decide), x_s_ne (by decide), x_s_ne (by decide)]; exact hco 50 (by decide))) (show (x_s (x_s (x_s (x_s (x_s (x_s (x_s (x_s (x_s (x_s (x_s co 60 1) 61 0) 61 1) 62 1) 63 0) 63 1) 64 7) 65 (0 + d1 - 48)) 66 20) 67 0) 68 31) 51 = 0 from (by rw [x_s_ne (by decide), x_s_ne (by decide), x_s_ne (by decide), x_s_ne (by decide), x_s_ne (by decide), x_s_ne (by decide), x_s_ne (by decide), x_s_ne (by decide), x_s_ne (by decide), x_s_ne (by decide), x_s_ne (by decide)]; exact hco 51 (by decide))) (show (x_s (x_s (x_s (x_s (x_s (x_s (x_s (x_s (x_s (x_s (x_s co 60 1) 61 0) 61 1) 62 1) 63 0) 63 1) 64 7) 65 (0 + d1 - 48)) 66 20) 67 0) 68 31) 52 = 1 from (by rw [x_s_ne (by decide), x_s_ne (by decide), x_s_ne (by decide), x_s_ne (by decide), x_s_ne (by decide), x_s_ne (by decide), x_s_ne (by decide), x_s_ne (by decide), x_s_ne (by decide), x_s_ne (by decide), x_s_ne (by decide)]; exact hco 52 (by decide))) (show (x_s (x_s (x_s (x_s (x_s (x_s (x_s (x_s (x_s (x_s (x_s co 60 1) 61 0) 61 1) 62 1) 63 0) 63 1) 64 7) 65 (0 + d1 - 48)) 66 20) 67 0) 68 31) 53 = 1 from (by rw [x_s_ne (by decide), x_s_ne (by decide), x_s_ne (by decide), x_s_ne (by decide), x_s_ne (by decide), x_s_ne (by decide), x_s_ne (by decide), x_s_ne (by decide), x_s_ne (by decide), x_s_ne (by decide), x_s_ne (by decide)]; exact hco 53 (by decide))) (show (x_s (x_s (x_s (x_s (x_s (x_s (x_s (x_s (x_s (x_s (x_s co 60 1) 61 0) 61 1) 62 1) 63 0) 63 1) 64 7) 65 (0 + d1 - 48)) 66 20) 67 0) 68 31) 54 = 3 from (by rw [x_s_ne (by decide), x_s_ne (by decide), x_s_ne (by decide), x_s_ne (by decide), x_s_ne (by decide), x_s_ne (by decide), x_s_ne (by decide), x_s_ne (by decide), x_s_ne (by decide), x_s_ne (by decide), x_s_ne (by decide)]; exact hco 54 (by decide))) (show (x_s (x_s (x_s (x_s (x_s (x_s (x_s (x_s (x_s (x_s (x_s co 60 1) 61 0) 61 1) 62 1) 63 0) 63 1) 64 7) 65 (0 + d1 - 48)) 66 20) 67 0) 68 31) 55 = 1 from (by rw [x_s_ne (by decide), x_s_ne (by decide), x_s_ne (by decide), x_s_ne (by decide), x_s_ne (by decide), x_s_ne (by decide), x_s_ne (by decide), x_s_ne (by decide), x_s_ne (by decide), x_s_ne (by decide), x_s_ne (by decide)]; exact hco 55 (by decide))) (show (x_s (x_s (x_s (x_s (x_s (x_s (x_s (x_s (x_s (x_s (x_s co 60 1) 61 0) 61 1) 62 1) 63 0) 63 1) 64 7) 65 (0 + d1 - 48)) 66 20) 67 0) 68 31) 56 = 13 from (by rw [x_s_ne (by decide), x_s_ne (by decide), x_s_ne (by decide), x_s_ne (by decide), x_s_ne (by decide), x_s_ne (by decide), x_s_ne (by decide), x_s_ne (by decide), x_s_ne (by decide), x_s_ne (by decide), x_s_ne (by decide)]; exact hco 56 (by decide))) (show (x_s (x_s (x_s (x_s (x_s (x_s (x_s (x_s (x_s (x_s (x_s co 60 1) 61 0) 61 1) 62 1) 63 0) 63 1) 64 7) 65 (0 + d1 - 48)) 66 20) 67 0) 68 31) 57 = 69 from (by rw [x_s_ne (by decide), x_s_ne (by decide), x_s_ne (by decide), x_s_ne (by decide), x_s_ne (by decide), x_s_ne (by decide), x_s_ne (by decide), x_s_ne (by decide), x_s_ne (by decide), x_s_ne (by decide), x_s_ne (by decide)]; exact hco 57 (by decide))) (show (x_s (x_s (x_s (x_s (x_s (x_s (x_s (x_s (x_s (x_s (x_s co 60 1) 61 0) 61 1) 62 1) 63 0) 63 1) 64 7) 65 (0 + d1 - 48)) 66 20) 67 0) 68 31) 58 = 31 from (by rw [x_s_ne (by decide), x_s_ne (by decide), x_s_ne (by decide), x_s_ne (by decide), x_s_ne (by decide), x_s_ne (by decide), x_s_ne (by decide), x_s_ne (by decide), x_s_ne (by decide), x_s_ne (by decide), x_s_ne (by decide)]; exact hco 58 (by decide))) (show (x_s (x_s (x_s (x_s (x_s (x_s (x_s (x_s (x_s (x_s (x_s co 60 1) 61 0) 61 1) 62 1) 63 0) 63 1) 64 7) 65 (0 + d1 - 48)) 66 20) 67 0) 68 31) 59 = 32 from (by rw [x_s_ne (by decide), x_s_ne (by decide), x_s_ne (by decide), x_s_ne (by decide), x_s_ne (by decide), x_s_ne (by decide), x_s_ne (by decide), x_s_ne (by decide), x_s_ne (by decide), x_s_ne (by decide), x_s_ne (by decide)]; exact hco 59 (by decide))) (by omega) h1 hisA hbit hk) rfl (fun w9 φ9 n9 sl9 hn9 hN9 hs9 hT9 hR9 => ?_)
  obtain ⟨v9, hwv9, ⟨ka9, kb9, kc9, kd9, ke9, kf9, kg9, kh9, ki9, kj9, hK9⟩, hV9, frn9⟩ := hR9
  subst hwv9
  refine x_n_lt (fun hlt10 => ?_)
  have hz11 := x_mv_lt hV9 hlt10
  have hy11 := hV9.1
  refine q_store (loc2 := [(6, 0, 0), (0, 60, 0), (6, 225, 0), (6, v9, 0)]) (p2 := 6) rfl rfl rfl rfl rfl ?_
  refine q_load (v := (6, 0, 0)) (p2 := 7) rfl rfl rfl rfl ?_
  have hm12 := (zq_H_at hm7 (frn9 0 (by omega) (by omega)))
  refine q_getv (v := (6, 455, 0)) (p2 := 8) rfl hm12 (by decide) rfl rfl ?_
  refine q_getv (v := (0, 0, 0)) (p2 := 9) rfl (x_KS_455 hK9) (by decide) hK9.1.choose_spec.2.2.2.2.2.2.2.2.2.2.2.2.2.2.2.2.2.1 rfl ?_
  refine q_if0_s (p2 := 10) rfl (by decide) (by omega) rfl (fun _ => ?_) (fun hb => absurd (show 0 = 0 by omega) hb)
  refine q_load (v := (6, 0, 0)) (p2 := 13) rfl rfl rfl rfl ?_
  refine q_load (v := (6, v9, 0)) (p2 := 14) rfl rfl rfl rfl ?_
  refine q_putfE (v := (6, v9, 0)) (p2 := 15) rfl hm12 (by decide) rfl rfl (fun φ13 f13 hh13 hg13 ho13 fr13 => ?_)
  have hs13 := zq_H_put_0_10 hm12 hh13 hg13 ho13 fr13
  refine q_load (v := (6, 0, 0)) (p2 := 16) rfl rfl rfl rfl ?_
  refine q_getv (v := (6, v9, 0)) (p2 := 17) rfl hs13 (by decide) rfl rfl ?_
  refine x_n_lt (fun hlt15 => ?_)
  have hv14 := x_mv_at hV9 (fun j hj hne => by have hj2 := x_some_lt hlt10 hne; exact (fr13 j (by omega)))
  obtain ⟨fV16, hW16, hg16⟩ := x_mv_gS hv14 (by decide)
  have hl16 := hlt15 _ _ hW16
  have h6_16 := hv14.1
  refine q_getv (v := (0, 0, 0)) (p2 := 18) rfl hW16 (by decide) hg16.1 rfl ?_
  refine q_retv (v := (0, 0, 0)) rfl rfl ⟨rfl, by omega, by omega, ?_⟩
  have hm17 := (zq_tp_at hB ((fr13 1 (by decide)).trans ((frn9 1 (by omega) (by omega)).trans ((frn5 1 (by omega) (by omega) (by omega)).trans (fr1 1 (by decide) (by decide) (by decide) (by decide) (by decide) (by decide) (by decide))))))
  have hm18 := (zq_T_at hs1_1 ((fr13 2 (by decide)).trans ((frn9 2 (by omega) (by omega)).trans (frn5 2 (by omega) (by omega) (by omega)))) ((fr13 3 (by decide)).trans ((frn9 3 (by omega) (by omega)).trans (frn5 3 (by omega) (by omega) (by omega)))) ((fr13 4 (by decide)).trans ((frn9 4 (by omega) (by omega)).trans (frn5 4 (by omega) (by omega) (by omega)))) ((fr13 5 (by decide)).trans ((frn9 5 (by omega) (by omega)).trans (frn5 5 (by omega) (by omega) (by omega)))) ((fr13 6 (by decide)).trans ((frn9 6 (by omega) (by omega)).trans (frn5 6 (by omega) (by omega) (by omega)))))
  have hm19 := (zq_E_at hs1_2 ((fr13 232 (by decide)).trans ((frn9 232 (by omega) (by omega)).trans (frn5 232 (by omega) (by omega) (by omega)))))
  have hm20 := (zq_nm_at hN ((fr13 239 (by decide)).trans ((frn9 239 (by omega) (by omega)).trans ((frn5 239 (by omega) (by omega) (by omega)).trans (fr1 239 (by decide) (by decide) (by decide) (by decide) (by decide) (by decide) (by decide))))) ((fr13 242 (by decide)).trans ((frn9 242 (by omega) (by omega)).trans ((frn5 242 (by omega) (by omega) (by omega)).trans (fr1 242 (by decide) (by decide) (by decide) (by decide) (by decide) (by decide) (by decide))))) ((fr13 244 (by decide)).trans ((frn9 244 (by omega) (by omega)).trans ((frn5 244 (by omega) (by omega) (by omega)).trans (fr1 244 (by decide) (by decide) (by decide) (by decide) (by decide) (by decide) (by decide))))))
  have hm21 := (x_KS_at2 hK9 (fun j h1 h2 h3 h4 => (fr13 j (by omega))))
  have hm22 := (x_PS_at hPS5 (fun j hj hne => by have hj2 := x_some_lt hlt6 hne; exact ((fr13 j (by omega)).trans (frn9 j (by omega) (by omega)))))
  have hm23 := (x_LK_at2 hLKx5 (fun j h1 h2 => ((fr13 j (by omega)).trans (frn9 j (by omega) (by omega)))))
  have hm24 := (x_SP_at hSP (fun j hj hne => by have hj2 := x_some_lt hlt0 hne; exact ((fr13 j (by omega)).trans ((frn9 j (by omega) (by omega)).trans ((frn5 j (by omega) (by omega) (by omega)).trans (fr1 j (by omega) (by omega) (by omega) (by omega) (by omega) (by omega) (by omega)))))))
  have hm25 := (zq_V5_at hV5 ((fr13 485 (by decide)).trans ((frn9 485 (by omega) (by omega)).trans ((frn5 485 (by omega) (by omega) (by omega)).trans (fr1 485 (by decide) (by decide) (by decide) (by decide) (by decide) (by decide) (by decide))))))
  have hm26 := (zq_SL_at hSL ((fr13 482 (by decide)).trans ((frn9 482 (by omega) (by omega)).trans ((frn5 482 (by omega) (by omega) (by omega)).trans (fr1 482 (by decide) (by decide) (by decide) (by decide) (by decide) (by decide) (by decide))))))
  have hm27 := (zq_RW_at hRW ((fr13 483 (by decide)).trans ((frn9 483 (by omega) (by omega)).trans ((frn5 483 (by omega) (by omega) (by omega)).trans (fr1 483 (by decide) (by decide) (by decide) (by decide) (by decide) (by decide) (by decide))))))
  have hm28 := (zq_J_at hJ ((fr13 468 (by decide)).trans ((frn9 468 (by omega) (by omega)).trans ((frn5 468 (by omega) (by omega) (by omega)).trans (fr1 468 (by decide) (by decide) (by decide) (by decide) (by decide) (by decide) (by decide))))) ((fr13 469 (by decide)).trans ((frn9 469 (by omega) (by omega)).trans ((frn5 469 (by omega) (by omega) (by omega)).trans (fr1 469 (by decide) (by decide) (by decide) (by decide) (by decide) (by decide) (by decide))))) ((fr13 470 (by decide)).trans ((frn9 470 (by omega) (by omega)).trans ((frn5 470 (by omega) (by omega) (by omega)).trans (fr1 470 (by decide) (by decide) (by decide) (by decide) (by decide) (by decide) (by decide))))))
  have hm29 := (zFJ_at hFJ (fun j h1 h2 => ((fr13 j (by omega)).trans ((frn9 j (by omega) (by omega)).trans ((frn5 j (by omega) (by omega) (by omega)).trans (fr1 j (by omega) (by omega) (by omega) (by omega) (by omega) (by omega) (by omega)))))))
  have hm30 := (zWJ_at hWJ (fun j h1 h2 => ((fr13 j (by omega)).trans ((frn9 j (by omega) (by omega)).trans ((frn5 j (by omega) (by omega) (by omega)).trans (fr1 j (by omega) (by omega) (by omega) (by omega) (by omega) (by omega) (by omega)))))))
  have hm31 := (zq_OV_at hOV ((fr13 452 (by decide)).trans ((frn9 452 (by omega) (by omega)).trans ((frn5 452 (by omega) (by omega) (by omega)).trans (fr1 452 (by decide) (by decide) (by decide) (by decide) (by decide) (by decide) (by decide))))) ((fr13 453 (by decide)).trans ((frn9 453 (by omega) (by omega)).trans ((frn5 453 (by omega) (by omega) (by omega)).trans (fr1 453 (by decide) (by decide) (by decide) (by decide) (by decide) (by decide) (by decide))))))
  exact q_retv (v := (0, 0, 0)) rfl rfl (⟨rfl, ⟨by omega, by omega⟩, ⟨by omega, by omega⟩, rfl, ⟨⟨_, _, hs13, (Or.inl hv14)⟩, hm17, ⟨_, _, _, _, _, _, _, _, _, _, _, _, _, _, hm18⟩, ⟨_, _, _, _, _, _, _, hm19⟩, hm20, ⟨_, ⟨_, _, _, _, _, _, _, _, _, _, hm21⟩, (fun i hi => by rw [x_s_ne (by omega), x_s_ne (by omega), x_s_ne (by omega), x_s_ne (by omega), x_s_ne (by omega), x_s_ne (by omega), x_s_ne (by omega), x_s_ne (by omega), x_s_ne (by omega), x_s_ne (by omega), x_s_ne (by omega)]; exact hco i hi)⟩, ⟨_, _, _, hm22, hm23⟩, hm24, hm25, ⟨_, hm26⟩, hm27, hm28, hm29, hm30, ⟨_, _, hm31, hovn, hovh⟩⟩⟩)
set_option maxHeartbeats 1000000 in
theorem zc_work_call_y1 {d n sl : Nat} {φ : FH} {tp : Nat → Nat} {lf : Nat} {mi : Nat} {made : Nat} {sv : Nat} {svm : Nat} {comb : Nat → Nat} {hm : Nat → MV} {sc : Nat → Nat} {sm : Nat → MV} {mh : MV} {noted : Nat} {verd : Nat} {ins : Nat → Nat} {ver : Nat → Nat} {sz : Nat} {bw : Nat → Nat} {w1 kk d1 : Nat} (hG : zG φ 5 tp lf mi made sv svm comb hm sc sm mh noted verd ins ver sz bw) (hn0 : 486 ≤ n) (hpv : ∀ i, x_pv2 (hm i)) (hmi : mi + 100 ≤ 20000) (ht0 : tp 0 = 102) (ht1 : tp 1 = 40) (ht2 : tp 2 = 35) (ht3 : tp 3 = d1) (ht4 : tp 4 = 41) (hdd1 : 48 ≤ d1 ∧ d1 ≤ 57) (hw_1 : 0 + d1 - 48 = w1) (hw1 : w1 < 512) (h1 : w1 < made ∧ comb w1 ≠ 0) (hisA : x_isA made comb w1 0) (hbit : 1 &&& comb w1 ≠ 0) (hk : hm (w1 * 40 + 0) = (1, kk, 0, 0, [])) (hkk : kk < 1024) : x_f x_P (d + 20) 28 [(6, 0, 0), (11, 0, 0)] φ n sl (x_bR n sl 4 28 (fun zw φ2 => zw = (0, 1, 0) ∧ zG φ2 0 tp 0 (mi + 11) made sv svm comb hm sc sm (1, kk + 1, 0, 0, []) noted verd ins ver sz bw)) := by
  refine x_f_of rfl ?_
  have hG0 := hG
  obtain ⟨⟨hand, ie, hH, hhw⟩, hB, hTJ, hEJ, hN, hKJ, ⟨A, B, s9, hPS, hLK0⟩, hSP, hV5, ⟨slq, hSL⟩, hRW, hJ, hFJ, hWJ, ⟨ovn, ovh, hOV, hovn, hovh⟩⟩ := hG
  refine x_n_lt (fun hlt0 => ?_)
  have hmade := x_PS_lt hPS
  obtain ⟨tot, at_, cur, pl, va, fa, fp, sf, sp, no, op, K, P, V, hT⟩ := hTJ
  obtain ⟨bi, top, hid, lc, slo, own, sk, hE⟩ := hEJ
  obtain ⟨co, ⟨top_, fr_, pc_, mm, st, lo, re, rs, fl, se, hKS⟩, hco⟩ := hKJ
  refine q_load (v := (6, 0, 0)) (p2 := 1) rfl rfl rfl rfl ?_
  refine q_callrE (xs := [(6, 0, 0)]) (p2 := 2) rfl rfl rfl rfl (x_rcv_s 0 hH) rfl (zc_h_rx_call hH hB hT hE hKS hPS hN ht0 ht1 ht2 ht3 ht4 (by omega)) (Nat.le_refl _) (Nat.le_refl _) rfl (fun φ1 hR1 => ?_)
  obtain ⟨hs1_0, hs1_1, hs1_2, hs1_3, fr1⟩ := hR1
  refine q_store (loc2 := [(6, 0, 0), (0, 60, 0)]) (p2 := 3) rfl rfl rfl rfl rfl ?_
  refine q_load (v := (0, 60, 0)) (p2 := 4) rfl rfl rfl rfl ?_
  refine q_if0_s (p2 := 5) rfl (by decide) (by omega) rfl (fun _ => ?_) (fun hb => absurd (show ¬ (60 < 0) by omega) hb)
  refine q_load (v := (6, 0, 0)) (p2 := 8) rfl rfl rfl rfl ?_
  refine q_getv (v := (6, 7, 0)) (p2 := 9) rfl hs1_0 (by decide) rfl rfl ?_
  refine x_n_lt (fun hlt3 => ?_)
  have hm2 := (x_PS_at hPS (fun j hj hne => by have hj2 := x_some_lt hlt0 hne; exact (fr1 j (by omega) (by omega) (by omega) (by omega) (by omega) (by omega) (by omega))))
  have hm4 := (x_LK_at2 hLK0 (fun j h1 h2 => (fr1 j (by omega) (by omega) (by omega) (by omega) (by omega) (by omega) (by omega))))
  refine q_callvE (xs := [(6, 7, 0)]) (p2 := 10) rfl rfl rfl rfl (x_rcv_s 7 hm2.1.choose_spec.1) rfl (e_prepare hm2 hm4.1 hpv hs1_3.2.2.2.2.2.2.2.2.2) (Nat.le_refl _) (Nat.le_refl _) rfl (fun φ5 hR5 => ?_)
  obtain ⟨A5, B5, hPS5, hLK5, frn5⟩ := hR5
  have hAB5 := x_pop_AB hPS5.1.choose_spec
  obtain ⟨lik5, lb5, hL5, hLb5, hlk5⟩ := id hLK5
  refine x_n_lt (fun hlt6 => ?_)
  have hLKx5 : x_LK φ5 A5 B5 made 0 comb hm ∧ _ := ⟨hLK5, hAB5⟩
  refine q_load (v := (6, 0, 0)) (p2 := 11) rfl rfl rfl rfl ?_
  refine q_load (v := (0, 60, 0)) (p2 := 12) rfl rfl rfl rfl ?_
  refine q_load (v := (6, 0, 0)) (p2 := 13) rfl rfl rfl rfl ?_
  have hm7 := (zq_H_at hs1_0 (frn5 0 (by omega) (by omega) (by omega)))
  refine q_getv (v := (6, 7, 0)) (p2 := 14) rfl hm7 (by decide) rfl rfl ?_
  refine q_getv (v := (6, 225, 0)) (p2 := 15) rfl hPS5.1.choose_spec.1 (by decide) hPS5.1.choose_spec.2.2.1 rfl ?_
  refine q_callK (xs := [(6, 225, 0), (0, 60, 0), (6, 0, 0)]) (p2 := 16) rfl rfl rfl rfl (x_rcv_s 0 hm7) rfl rfl ?_
  refine x_f_of rfl ?_
  refine q_load (v := (6, 0, 0)) (p2 := 1) rfl rfl rfl rfl ?_
  refine q_getv (v := (6, 455, 0)) (p2 := 2) rfl hm7 (by decide) rfl rfl ?_
  refine q_load (v := (0, 60, 0)) (p2 := 3) rfl rfl rfl rfl ?_
  refine q_load (v := (6, 225, 0)) (p2 := 4) rfl rfl rfl rfl ?_
  have hm8 := (x_KS_at2 hs1_3 (fun j h1 h2 h3 h4 => (frn5 j (by omega) (by omega) (by omega))))
  refine q_callrB (xs := [(6, 225, 0), (0, 60, 0), (6, 455, 0)]) (p2 := 5) rfl rfl rfl rfl (x_rcv_s 455 (x_KS_455 hm8)) rfl (zc_run_call_y1 hPS5 hm8 (by omega) (by omega) (((x_s_ne (by decide)).trans ((x_s_ne (by decide)).trans ((x_s_ne (by decide)).trans ((x_s_ne (by decide)).trans ((x_s_ne (by decide)).trans ((x_s_ne (by decide)).trans ((x_s_ne (by decide)).trans ((x_s_ne (by decide)).trans ((x_s_ne (by decide)).trans ((x_s_ne (by decide)).trans (x_s_eq)))))))))))) (((x_s_ne (by decide)).trans ((x_s_ne (by decide)).trans ((x_s_ne (by decide)).trans ((x_s_ne (by decide)).trans ((x_s_ne (by decide)).trans ((x_s_ne (by decide)).trans ((x_s_ne (by decide)).trans ((x_s_ne (by decide)).trans (x_s_eq)))))))))) (((x_s_ne (by decide)).trans ((x_s_ne (by decide)).trans ((x_s_ne (by decide)).trans ((x_s_ne (by decide)).trans ((x_s_ne (by decide)).trans ((x_s_ne (by decide)).trans ((x_s_ne (by decide)).trans (x_s_eq))))))))) (((x_s_ne (by decide)).trans ((x_s_ne (by decide)).trans ((x_s_ne (by decide)).trans ((x_s_ne (by decide)).trans ((x_s_ne (by decide)).trans (x_s_eq))))))) (((x_s_ne (by decide)).trans ((x_s_ne (by decide)).trans ((x_s_ne (by decide)).trans ((x_s_ne (by decide)).trans (x_s_eq)))))) ((((x_s_ne (by decide)).trans ((x_s_ne (by decide)).trans ((x_s_ne (by decide)).trans (x_s_eq))))).trans hw_1) (((x_s_ne (by decide)).trans ((x_s_ne (by decide)).trans (x_s_eq)))) (((x_s_ne (by decide)).trans (x_s_eq))) ((x_s_eq)) (show (x_s (x_s (x_s (x_s (x_s (x_s (x_s (x_s (x_s (x_s (x_s co 60 1) 61 0) 61 1) 62 1) 63 0) 63 1) 64 7) 65 (0 + d1 - 48)) 66 20) 67 0) 68 31) 30 = 1 from (by rw [x_s_ne (by decide), x_s_ne (by decide), x_s_ne (by decide), x_s_ne (by decide), x_s_ne (by decide), x_s_ne (by decide), x_s_ne (by decide), x_s_ne (by decide), x_s_ne (by decide), x_s_ne (by decide), x_s_ne (by decide)]; exact hco 30 (by decide))) (show (x_s (x_s (x_s (x_s (x_s (x_s (x_s (x_s (x_s (x_s (x_s co 60 1) 61 0) 61 1) 62 1) 63 0) 63 1) 64 7) 65 (0 + d1 - 48)) 66 20) 67 0) 68 31) 31 = 1 from (by rw [x_s_ne (by decide), x_s_ne (by decide), x_s_ne (by decide), x_s_ne (by decide), x_s_ne (by decide), x_s_ne (by decide), x_s_ne (by decide), x_s_ne (by decide), x_s_ne (by decide), x_s_ne (by decide), x_s_ne (by decide)]; exact hco 31 (by decide))) (show (x_s (x_s (x_s (x_s (x_s (x_s (x_s (x_s (x_s (x_s (x_s co 60 1) 61 0) 61 1) 62 1) 63 0) 63 1) 64 7) 65 (0 + d1 - 48)) 66 20) 67 0) 68 31) 32 = 1 from (by rw [x_s_ne (by decide), x_s_ne (by decide), x_s_ne (by decide), x_s_ne (by decide), x_s_ne (by decide), x_s_ne (by decide), x_s_ne (by decide), x_s_ne (by decide), x_s_ne (by decide), x_s_ne (by decide), x_s_ne (by decide)]; exact hco 32 (by decide))) (show (x_s (x_s (x_s (x_s (x_s (x_s (x_s (x_s (x_s (x_s (x_s co 60 1) 61 0) 61 1) 62 1) 63 0) 63 1) 64 7) 65 (0 + d1 - 48)) 66 20) 67 0) 68 31) 33 = 1 from (by rw [x_s_ne (by decide), x_s_ne (by decide), x_s_ne (by decide), x_s_ne (by decide), x_s_ne (by decide), x_s_ne (by decide), x_s_ne (by decide), x_s_ne (by decide), x_s_ne (by decide), x_s_ne (by decide), x_s_ne (by decide)]; exact hco 33 (by decide))) (show (x_s (x_s (x_s (x_s (x_s (x_s (x_s (x_s (x_s (x_s (x_s co 60 1) 61 0) 61 1) 62 1) 63 0) 63 1) 64 7) 65 (0 + d1 - 48)) 66 20) 67 0) 68 31) 34 = 1 from (by rw [x_s_ne (by decide), x_s_ne (by decide), x_s_ne (by decide), x_s_ne (by decide), x_s_ne (by decide), x_s_ne (by decide), x_s_ne (by decide), x_s_ne (by decide), x_s_ne (by decide), x_s_ne (by decide), x_s_ne (by decide)]; exact hco 34 (by decide))) (show (x_s (x_s (x_s (x_s (x_s (x_s (x_s (x_s (x_s (x_s (x_s co 60 1) 61 0) 61 1) 62 1) 63 0) 63 1) 64 7) 65 (0 + d1 - 48)) 66 20) 67 0) 68 31) 35 = 2 from (by rw [x_s_ne (by decide), x_s_ne (by decide), x_s_ne (by decide), x_s_ne (by decide), x_s_ne (by decide), x_s_ne (by decide), x_s_ne (by decide), x_s_ne (by decide), x_s_ne (by decide), x_s_ne (by decide), x_s_ne (by decide)]; exact hco 35 (by decide))) (show (x_s (x_s (x_s (x_s (x_s (x_s (x_s (x_s (x_s (x_s (x_s co 60 1) 61 0) 61 1) 62 1) 63 0) 63 1) 64 7) 65 (0 + d1 - 48)) 66 20) 67 0) 68 31) 36 = 10 from (by rw [x_s_ne (by decide), x_s_ne (by decide), x_s_ne (by decide), x_s_ne (by decide), x_s_ne (by decide), x_s_ne (by decide), x_s_ne (by decide), x_s_ne (by decide), x_s_ne (by decide), x_s_ne (by decide), x_s_ne (by decide)]; exact hco 36 (by decide))) (show (x_s (x_s (x_s (x_s (x_s (x_s (x_s (x_s (x_s (x_s (x_s co 60 1) 61 0) 61 1) 62 1) 63 0) 63 1) 64 7) 65 (0 + d1 - 48)) 66 20) 67 0) 68 31) 37 = 0 from (by rw [x_s_ne (by decide), x_s_ne (by decide), x_s_ne (by decide), x_s_ne (by decide), x_s_ne (by decide), x_s_ne (by decide), x_s_ne (by decide), x_s_ne (by decide), x_s_ne (by decide), x_s_ne (by decide), x_s_ne (by decide)]; exact hco 37 (by decide))) (show (x_s (x_s (x_s (x_s (x_s (x_s (x_s (x_s (x_s (x_s (x_s co 60 1) 61 0) 61 1) 62 1) 63 0) 63 1) 64 7) 65 (0 + d1 - 48)) 66 20) 67 0) 68 31) 38 = 11 from (by rw [x_s_ne (by decide), x_s_ne (by decide), x_s_ne (by decide), x_s_ne (by decide), x_s_ne (by decide), x_s_ne (by decide), x_s_ne (by decide), x_s_ne (by decide), x_s_ne (by decide), x_s_ne (by decide), x_s_ne (by decide)]; exact hco 38 (by decide))) (show (x_s (x_s (x_s (x_s (x_s (x_s (x_s (x_s (x_s (x_s (x_s co 60 1) 61 0) 61 1) 62 1) 63 0) 63 1) 64 7) 65 (0 + d1 - 48)) 66 20) 67 0) 68 31) 39 = 0 from (by rw [x_s_ne (by decide), x_s_ne (by decide), x_s_ne (by decide), x_s_ne (by decide), x_s_ne (by decide), x_s_ne (by decide), x_s_ne (by decide), x_s_ne (by decide), x_s_ne (by decide), x_s_ne (by decide), x_s_ne (by decide)]; exact hco 39 (by decide))) (show (x_s (x_s (x_s (x_s (x_s (x_s (x_s (x_s (x_s (x_s (x_s co 60 1) 61 0) 61 1) 62 1) 63 0) 63 1) 64 7) 65 (0 + d1 - 48)) 66 20) 67 0) 68 31) 40 = 19 from (by rw [x_s_ne (by decide), x_s_ne (by decide), x_s_ne (by decide), x_s_ne (by decide), x_s_ne (by decide), x_s_ne (by decide), x_s_ne (by decide), x_s_ne (by decide), x_s_ne (by decide), x_s_ne (by decide), x_s_ne (by decide)]; exact hco 40 (by decide))) (show (x_s (x_s (x_s (x_s (x_s (x_s (x_s (x_s (x_s (x_s (x_s co 60 1) 61 0) 61 1) 62 1) 63 0) 63 1) 64 7) 65 (0 + d1 - 48)) 66 20) 67 0) 68 31) 41 = 8 from (by rw [x_s_ne (by decide), x_s_ne (by decide), x_s_ne (by decide), x_s_ne (by decide), x_s_ne (by decide), x_s_ne (by decide), x_s_ne (by decide), x_s_ne (by decide), x_s_ne (by decide), x_s_ne (by decide), x_s_ne (by decide)]; exact hco 41 (by decide))) (show (x_s (x_s (x_s (x_s (x_s (x_s (x_s (x_s (x_s (x_s (x_s co 60 1) 61 0) 61 1) 62 1) 63 0) 63 1) 64 7) 65 (0 + d1 - 48)) 66 20) 67 0) 68 31) 42 = 27 from (by rw [x_s_ne (by decide), x_s_ne (by decide), x_s_ne (by decide), x_s_ne (by decide), x_s_ne (by decide), x_s_ne (by decide), x_s_ne (by decide), x_s_ne (by decide), x_s_ne (by decide), x_s_ne (by decide), x_s_ne (by decide)]; exact hco 42 (by decide))) (show (x_s (x_s (x_s (x_s (x_s (x_s (x_s (x_s (x_s (x_s (x_s co 60 1) 61 0) 61 1) 62 1) 63 0) 63 1) 64 7) 65 (0 + d1 - 48)) 66 20) 67 0) 68 31) 43 = 59 from (by rw [x_s_ne (by decide), x_s_ne (by decide), x_s_ne (by decide), x_s_ne (by decide), x_s_ne (by decide), x_s_ne (by decide), x_s_ne (by decide), x_s_ne (by decide), x_s_ne (by decide), x_s_ne (by decide), x_s_ne (by decide)]; exact hco 43 (by decide))) (show (x_s (x_s (x_s (x_s (x_s (x_s (x_s (x_s (x_s (x_s (x_s co 60 1) 61 0) 61 1) 62 1) 63 0) 63 1) 64 7) 65 (0 + d1 - 48)) 66 20) 67 0) 68 31) 44 = 1 from (by rw [x_s_ne (by decide), x_s_ne (by decide), x_s_ne (by decide), x_s_ne (by decide), x_s_ne (by decide), x_s_ne (by decide), x_s_ne (by decide), x_s_ne (by decide), x_s_ne (by decide), x_s_ne (by decide), x_s_ne (by decide)]; exact hco 44 (by decide))) (show (x_s (x_s (x_s (x_s (x_s (x_s (x_s (x_s (x_s (x_s (x_s co 60 1) 61 0) 61 1) 62 1) 63 0) 63 1) 64 7) 65 (0 + d1 - 48)) 66 20) 67 0) 68 31) 45 = 1 from (by rw [x_s_ne (by decide), x_s_ne (by decide), x_s_ne (by decide), x_s_ne (by decide), x_s_ne (by decide), x_s_ne (by decide), x_s_ne (by decide), x_s_ne (by decide), x_s_ne (by decide), x_s_ne (by decide), x_s_ne (by decide)]; exact hco 45 (by decide))) (show (x_s (x_s (x_s (x_s (x_s (x_s (x_s (x_s (x_s (x_s (x_s co 60 1) 61 0) 61 1) 62 1) 63 0) 63 1) 64 7) 65 (0 + d1 - 48)) 66 20) 67 0) 68 31) 46 = 1 from (by rw [x_s_ne (by decide), x_s_ne (by decide), x_s_ne (by decide), x_s_ne (by decide), x_s_ne (by decide), x_s_ne (by decide), x_s_ne (by decide), x_s_ne (by decide), x_s_ne (by decide), x_s_ne (by decide), x_s_ne (by decide)]; exact hco 46 (by decide))) (show (x_s (x_s (x_s (x_s (x_s (x_s (x_s (x_s (x_s (x_s (x_s co 60 1) 61 0) 61 1) 62 1) 63 0) 63 1) 64 7) 65 (0 + d1 - 48)) 66 20) 67 0) 68 31) 47 = 3 from (by rw [x_s_ne (by decide), x_s_ne (by decide), x_s_ne (by decide), x_s_ne (by decide), x_s_ne (by decide), x_s_ne (by decide), x_s_ne (by decide), x_s_ne (by decide), x_s_ne (by decide), x_s_ne (by decide), x_s_ne (by decide)]; exact hco 47 (by decide))) (show (x_s (x_s (x_s (x_s (x_s (x_s (x_s (x_s (x_s (x_s (x_s co 60 1) 61 0) 61 1) 62 1) 63 0) 63 1) 64 7) 65 (0 + d1 - 48)) 66 20) 67 0) 68 31) 48 = 10 from (by rw [x_s_ne (by decide), x_s_ne (by decide), x_s_ne (by decide), x_s_ne (by decide), x_s_ne (by decide), x_s_ne (by decide), x_s_ne (by decide), x_s_ne (by decide), x_s_ne (by decide), x_s_ne (by decide), x_s_ne (by decide)]; exact hco 48 (by decide))) (show (x_s (x_s (x_s (x_s (x_s (x_s (x_s (x_s (x_s (x_s (x_s co 60 1) 61 0) 61 1) 62 1) 63 0) 63 1) 64 7) 65 (0 + d1 - 48)) 66 20) 67 0) 68 31) 49 = 0 from (by rw [x_s_ne (by decide), x_s_ne (by decide), x_s_ne (by decide), x_s_ne (by decide), x_s_ne (by decide), x_s_ne (by decide), x_s_ne (by decide), x_s_ne (by decide), x_s_ne (by decide), x_s_ne (by decide), x_s_ne (by decide)]; exact hco 49 (by decide))) (show (x_s (x_s (x_s (x_s (x_s (x_s (x_s (x_s (x_s (x_s (x_s co 60 1) 61 0) 61 1) 62 1) 63 0) 63 1) 64 7) 65 (0 + d1 - 48)) 66 20) 67 0) 68 31) 50 = 11 from (by rw [x_s_ne (by decide), x_s_ne (by decide), x_s_ne (by decide), x_s_ne (by decide), x_s_ne (by decide), x_s_ne (by decide), x_s_ne (by decide), x_s_ne (by decide), x_s_ne (by decide), x_s_ne (by decide), x_s_ne (by decide)]; exact hco 50 (by decide))) (show (x_s (x_s (x_s (x_s (x_s (x_s (x_s (x_s (x_s (x_s (x_s co 60 1) 61 0) 61 1) 62 1) 63 0) 63 1) 64 7) 65 (0 + d1 - 48)) 66 20) 67 0) 68 31) 51 = 0 from (by rw [x_s_ne (by decide), x_s_ne (by decide), x_s_ne (by decide), x_s_ne (by decide), x_s_ne (by decide), x_s_ne (by decide), x_s_ne (by decide), x_s_ne (by decide), x_s_ne (by decide), x_s_ne (by decide), x_s_ne (by decide)]; exact hco 51 (by decide))) (show (x_s (x_s (x_s (x_s (x_s (x_s (x_s (x_s (x_s (x_s (x_s co 60 1) 61 0) 61 1) 62 1) 63 0) 63 1) 64 7) 65 (0 + d1 - 48)) 66 20) 67 0) 68 31) 52 = 1 from (by rw [x_s_ne (by decide), x_s_ne (by decide), x_s_ne (by decide), x_s_ne (by decide), x_s_ne (by decide), x_s_ne (by decide), x_s_ne (by decide), x_s_ne (by decide), x_s_ne (by decide), x_s_ne (by decide), x_s_ne (by decide)]; exact hco 52 (by decide))) (show (x_s (x_s (x_s (x_s (x_s (x_s (x_s (x_s (x_s (x_s (x_s co 60 1) 61 0) 61 1) 62 1) 63 0) 63 1) 64 7) 65 (0 + d1 - 48)) 66 20) 67 0) 68 31) 53 = 1 from (by rw [x_s_ne (by decide), x_s_ne (by decide), x_s_ne (by decide), x_s_ne (by decide), x_s_ne (by decide), x_s_ne (by decide), x_s_ne (by decide), x_s_ne (by decide), x_s_ne (by decide), x_s_ne (by decide), x_s_ne (by decide)]; exact hco 53 (by decide))) (show (x_s (x_s (x_s (x_s (x_s (x_s (x_s (x_s (x_s (x_s (x_s co 60 1) 61 0) 61 1) 62 1) 63 0) 63 1) 64 7) 65 (0 + d1 - 48)) 66 20) 67 0) 68 31) 54 = 3 from (by rw [x_s_ne (by decide), x_s_ne (by decide), x_s_ne (by decide), x_s_ne (by decide), x_s_ne (by decide), x_s_ne (by decide), x_s_ne (by decide), x_s_ne (by decide), x_s_ne (by decide), x_s_ne (by decide), x_s_ne (by decide)]; exact hco 54 (by decide))) (show (x_s (x_s (x_s (x_s (x_s (x_s (x_s (x_s (x_s (x_s (x_s co 60 1) 61 0) 61 1) 62 1) 63 0) 63 1) 64 7) 65 (0 + d1 - 48)) 66 20) 67 0) 68 31) 55 = 1 from (by rw [x_s_ne (by decide), x_s_ne (by decide), x_s_ne (by decide), x_s_ne (by decide), x_s_ne (by decide), x_s_ne (by decide), x_s_ne (by decide), x_s_ne (by decide), x_s_ne (by decide), x_s_ne (by decide), x_s_ne (by decide)]; exact hco 55 (by decide))) (show (x_s (x_s (x_s (x_s (x_s (x_s (x_s (x_s (x_s (x_s (x_s co 60 1) 61 0) 61 1) 62 1) 63 0) 63 1) 64 7) 65 (0 + d1 - 48)) 66 20) 67 0) 68 31) 56 = 13 from (by rw [x_s_ne (by decide), x_s_ne (by decide), x_s_ne (by decide), x_s_ne (by decide), x_s_ne (by decide), x_s_ne (by decide), x_s_ne (by decide), x_s_ne (by decide), x_s_ne (by decide), x_s_ne (by decide), x_s_ne (by decide)]; exact hco 56 (by decide))) (show (x_s (x_s (x_s (x_s (x_s (x_s (x_s (x_s (x_s (x_s (x_s co 60 1) 61 0) 61 1) 62 1) 63 0) 63 1) 64 7) 65 (0 + d1 - 48)) 66 20) 67 0) 68 31) 57 = 69 from (by rw [x_s_ne (by decide), x_s_ne (by decide), x_s_ne (by decide), x_s_ne (by decide), x_s_ne (by decide), x_s_ne (by decide), x_s_ne (by decide), x_s_ne (by decide), x_s_ne (by decide), x_s_ne (by decide), x_s_ne (by decide)]; exact hco 57 (by decide))) (show (x_s (x_s (x_s (x_s (x_s (x_s (x_s (x_s (x_s (x_s (x_s co 60 1) 61 0) 61 1) 62 1) 63 0) 63 1) 64 7) 65 (0 + d1 - 48)) 66 20) 67 0) 68 31) 58 = 31 from (by rw [x_s_ne (by decide), x_s_ne (by decide), x_s_ne (by decide), x_s_ne (by decide), x_s_ne (by decide), x_s_ne (by decide), x_s_ne (by decide), x_s_ne (by decide), x_s_ne (by decide), x_s_ne (by decide), x_s_ne (by decide)]; exact hco 58 (by decide))) (show (x_s (x_s (x_s (x_s (x_s (x_s (x_s (x_s (x_s (x_s (x_s co 60 1) 61 0) 61 1) 62 1) 63 0) 63 1) 64 7) 65 (0 + d1 - 48)) 66 20) 67 0) 68 31) 59 = 32 from (by rw [x_s_ne (by decide), x_s_ne (by decide), x_s_ne (by decide), x_s_ne (by decide), x_s_ne (by decide), x_s_ne (by decide), x_s_ne (by decide), x_s_ne (by decide), x_s_ne (by decide), x_s_ne (by decide), x_s_ne (by decide)]; exact hco 59 (by decide))) (by omega) h1 hisA hbit hk (by omega)) rfl (fun w9 φ9 n9 sl9 hn9 hN9 hs9 hT9 hR9 => ?_)
  obtain ⟨v9, hwv9, ⟨ka9, kb9, kc9, kd9, ke9, kf9, kg9, kh9, ki9, kj9, hK9⟩, hV9, frn9⟩ := hR9
  subst hwv9
  refine x_n_lt (fun hlt10 => ?_)
  have hz11 := x_mv_lt hV9 hlt10
  have hy11 := hV9.1
  refine q_store (loc2 := [(6, 0, 0), (0, 60, 0), (6, 225, 0), (6, v9, 0)]) (p2 := 6) rfl rfl rfl rfl rfl ?_
  refine q_load (v := (6, 0, 0)) (p2 := 7) rfl rfl rfl rfl ?_
  have hm12 := (zq_H_at hm7 (frn9 0 (by omega) (by omega)))
  refine q_getv (v := (6, 455, 0)) (p2 := 8) rfl hm12 (by decide) rfl rfl ?_
  refine q_getv (v := (0, 0, 0)) (p2 := 9) rfl (x_KS_455 hK9) (by decide) hK9.1.choose_spec.2.2.2.2.2.2.2.2.2.2.2.2.2.2.2.2.2.1 rfl ?_
  refine q_if0_s (p2 := 10) rfl (by decide) (by omega) rfl (fun _ => ?_) (fun hb => absurd (show 0 = 0 by omega) hb)
  refine q_load (v := (6, 0, 0)) (p2 := 13) rfl rfl rfl rfl ?_
  refine q_load (v := (6, v9, 0)) (p2 := 14) rfl rfl rfl rfl ?_
  refine q_putfE (v := (6, v9, 0)) (p2 := 15) rfl hm12 (by decide) rfl rfl (fun φ13 f13 hh13 hg13 ho13 fr13 => ?_)
  have hs13 := zq_H_put_0_10 hm12 hh13 hg13 ho13 fr13
  refine q_load (v := (6, 0, 0)) (p2 := 16) rfl rfl rfl rfl ?_
  refine q_getv (v := (6, v9, 0)) (p2 := 17) rfl hs13 (by decide) rfl rfl ?_
  refine x_n_lt (fun hlt15 => ?_)
  have hv14 := x_mv_at hV9 (fun j hj hne => by have hj2 := x_some_lt hlt10 hne; exact (fr13 j (by omega)))
  obtain ⟨fV16, hW16, hg16⟩ := x_mv_gS hv14 (by decide)
  have hl16 := hlt15 _ _ hW16
  have h6_16 := hv14.1
  refine q_getv (v := (0, 1, 0)) (p2 := 18) rfl hW16 (by decide) hg16.1 rfl ?_
  refine q_retv (v := (0, 1, 0)) rfl rfl ⟨rfl, by omega, by omega, ?_⟩
  have hm17 := (zq_tp_at hB ((fr13 1 (by decide)).trans ((frn9 1 (by omega) (by omega)).trans ((frn5 1 (by omega) (by omega) (by omega)).trans (fr1 1 (by decide) (by decide) (by decide) (by decide) (by decide) (by decide) (by decide))))))
  have hm18 := (zq_T_at hs1_1 ((fr13 2 (by decide)).trans ((frn9 2 (by omega) (by omega)).trans (frn5 2 (by omega) (by omega) (by omega)))) ((fr13 3 (by decide)).trans ((frn9 3 (by omega) (by omega)).trans (frn5 3 (by omega) (by omega) (by omega)))) ((fr13 4 (by decide)).trans ((frn9 4 (by omega) (by omega)).trans (frn5 4 (by omega) (by omega) (by omega)))) ((fr13 5 (by decide)).trans ((frn9 5 (by omega) (by omega)).trans (frn5 5 (by omega) (by omega) (by omega)))) ((fr13 6 (by decide)).trans ((frn9 6 (by omega) (by omega)).trans (frn5 6 (by omega) (by omega) (by omega)))))
  have hm19 := (zq_E_at hs1_2 ((fr13 232 (by decide)).trans ((frn9 232 (by omega) (by omega)).trans (frn5 232 (by omega) (by omega) (by omega)))))
  have hm20 := (zq_nm_at hN ((fr13 239 (by decide)).trans ((frn9 239 (by omega) (by omega)).trans ((frn5 239 (by omega) (by omega) (by omega)).trans (fr1 239 (by decide) (by decide) (by decide) (by decide) (by decide) (by decide) (by decide))))) ((fr13 242 (by decide)).trans ((frn9 242 (by omega) (by omega)).trans ((frn5 242 (by omega) (by omega) (by omega)).trans (fr1 242 (by decide) (by decide) (by decide) (by decide) (by decide) (by decide) (by decide))))) ((fr13 244 (by decide)).trans ((frn9 244 (by omega) (by omega)).trans ((frn5 244 (by omega) (by omega) (by omega)).trans (fr1 244 (by decide) (by decide) (by decide) (by decide) (by decide) (by decide) (by decide))))))
  have hm21 := (x_KS_at2 hK9 (fun j h1 h2 h3 h4 => (fr13 j (by omega))))
  have hm22 := (x_PS_at hPS5 (fun j hj hne => by have hj2 := x_some_lt hlt6 hne; exact ((fr13 j (by omega)).trans (frn9 j (by omega) (by omega)))))
  have hm23 := (x_LK_at2 hLKx5 (fun j h1 h2 => ((fr13 j (by omega)).trans (frn9 j (by omega) (by omega)))))
  have hm24 := (x_SP_at hSP (fun j hj hne => by have hj2 := x_some_lt hlt0 hne; exact ((fr13 j (by omega)).trans ((frn9 j (by omega) (by omega)).trans ((frn5 j (by omega) (by omega) (by omega)).trans (fr1 j (by omega) (by omega) (by omega) (by omega) (by omega) (by omega) (by omega)))))))
  have hm25 := (zq_V5_at hV5 ((fr13 485 (by decide)).trans ((frn9 485 (by omega) (by omega)).trans ((frn5 485 (by omega) (by omega) (by omega)).trans (fr1 485 (by decide) (by decide) (by decide) (by decide) (by decide) (by decide) (by decide))))))
  have hm26 := (zq_SL_at hSL ((fr13 482 (by decide)).trans ((frn9 482 (by omega) (by omega)).trans ((frn5 482 (by omega) (by omega) (by omega)).trans (fr1 482 (by decide) (by decide) (by decide) (by decide) (by decide) (by decide) (by decide))))))
  have hm27 := (zq_RW_at hRW ((fr13 483 (by decide)).trans ((frn9 483 (by omega) (by omega)).trans ((frn5 483 (by omega) (by omega) (by omega)).trans (fr1 483 (by decide) (by decide) (by decide) (by decide) (by decide) (by decide) (by decide))))))
  have hm28 := (zq_J_at hJ ((fr13 468 (by decide)).trans ((frn9 468 (by omega) (by omega)).trans ((frn5 468 (by omega) (by omega) (by omega)).trans (fr1 468 (by decide) (by decide) (by decide) (by decide) (by decide) (by decide) (by decide))))) ((fr13 469 (by decide)).trans ((frn9 469 (by omega) (by omega)).trans ((frn5 469 (by omega) (by omega) (by omega)).trans (fr1 469 (by decide) (by decide) (by decide) (by decide) (by decide) (by decide) (by decide))))) ((fr13 470 (by decide)).trans ((frn9 470 (by omega) (by omega)).trans ((frn5 470 (by omega) (by omega) (by omega)).trans (fr1 470 (by decide) (by decide) (by decide) (by decide) (by decide) (by decide) (by decide))))))
  have hm29 := (zFJ_at hFJ (fun j h1 h2 => ((fr13 j (by omega)).trans ((frn9 j (by omega) (by omega)).trans ((frn5 j (by omega) (by omega) (by omega)).trans (fr1 j (by omega) (by omega) (by omega) (by omega) (by omega) (by omega) (by omega)))))))
  have hm30 := (zWJ_at hWJ (fun j h1 h2 => ((fr13 j (by omega)).trans ((frn9 j (by omega) (by omega)).trans ((frn5 j (by omega) (by omega) (by omega)).trans (fr1 j (by omega) (by omega) (by omega) (by omega) (by omega) (by omega) (by omega)))))))
  have hm31 := (zq_OV_at hOV ((fr13 452 (by decide)).trans ((frn9 452 (by omega) (by omega)).trans ((frn5 452 (by omega) (by omega) (by omega)).trans (fr1 452 (by decide) (by decide) (by decide) (by decide) (by decide) (by decide) (by decide))))) ((fr13 453 (by decide)).trans ((frn9 453 (by omega) (by omega)).trans ((frn5 453 (by omega) (by omega) (by omega)).trans (fr1 453 (by decide) (by decide) (by decide) (by decide) (by decide) (by decide) (by decide))))))
  exact q_retv (v := (0, 1, 0)) rfl rfl (⟨rfl, ⟨by omega, by omega⟩, ⟨by omega, by omega⟩, rfl, ⟨⟨_, _, hs13, (Or.inl hv14)⟩, hm17, ⟨_, _, _, _, _, _, _, _, _, _, _, _, _, _, hm18⟩, ⟨_, _, _, _, _, _, _, hm19⟩, hm20, ⟨_, ⟨_, _, _, _, _, _, _, _, _, _, hm21⟩, (fun i hi => by rw [x_s_ne (by omega), x_s_ne (by omega), x_s_ne (by omega), x_s_ne (by omega), x_s_ne (by omega), x_s_ne (by omega), x_s_ne (by omega), x_s_ne (by omega), x_s_ne (by omega), x_s_ne (by omega), x_s_ne (by omega)]; exact hco i hi)⟩, ⟨_, _, _, hm22, hm23⟩, hm24, hm25, ⟨_, hm26⟩, hm27, hm28, hm29, hm30, ⟨_, _, hm31, hovn, hovh⟩⟩⟩)
set_option maxHeartbeats 1000000 in
theorem zc_work_used_y {d n sl : Nat} {φ : FH} {tp : Nat → Nat} {lf : Nat} {mi : Nat} {made : Nat} {sv : Nat} {svm : Nat} {comb : Nat → Nat} {hm : Nat → MV} {sc : Nat → Nat} {sm : Nat → MV} {mh : MV} {noted : Nat} {verd : Nat} {ins : Nat → Nat} {ver : Nat → Nat} {sz : Nat} {bw : Nat → Nat} {w1 d1 : Nat} (hG : zG φ 10 tp lf mi made sv svm comb hm sc sm mh noted verd ins ver sz bw) (hn0 : 486 ≤ n) (hpv : ∀ i, x_pv2 (hm i)) (hmi : mi + 100 ≤ 20000) (ht0 : tp 0 = 117) (ht1 : tp 1 = 115) (ht2 : tp 2 = 101) (ht3 : tp 3 = 100) (ht4 : tp 4 = 105) (ht5 : tp 5 = 110) (ht6 : tp 6 = 40) (ht7 : tp 7 = 35) (ht8 : tp 8 = d1) (ht9 : tp 9 = 41) (hdd1 : 48 ≤ d1 ∧ d1 ≤ 57) (hw_1 : 0 + d1 - 48 = w1) (hw1 : w1 < 512) (h1 : w1 < made ∧ comb w1 ≠ 0) : x_f x_P (d + 20) 28 [(6, 0, 0), (11, 0, 0)] φ n sl (x_bR n sl 4 62 (fun zw φ2 => zw = (0, (if (x_al comb hm w1 (made * 40)).length ≤ 24 then (6, 0, 2, 5, (x_al comb hm w1 (made * 40))) else MV0 : MV).1, 0) ∧ zG φ2 0 tp 0 (mi + 2) made sv svm comb hm sc sm (if (x_al comb hm w1 (made * 40)).length ≤ 24 then (6, 0, 2, 5, (x_al comb hm w1 (made * 40))) else MV0) noted verd ins ver sz bw)) := by
  refine x_f_of rfl ?_
  have hG0 := hG
  obtain ⟨⟨hand, ie, hH, hhw⟩, hB, hTJ, hEJ, hN, hKJ, ⟨A, B, s9, hPS, hLK0⟩, hSP, hV5, ⟨slq, hSL⟩, hRW, hJ, hFJ, hWJ, ⟨ovn, ovh, hOV, hovn, hovh⟩⟩ := hG
  refine x_n_lt (fun hlt0 => ?_)
  have hmade := x_PS_lt hPS
  obtain ⟨tot, at_, cur, pl, va, fa, fp, sf, sp, no, op, K, P, V, hT⟩ := hTJ
  obtain ⟨bi, top, hid, lc, slo, own, sk, hE⟩ := hEJ
  obtain ⟨co, ⟨top_, fr_, pc_, mm, st, lo, re, rs, fl, se, hKS⟩, hco⟩ := hKJ
  refine q_load (v := (6, 0, 0)) (p2 := 1) rfl rfl rfl rfl ?_
  refine q_callrE (xs := [(6, 0, 0)]) (p2 := 2) rfl rfl rfl rfl (x_rcv_s 0 hH) rfl (zc_h_rx_used hH hB hT hE hKS hPS hN ht0 ht1 ht2 ht3 ht4 ht5 ht6 ht7 ht8 ht9 (by omega)) (Nat.le_refl _) (Nat.le_refl _) rfl (fun φ1 hR1 => ?_)
  obtain ⟨hs1_0, hs1_1, hs1_2, hs1_3, fr1⟩ := hR1
  refine q_store (loc2 := [(6, 0, 0), (0, 60, 0)]) (p2 := 3) rfl rfl rfl rfl rfl ?_
  refine q_load (v := (0, 60, 0)) (p2 := 4) rfl rfl rfl rfl ?_
  refine q_if0_s (p2 := 5) rfl (by decide) (by omega) rfl (fun _ => ?_) (fun hb => absurd (show ¬ (60 < 0) by omega) hb)
  refine q_load (v := (6, 0, 0)) (p2 := 8) rfl rfl rfl rfl ?_
  refine q_getv (v := (6, 7, 0)) (p2 := 9) rfl hs1_0 (by decide) rfl rfl ?_
  refine x_n_lt (fun hlt3 => ?_)
  have hm2 := (x_PS_at hPS (fun j hj hne => by have hj2 := x_some_lt hlt0 hne; exact (fr1 j (by omega) (by omega) (by omega) (by omega) (by omega) (by omega) (by omega))))
  have hm4 := (x_LK_at2 hLK0 (fun j h1 h2 => (fr1 j (by omega) (by omega) (by omega) (by omega) (by omega) (by omega) (by omega))))
  refine q_callvE (xs := [(6, 7, 0)]) (p2 := 10) rfl rfl rfl rfl (x_rcv_s 7 hm2.1.choose_spec.1) rfl (e_prepare hm2 hm4.1 hpv hs1_3.2.2.2.2.2.2.2.2.2) (Nat.le_refl _) (Nat.le_refl _) rfl (fun φ5 hR5 => ?_)
  obtain ⟨A5, B5, hPS5, hLK5, frn5⟩ := hR5
  have hAB5 := x_pop_AB hPS5.1.choose_spec
  obtain ⟨lik5, lb5, hL5, hLb5, hlk5⟩ := id hLK5
  refine x_n_lt (fun hlt6 => ?_)
  have hLKx5 : x_LK φ5 A5 B5 made 0 comb hm ∧ _ := ⟨hLK5, hAB5⟩
  refine q_load (v := (6, 0, 0)) (p2 := 11) rfl rfl rfl rfl ?_
  refine q_load (v := (0, 60, 0)) (p2 := 12) rfl rfl rfl rfl ?_
  refine q_load (v := (6, 0, 0)) (p2 := 13) rfl rfl rfl rfl ?_
  have hm7 := (zq_H_at hs1_0 (frn5 0 (by omega) (by omega) (by omega)))
  refine q_getv (v := (6, 7, 0)) (p2 := 14) rfl hm7 (by decide) rfl rfl ?_
  refine q_getv (v := (6, 225, 0)) (p2 := 15) rfl hPS5.1.choose_spec.1 (by decide) hPS5.1.choose_spec.2.2.1 rfl ?_
  refine q_callK (xs := [(6, 225, 0), (0, 60, 0), (6, 0, 0)]) (p2 := 16) rfl rfl rfl rfl (x_rcv_s 0 hm7) rfl rfl ?_
  refine x_f_of rfl ?_
  refine q_load (v := (6, 0, 0)) (p2 := 1) rfl rfl rfl rfl ?_
  refine q_getv (v := (6, 455, 0)) (p2 := 2) rfl hm7 (by decide) rfl rfl ?_
  refine q_load (v := (0, 60, 0)) (p2 := 3) rfl rfl rfl rfl ?_
  refine q_load (v := (6, 225, 0)) (p2 := 4) rfl rfl rfl rfl ?_
  have hm8 := (x_KS_at2 hs1_3 (fun j h1 h2 h3 h4 => (frn5 j (by omega) (by omega) (by omega))))
  refine q_callrB (xs := [(6, 225, 0), (0, 60, 0), (6, 455, 0)]) (p2 := 5) rfl rfl rfl rfl (x_rcv_s 455 (x_KS_455 hm8)) rfl (zc_run_used_y hPS5 hm8 (by omega) (by omega) (((x_s_ne (by decide)).trans ((x_s_ne (by decide)).trans ((x_s_ne (by decide)).trans ((x_s_ne (by decide)).trans ((x_s_ne (by decide)).trans ((x_s_ne (by decide)).trans ((x_s_ne (by decide)).trans ((x_s_ne (by decide)).trans ((x_s_ne (by decide)).trans ((x_s_ne (by decide)).trans (x_s_eq)))))))))))) (((x_s_ne (by decide)).trans ((x_s_ne (by decide)).trans ((x_s_ne (by decide)).trans ((x_s_ne (by decide)).trans ((x_s_ne (by decide)).trans ((x_s_ne (by decide)).trans ((x_s_ne (by decide)).trans ((x_s_ne (by decide)).trans (x_s_eq)))))))))) (((x_s_ne (by decide)).trans ((x_s_ne (by decide)).trans ((x_s_ne (by decide)).trans ((x_s_ne (by decide)).trans ((x_s_ne (by decide)).trans ((x_s_ne (by decide)).trans ((x_s_ne (by decide)).trans (x_s_eq))))))))) (((x_s_ne (by decide)).trans ((x_s_ne (by decide)).trans ((x_s_ne (by decide)).trans ((x_s_ne (by decide)).trans ((x_s_ne (by decide)).trans (x_s_eq))))))) (((x_s_ne (by decide)).trans ((x_s_ne (by decide)).trans ((x_s_ne (by decide)).trans ((x_s_ne (by decide)).trans (x_s_eq)))))) ((((x_s_ne (by decide)).trans ((x_s_ne (by decide)).trans ((x_s_ne (by decide)).trans (x_s_eq))))).trans hw_1) (((x_s_ne (by decide)).trans ((x_s_ne (by decide)).trans (x_s_eq)))) (((x_s_ne (by decide)).trans (x_s_eq))) ((x_s_eq)) (by omega) h1) rfl (fun w9 φ9 n9 sl9 hn9 hN9 hs9 hT9 hR9 => ?_)
  obtain ⟨v9, hwv9, ⟨ka9, kb9, kc9, kd9, ke9, kf9, kg9, kh9, ki9, kj9, hK9⟩, hV9, frn9⟩ := hR9
  subst hwv9
  refine x_n_lt (fun hlt10 => ?_)
  have hz11 := x_mv_lt hV9 hlt10
  have hy11 := hV9.1
  refine q_store (loc2 := [(6, 0, 0), (0, 60, 0), (6, 225, 0), (6, v9, 0)]) (p2 := 6) rfl rfl rfl rfl rfl ?_
  refine q_load (v := (6, 0, 0)) (p2 := 7) rfl rfl rfl rfl ?_
  have hm12 := (zq_H_at hm7 (frn9 0 (by omega) (by omega)))
  refine q_getv (v := (6, 455, 0)) (p2 := 8) rfl hm12 (by decide) rfl rfl ?_
  refine q_getv (v := (0, 0, 0)) (p2 := 9) rfl (x_KS_455 hK9) (by decide) hK9.1.choose_spec.2.2.2.2.2.2.2.2.2.2.2.2.2.2.2.2.2.1 rfl ?_
  refine q_if0_s (p2 := 10) rfl (by decide) (by omega) rfl (fun _ => ?_) (fun hb => absurd (show 0 = 0 by omega) hb)
  refine q_load (v := (6, 0, 0)) (p2 := 13) rfl rfl rfl rfl ?_
  refine q_load (v := (6, v9, 0)) (p2 := 14) rfl rfl rfl rfl ?_
  refine q_putfE (v := (6, v9, 0)) (p2 := 15) rfl hm12 (by decide) rfl rfl (fun φ13 f13 hh13 hg13 ho13 fr13 => ?_)
  have hs13 := zq_H_put_0_10 hm12 hh13 hg13 ho13 fr13
  refine q_load (v := (6, 0, 0)) (p2 := 16) rfl rfl rfl rfl ?_
  refine q_getv (v := (6, v9, 0)) (p2 := 17) rfl hs13 (by decide) rfl rfl ?_
  refine x_n_lt (fun hlt15 => ?_)
  have hv14 := x_mv_at hV9 (fun j hj hne => by have hj2 := x_some_lt hlt10 hne; exact (fr13 j (by omega)))
  obtain ⟨fG16, sG16, lG16, aG16, oG16, cG16, hW16, hg16, hk7_16⟩ := x_mv_g hv14
  have hl16 := hlt15 _ _ hW16
  have h6_16 := hv14.1
  have hbG16 := hv14.2.1
  refine q_getv (v := (0, (if (x_al comb hm w1 (made * 40)).length ≤ 24 then (6, 0, 2, 5, (x_al comb hm w1 (made * 40))) else MV0 : MV).1, 0)) (p2 := 18) rfl hW16 (by decide) hg16.1 rfl ?_
  refine q_retv (v := (0, (if (x_al comb hm w1 (made * 40)).length ≤ 24 then (6, 0, 2, 5, (x_al comb hm w1 (made * 40))) else MV0 : MV).1, 0)) rfl rfl ⟨rfl, by omega, by omega, ?_⟩
  have hm17 := (zq_tp_at hB ((fr13 1 (by decide)).trans ((frn9 1 (by omega) (by omega)).trans ((frn5 1 (by omega) (by omega) (by omega)).trans (fr1 1 (by decide) (by decide) (by decide) (by decide) (by decide) (by decide) (by decide))))))
  have hm18 := (zq_T_at hs1_1 ((fr13 2 (by decide)).trans ((frn9 2 (by omega) (by omega)).trans (frn5 2 (by omega) (by omega) (by omega)))) ((fr13 3 (by decide)).trans ((frn9 3 (by omega) (by omega)).trans (frn5 3 (by omega) (by omega) (by omega)))) ((fr13 4 (by decide)).trans ((frn9 4 (by omega) (by omega)).trans (frn5 4 (by omega) (by omega) (by omega)))) ((fr13 5 (by decide)).trans ((frn9 5 (by omega) (by omega)).trans (frn5 5 (by omega) (by omega) (by omega)))) ((fr13 6 (by decide)).trans ((frn9 6 (by omega) (by omega)).trans (frn5 6 (by omega) (by omega) (by omega)))))
  have hm19 := (zq_E_at hs1_2 ((fr13 232 (by decide)).trans ((frn9 232 (by omega) (by omega)).trans (frn5 232 (by omega) (by omega) (by omega)))))
  have hm20 := (zq_nm_at hN ((fr13 239 (by decide)).trans ((frn9 239 (by omega) (by omega)).trans ((frn5 239 (by omega) (by omega) (by omega)).trans (fr1 239 (by decide) (by decide) (by decide) (by decide) (by decide) (by decide) (by decide))))) ((fr13 242 (by decide)).trans ((frn9 242 (by omega) (by omega)).trans ((frn5 242 (by omega) (by omega) (by omega)).trans (fr1 242 (by decide) (by decide) (by decide) (by decide) (by decide) (by decide) (by decide))))) ((fr13 244 (by decide)).trans ((frn9 244 (by omega) (by omega)).trans ((frn5 244 (by omega) (by omega) (by omega)).trans (fr1 244 (by decide) (by decide) (by decide) (by decide) (by decide) (by decide) (by decide))))))
  have hm21 := (x_KS_at2 hK9 (fun j h1 h2 h3 h4 => (fr13 j (by omega))))
  have hm22 := (x_PS_at hPS5 (fun j hj hne => by have hj2 := x_some_lt hlt6 hne; exact ((fr13 j (by omega)).trans (frn9 j (by omega) (by omega)))))
  have hm23 := (x_LK_at2 hLKx5 (fun j h1 h2 => ((fr13 j (by omega)).trans (frn9 j (by omega) (by omega)))))
  have hm24 := (x_SP_at hSP (fun j hj hne => by have hj2 := x_some_lt hlt0 hne; exact ((fr13 j (by omega)).trans ((frn9 j (by omega) (by omega)).trans ((frn5 j (by omega) (by omega) (by omega)).trans (fr1 j (by omega) (by omega) (by omega) (by omega) (by omega) (by omega) (by omega)))))))
  have hm25 := (zq_V5_at hV5 ((fr13 485 (by decide)).trans ((frn9 485 (by omega) (by omega)).trans ((frn5 485 (by omega) (by omega) (by omega)).trans (fr1 485 (by decide) (by decide) (by decide) (by decide) (by decide) (by decide) (by decide))))))
  have hm26 := (zq_SL_at hSL ((fr13 482 (by decide)).trans ((frn9 482 (by omega) (by omega)).trans ((frn5 482 (by omega) (by omega) (by omega)).trans (fr1 482 (by decide) (by decide) (by decide) (by decide) (by decide) (by decide) (by decide))))))
  have hm27 := (zq_RW_at hRW ((fr13 483 (by decide)).trans ((frn9 483 (by omega) (by omega)).trans ((frn5 483 (by omega) (by omega) (by omega)).trans (fr1 483 (by decide) (by decide) (by decide) (by decide) (by decide) (by decide) (by decide))))))
  have hm28 := (zq_J_at hJ ((fr13 468 (by decide)).trans ((frn9 468 (by omega) (by omega)).trans ((frn5 468 (by omega) (by omega) (by omega)).trans (fr1 468 (by decide) (by decide) (by decide) (by decide) (by decide) (by decide) (by decide))))) ((fr13 469 (by decide)).trans ((frn9 469 (by omega) (by omega)).trans ((frn5 469 (by omega) (by omega) (by omega)).trans (fr1 469 (by decide) (by decide) (by decide) (by decide) (by decide) (by decide) (by decide))))) ((fr13 470 (by decide)).trans ((frn9 470 (by omega) (by omega)).trans ((frn5 470 (by omega) (by omega) (by omega)).trans (fr1 470 (by decide) (by decide) (by decide) (by decide) (by decide) (by decide) (by decide))))))
  have hm29 := (zFJ_at hFJ (fun j h1 h2 => ((fr13 j (by omega)).trans ((frn9 j (by omega) (by omega)).trans ((frn5 j (by omega) (by omega) (by omega)).trans (fr1 j (by omega) (by omega) (by omega) (by omega) (by omega) (by omega) (by omega)))))))
  have hm30 := (zWJ_at hWJ (fun j h1 h2 => ((fr13 j (by omega)).trans ((frn9 j (by omega) (by omega)).trans ((frn5 j (by omega) (by omega) (by omega)).trans (fr1 j (by omega) (by omega) (by omega) (by omega) (by omega) (by omega) (by omega)))))))
  have hm31 := (zq_OV_at hOV ((fr13 452 (by decide)).trans ((frn9 452 (by omega) (by omega)).trans ((frn5 452 (by omega) (by omega) (by omega)).trans (fr1 452 (by decide) (by decide) (by decide) (by decide) (by decide) (by decide) (by decide))))) ((fr13 453 (by decide)).trans ((frn9 453 (by omega) (by omega)).trans ((frn5 453 (by omega) (by omega) (by omega)).trans (fr1 453 (by decide) (by decide) (by decide) (by decide) (by decide) (by decide) (by decide))))))
  exact q_retv (v := (0, (if (x_al comb hm w1 (made * 40)).length ≤ 24 then (6, 0, 2, 5, (x_al comb hm w1 (made * 40))) else MV0 : MV).1, 0)) rfl rfl (⟨rfl, ⟨by omega, by omega⟩, ⟨by omega, by omega⟩, rfl, ⟨⟨_, _, hs13, (Or.inl hv14)⟩, hm17, ⟨_, _, _, _, _, _, _, _, _, _, _, _, _, _, hm18⟩, ⟨_, _, _, _, _, _, _, hm19⟩, hm20, ⟨_, ⟨_, _, _, _, _, _, _, _, _, _, hm21⟩, (fun i hi => by rw [x_s_ne (by omega), x_s_ne (by omega), x_s_ne (by omega), x_s_ne (by omega), x_s_ne (by omega), x_s_ne (by omega), x_s_ne (by omega), x_s_ne (by omega), x_s_ne (by omega), x_s_ne (by omega), x_s_ne (by omega)]; exact hco i hi)⟩, ⟨_, _, _, hm22, hm23⟩, hm24, hm25, ⟨_, hm26⟩, hm27, hm28, hm29, hm30, ⟨_, _, hm31, hovn, hovh⟩⟩⟩)
set_option maxHeartbeats 1000000 in
theorem zc_work_eq_yy {d n sl : Nat} {φ : FH} {tp : Nat → Nat} {lf : Nat} {mi : Nat} {made : Nat} {sv : Nat} {svm : Nat} {comb : Nat → Nat} {hm : Nat → MV} {sc : Nat → Nat} {sm : Nat → MV} {mh : MV} {noted : Nat} {verd : Nat} {ins : Nat → Nat} {ver : Nat → Nat} {sz : Nat} {bw : Nat → Nat} {w1 w2 d1 d2 : Nat} (hG : zG φ 5 tp lf mi made sv svm comb hm sc sm mh noted verd ins ver sz bw) (hn0 : 486 ≤ n) (hpv : ∀ i, x_pv2 (hm i)) (hmi : mi + 100 ≤ 20000) (ht0 : tp 0 = 35) (ht1 : tp 1 = d1) (ht2 : tp 2 = 61) (ht3 : tp 3 = 35) (ht4 : tp 4 = d2) (hdd1 : 48 ≤ d1 ∧ d1 ≤ 57) (hdd2 : 48 ≤ d2 ∧ d2 ≤ 57) (hw_1 : 0 + d1 - 48 = w1) (hw1 : w1 < 512) (hw_2 : 0 + d2 - 48 = w2) (hw2 : w2 < 512) (h1 : w1 < made ∧ comb w1 ≠ 0) (h2 : w2 < made ∧ comb w2 ≠ 0) : x_f x_P (d + 12) 28 [(6, 0, 0), (11, 0, 0)] φ n sl (x_bR n sl 3 21 (fun zw φ2 => zw = (0, (if x_lk (x_lks made comb hm) made (5, w1, 0, 0, []) (5, w2, 0, 0, []) then (3, 2, 0, 0, []) else (3, 0, 0, 0, []) : MV).1, 0) ∧ zG φ2 0 tp 0 (mi + 3) made sv svm comb hm sc sm (if x_lk (x_lks made comb hm) made (5, w1, 0, 0, []) (5, w2, 0, 0, []) then (3, 2, 0, 0, []) else (3, 0, 0, 0, [])) noted verd ins ver sz bw)) := by
  refine x_f_of rfl ?_
  have hG0 := hG
  obtain ⟨⟨hand, ie, hH, hhw⟩, hB, hTJ, hEJ, hN, hKJ, ⟨A, B, s9, hPS, hLK0⟩, hSP, hV5, ⟨slq, hSL⟩, hRW, hJ, hFJ, hWJ, ⟨ovn, ovh, hOV, hovn, hovh⟩⟩ := hG
  refine x_n_lt (fun hlt0 => ?_)
  have hmade := x_PS_lt hPS
  obtain ⟨tot, at_, cur, pl, va, fa, fp, sf, sp, no, op, K, P, V, hT⟩ := hTJ
  obtain ⟨bi, top, hid, lc, slo, own, sk, hE⟩ := hEJ
  obtain ⟨co, ⟨top_, fr_, pc_, mm, st, lo, re, rs, fl, se, hKS⟩, hco⟩ := hKJ
  refine q_load (v := (6, 0, 0)) (p2 := 1) rfl rfl rfl rfl ?_
  refine q_callrE (xs := [(6, 0, 0)]) (p2 := 2) rfl rfl rfl rfl (x_rcv_s 0 hH) rfl (zc_h_rx_eq hH hB hT hE hKS hPS hN ht0 ht1 ht2 ht3 ht4 (by omega)) (Nat.le_refl _) (Nat.le_refl _) rfl (fun φ1 hR1 => ?_)
  obtain ⟨hs1_0, hs1_1, hs1_2, hs1_3, fr1⟩ := hR1
  refine q_store (loc2 := [(6, 0, 0), (0, 60, 0)]) (p2 := 3) rfl rfl rfl rfl rfl ?_
  refine q_load (v := (0, 60, 0)) (p2 := 4) rfl rfl rfl rfl ?_
  refine q_if0_s (p2 := 5) rfl (by decide) (by omega) rfl (fun _ => ?_) (fun hb => absurd (show ¬ (60 < 0) by omega) hb)
  refine q_load (v := (6, 0, 0)) (p2 := 8) rfl rfl rfl rfl ?_
  refine q_getv (v := (6, 7, 0)) (p2 := 9) rfl hs1_0 (by decide) rfl rfl ?_
  refine x_n_lt (fun hlt3 => ?_)
  have hm2 := (x_PS_at hPS (fun j hj hne => by have hj2 := x_some_lt hlt0 hne; exact (fr1 j (by omega) (by omega) (by omega) (by omega) (by omega) (by omega) (by omega))))
  have hm4 := (x_LK_at2 hLK0 (fun j h1 h2 => (fr1 j (by omega) (by omega) (by omega) (by omega) (by omega) (by omega) (by omega))))
  refine q_callvE (xs := [(6, 7, 0)]) (p2 := 10) rfl rfl rfl rfl (x_rcv_s 7 hm2.1.choose_spec.1) rfl (e_prepare hm2 hm4.1 hpv hs1_3.2.2.2.2.2.2.2.2.2) (Nat.le_refl _) (Nat.le_refl _) rfl (fun φ5 hR5 => ?_)
  obtain ⟨A5, B5, hPS5, hLK5, frn5⟩ := hR5
  have hAB5 := x_pop_AB hPS5.1.choose_spec
  obtain ⟨lik5, lb5, hL5, hLb5, hlk5⟩ := id hLK5
  refine x_n_lt (fun hlt6 => ?_)
  have hLKx5 : x_LK φ5 A5 B5 made 0 comb hm ∧ _ := ⟨hLK5, hAB5⟩
  refine q_load (v := (6, 0, 0)) (p2 := 11) rfl rfl rfl rfl ?_
  refine q_load (v := (0, 60, 0)) (p2 := 12) rfl rfl rfl rfl ?_
  refine q_load (v := (6, 0, 0)) (p2 := 13) rfl rfl rfl rfl ?_
  have hm7 := (zq_H_at hs1_0 (frn5 0 (by omega) (by omega) (by omega)))
  refine q_getv (v := (6, 7, 0)) (p2 := 14) rfl hm7 (by decide) rfl rfl ?_
  refine q_getv (v := (6, 225, 0)) (p2 := 15) rfl hPS5.1.choose_spec.1 (by decide) hPS5.1.choose_spec.2.2.1 rfl ?_
  refine q_callK (xs := [(6, 225, 0), (0, 60, 0), (6, 0, 0)]) (p2 := 16) rfl rfl rfl rfl (x_rcv_s 0 hm7) rfl rfl ?_
  refine x_f_of rfl ?_
  refine q_load (v := (6, 0, 0)) (p2 := 1) rfl rfl rfl rfl ?_
  refine q_getv (v := (6, 455, 0)) (p2 := 2) rfl hm7 (by decide) rfl rfl ?_
  refine q_load (v := (0, 60, 0)) (p2 := 3) rfl rfl rfl rfl ?_
  refine q_load (v := (6, 225, 0)) (p2 := 4) rfl rfl rfl rfl ?_
  have hm8 := (x_KS_at2 hs1_3 (fun j h1 h2 h3 h4 => (frn5 j (by omega) (by omega) (by omega))))
  refine q_callrB (xs := [(6, 225, 0), (0, 60, 0), (6, 455, 0)]) (p2 := 5) rfl rfl rfl rfl (x_rcv_s 455 (x_KS_455 hm8)) rfl (zc_run_eq_yy hPS5 hm8 (by omega) (by omega) (((x_s_ne (by decide)).trans ((x_s_ne (by decide)).trans ((x_s_ne (by decide)).trans ((x_s_ne (by decide)).trans ((x_s_ne (by decide)).trans ((x_s_ne (by decide)).trans ((x_s_ne (by decide)).trans ((x_s_ne (by decide)).trans ((x_s_ne (by decide)).trans ((x_s_ne (by decide)).trans ((x_s_ne (by decide)).trans ((x_s_ne (by decide)).trans ((x_s_ne (by decide)).trans (x_s_eq))))))))))))))) (((x_s_ne (by decide)).trans ((x_s_ne (by decide)).trans ((x_s_ne (by decide)).trans ((x_s_ne (by decide)).trans ((x_s_ne (by decide)).trans ((x_s_ne (by decide)).trans ((x_s_ne (by decide)).trans ((x_s_ne (by decide)).trans (x_s_eq)))))))))) (((x_s_ne (by decide)).trans ((x_s_ne (by decide)).trans ((x_s_ne (by decide)).trans ((x_s_ne (by decide)).trans ((x_s_ne (by decide)).trans ((x_s_ne (by decide)).trans ((x_s_ne (by decide)).trans ((x_s_ne (by decide)).trans ((x_s_ne (by decide)).trans ((x_s_ne (by decide)).trans (x_s_eq)))))))))))) ((((x_s_ne (by decide)).trans ((x_s_ne (by decide)).trans ((x_s_ne (by decide)).trans ((x_s_ne (by decide)).trans ((x_s_ne (by decide)).trans ((x_s_ne (by decide)).trans ((x_s_ne (by decide)).trans ((x_s_ne (by decide)).trans ((x_s_ne (by decide)).trans (x_s_eq))))))))))).trans hw_1) (((x_s_ne (by decide)).trans ((x_s_ne (by decide)).trans ((x_s_ne (by decide)).trans ((x_s_ne (by decide)).trans ((x_s_ne (by decide)).trans ((x_s_ne (by decide)).trans ((x_s_ne (by decide)).trans (x_s_eq))))))))) (((x_s_ne (by decide)).trans ((x_s_ne (by decide)).trans ((x_s_ne (by decide)).trans ((x_s_ne (by decide)).trans ((x_s_ne (by decide)).trans (x_s_eq))))))) (((x_s_ne (by decide)).trans ((x_s_ne (by decide)).trans ((x_s_ne (by decide)).trans ((x_s_ne (by decide)).trans (x_s_eq)))))) ((((x_s_ne (by decide)).trans ((x_s_ne (by decide)).trans ((x_s_ne (by decide)).trans (x_s_eq))))).trans hw_2) (((x_s_ne (by decide)).trans ((x_s_ne (by decide)).trans (x_s_eq)))) (((x_s_ne (by decide)).trans (x_s_eq))) ((x_s_eq)) (by omega) (by omega) h1 h2 (x_row_at2 hL5 rfl) (by rcases hAB5 with ⟨z, -⟩ | ⟨z, -⟩ <;> omega)) rfl (fun w9 φ9 n9 sl9 hn9 hN9 hs9 hT9 hR9 => ?_)
  obtain ⟨v9, hwv9, ⟨ka9, kb9, kc9, kd9, ke9, kf9, kg9, kh9, ki9, kj9, hK9⟩, hV9, frn9⟩ := hR9
  subst hwv9
  rw [zif_congr (x_lk_congr (lik2 := (x_lks made comb hm)) (hlk5 rfl))] at hV9
  refine x_n_lt (fun hlt10 => ?_)
  have hz11 := x_mv_lt hV9 hlt10
  have hy11 := hV9.1
  refine q_store (loc2 := [(6, 0, 0), (0, 60, 0), (6, 225, 0), (6, v9, 0)]) (p2 := 6) rfl rfl rfl rfl rfl ?_
  refine q_load (v := (6, 0, 0)) (p2 := 7) rfl rfl rfl rfl ?_
  have hm12 := (zq_H_at hm7 (frn9 0 (by omega) (by omega)))
  refine q_getv (v := (6, 455, 0)) (p2 := 8) rfl hm12 (by decide) rfl rfl ?_
  refine q_getv (v := (0, 0, 0)) (p2 := 9) rfl (x_KS_455 hK9) (by decide) hK9.1.choose_spec.2.2.2.2.2.2.2.2.2.2.2.2.2.2.2.2.2.1 rfl ?_
  refine q_if0_s (p2 := 10) rfl (by decide) (by omega) rfl (fun _ => ?_) (fun hb => absurd (show 0 = 0 by omega) hb)
  refine q_load (v := (6, 0, 0)) (p2 := 13) rfl rfl rfl rfl ?_
  refine q_load (v := (6, v9, 0)) (p2 := 14) rfl rfl rfl rfl ?_
  refine q_putfE (v := (6, v9, 0)) (p2 := 15) rfl hm12 (by decide) rfl rfl (fun φ13 f13 hh13 hg13 ho13 fr13 => ?_)
  have hs13 := zq_H_put_0_10 hm12 hh13 hg13 ho13 fr13
  refine q_load (v := (6, 0, 0)) (p2 := 16) rfl rfl rfl rfl ?_
  refine q_getv (v := (6, v9, 0)) (p2 := 17) rfl hs13 (by decide) rfl rfl ?_
  refine x_n_lt (fun hlt15 => ?_)
  have hv14 := x_mv_at hV9 (fun j hj hne => by have hj2 := x_some_lt hlt10 hne; exact (fr13 j (by omega)))
  obtain ⟨fG16, sG16, lG16, aG16, oG16, cG16, hW16, hg16, hk7_16⟩ := x_mv_g hv14
  have hl16 := hlt15 _ _ hW16
  have h6_16 := hv14.1
  have hbG16 := hv14.2.1
  refine q_getv (v := (0, (if x_lk (x_lks made comb hm) made (5, w1, 0, 0, []) (5, w2, 0, 0, []) then (3, 2, 0, 0, []) else (3, 0, 0, 0, []) : MV).1, 0)) (p2 := 18) rfl hW16 (by decide) hg16.1 rfl ?_
  refine q_retv (v := (0, (if x_lk (x_lks made comb hm) made (5, w1, 0, 0, []) (5, w2, 0, 0, []) then (3, 2, 0, 0, []) else (3, 0, 0, 0, []) : MV).1, 0)) rfl rfl ⟨rfl, by omega, by omega, ?_⟩
  have hm17 := (zq_tp_at hB ((fr13 1 (by decide)).trans ((frn9 1 (by omega) (by omega)).trans ((frn5 1 (by omega) (by omega) (by omega)).trans (fr1 1 (by decide) (by decide) (by decide) (by decide) (by decide) (by decide) (by decide))))))
  have hm18 := (zq_T_at hs1_1 ((fr13 2 (by decide)).trans ((frn9 2 (by omega) (by omega)).trans (frn5 2 (by omega) (by omega) (by omega)))) ((fr13 3 (by decide)).trans ((frn9 3 (by omega) (by omega)).trans (frn5 3 (by omega) (by omega) (by omega)))) ((fr13 4 (by decide)).trans ((frn9 4 (by omega) (by omega)).trans (frn5 4 (by omega) (by omega) (by omega)))) ((fr13 5 (by decide)).trans ((frn9 5 (by omega) (by omega)).trans (frn5 5 (by omega) (by omega) (by omega)))) ((fr13 6 (by decide)).trans ((frn9 6 (by omega) (by omega)).trans (frn5 6 (by omega) (by omega) (by omega)))))
  have hm19 := (zq_E_at hs1_2 ((fr13 232 (by decide)).trans ((frn9 232 (by omega) (by omega)).trans (frn5 232 (by omega) (by omega) (by omega)))))
  have hm20 := (zq_nm_at hN ((fr13 239 (by decide)).trans ((frn9 239 (by omega) (by omega)).trans ((frn5 239 (by omega) (by omega) (by omega)).trans (fr1 239 (by decide) (by decide) (by decide) (by decide) (by decide) (by decide) (by decide))))) ((fr13 242 (by decide)).trans ((frn9 242 (by omega) (by omega)).trans ((frn5 242 (by omega) (by omega) (by omega)).trans (fr1 242 (by decide) (by decide) (by decide) (by decide) (by decide) (by decide) (by decide))))) ((fr13 244 (by decide)).trans ((frn9 244 (by omega) (by omega)).trans ((frn5 244 (by omega) (by omega) (by omega)).trans (fr1 244 (by decide) (by decide) (by decide) (by decide) (by decide) (by decide) (by decide))))))
  have hm21 := (x_KS_at2 hK9 (fun j h1 h2 h3 h4 => (fr13 j (by omega))))
  have hm22 := (x_PS_at hPS5 (fun j hj hne => by have hj2 := x_some_lt hlt6 hne; exact ((fr13 j (by omega)).trans (frn9 j (by omega) (by omega)))))
  have hm23 := (x_LK_at2 hLKx5 (fun j h1 h2 => ((fr13 j (by omega)).trans (frn9 j (by omega) (by omega)))))
  have hm24 := (x_SP_at hSP (fun j hj hne => by have hj2 := x_some_lt hlt0 hne; exact ((fr13 j (by omega)).trans ((frn9 j (by omega) (by omega)).trans ((frn5 j (by omega) (by omega) (by omega)).trans (fr1 j (by omega) (by omega) (by omega) (by omega) (by omega) (by omega) (by omega)))))))
  have hm25 := (zq_V5_at hV5 ((fr13 485 (by decide)).trans ((frn9 485 (by omega) (by omega)).trans ((frn5 485 (by omega) (by omega) (by omega)).trans (fr1 485 (by decide) (by decide) (by decide) (by decide) (by decide) (by decide) (by decide))))))
  have hm26 := (zq_SL_at hSL ((fr13 482 (by decide)).trans ((frn9 482 (by omega) (by omega)).trans ((frn5 482 (by omega) (by omega) (by omega)).trans (fr1 482 (by decide) (by decide) (by decide) (by decide) (by decide) (by decide) (by decide))))))
  have hm27 := (zq_RW_at hRW ((fr13 483 (by decide)).trans ((frn9 483 (by omega) (by omega)).trans ((frn5 483 (by omega) (by omega) (by omega)).trans (fr1 483 (by decide) (by decide) (by decide) (by decide) (by decide) (by decide) (by decide))))))
  have hm28 := (zq_J_at hJ ((fr13 468 (by decide)).trans ((frn9 468 (by omega) (by omega)).trans ((frn5 468 (by omega) (by omega) (by omega)).trans (fr1 468 (by decide) (by decide) (by decide) (by decide) (by decide) (by decide) (by decide))))) ((fr13 469 (by decide)).trans ((frn9 469 (by omega) (by omega)).trans ((frn5 469 (by omega) (by omega) (by omega)).trans (fr1 469 (by decide) (by decide) (by decide) (by decide) (by decide) (by decide) (by decide))))) ((fr13 470 (by decide)).trans ((frn9 470 (by omega) (by omega)).trans ((frn5 470 (by omega) (by omega) (by omega)).trans (fr1 470 (by decide) (by decide) (by decide) (by decide) (by decide) (by decide) (by decide))))))
  have hm29 := (zFJ_at hFJ (fun j h1 h2 => ((fr13 j (by omega)).trans ((frn9 j (by omega) (by omega)).trans ((frn5 j (by omega) (by omega) (by omega)).trans (fr1 j (by omega) (by omega) (by omega) (by omega) (by omega) (by omega) (by omega)))))))
  have hm30 := (zWJ_at hWJ (fun j h1 h2 => ((fr13 j (by omega)).trans ((frn9 j (by omega) (by omega)).trans ((frn5 j (by omega) (by omega) (by omega)).trans (fr1 j (by omega) (by omega) (by omega) (by omega) (by omega) (by omega) (by omega)))))))
  have hm31 := (zq_OV_at hOV ((fr13 452 (by decide)).trans ((frn9 452 (by omega) (by omega)).trans ((frn5 452 (by omega) (by omega) (by omega)).trans (fr1 452 (by decide) (by decide) (by decide) (by decide) (by decide) (by decide) (by decide))))) ((fr13 453 (by decide)).trans ((frn9 453 (by omega) (by omega)).trans ((frn5 453 (by omega) (by omega) (by omega)).trans (fr1 453 (by decide) (by decide) (by decide) (by decide) (by decide) (by decide) (by decide))))))
  exact q_retv (v := (0, (if x_lk (x_lks made comb hm) made (5, w1, 0, 0, []) (5, w2, 0, 0, []) then (3, 2, 0, 0, []) else (3, 0, 0, 0, []) : MV).1, 0)) rfl rfl (⟨rfl, ⟨by omega, by omega⟩, ⟨by omega, by omega⟩, rfl, ⟨⟨_, _, hs13, (Or.inl hv14)⟩, hm17, ⟨_, _, _, _, _, _, _, _, _, _, _, _, _, _, hm18⟩, ⟨_, _, _, _, _, _, _, hm19⟩, hm20, ⟨_, ⟨_, _, _, _, _, _, _, _, _, _, hm21⟩, (fun i hi => by rw [x_s_ne (by omega), x_s_ne (by omega), x_s_ne (by omega), x_s_ne (by omega), x_s_ne (by omega), x_s_ne (by omega), x_s_ne (by omega), x_s_ne (by omega), x_s_ne (by omega), x_s_ne (by omega), x_s_ne (by omega), x_s_ne (by omega), x_s_ne (by omega), x_s_ne (by omega)]; exact hco i hi)⟩, ⟨_, _, _, hm22, hm23⟩, hm24, hm25, ⟨_, hm26⟩, hm27, hm28, hm29, hm30, ⟨_, _, hm31, hovn, hovh⟩⟩⟩)
set_option maxHeartbeats 1000000 in
theorem zc_work_eq_yn {d n sl : Nat} {φ : FH} {tp : Nat → Nat} {lf : Nat} {mi : Nat} {made : Nat} {sv : Nat} {svm : Nat} {comb : Nat → Nat} {hm : Nat → MV} {sc : Nat → Nat} {sm : Nat → MV} {mh : MV} {noted : Nat} {verd : Nat} {ins : Nat → Nat} {ver : Nat → Nat} {sz : Nat} {bw : Nat → Nat} {w1 w2 d1 d2 : Nat} (hG : zG φ 5 tp lf mi made sv svm comb hm sc sm mh noted verd ins ver sz bw) (hn0 : 486 ≤ n) (hpv : ∀ i, x_pv2 (hm i)) (hmi : mi + 100 ≤ 20000) (ht0 : tp 0 = 35) (ht1 : tp 1 = d1) (ht2 : tp 2 = 61) (ht3 : tp 3 = 35) (ht4 : tp 4 = d2) (hdd1 : 48 ≤ d1 ∧ d1 ≤ 57) (hdd2 : 48 ≤ d2 ∧ d2 ≤ 57) (hw_1 : 0 + d1 - 48 = w1) (hw1 : w1 < 512) (hw_2 : 0 + d2 - 48 = w2) (hw2 : w2 < 512) (h1 : w1 < made ∧ comb w1 ≠ 0) (h2 : ¬ (w2 < made ∧ comb w2 ≠ 0)) : x_f x_P (d + 12) 28 [(6, 0, 0), (11, 0, 0)] φ n sl (x_bR n sl 3 21 (fun zw φ2 => zw = (0, 3, 0) ∧ zG φ2 0 tp 0 (mi + 3) made sv svm comb hm sc sm (3, 1, 0, 0, []) noted verd ins ver sz bw)) := by
  refine x_f_of rfl ?_
  have hG0 := hG
  obtain ⟨⟨hand, ie, hH, hhw⟩, hB, hTJ, hEJ, hN, hKJ, ⟨A, B, s9, hPS, hLK0⟩, hSP, hV5, ⟨slq, hSL⟩, hRW, hJ, hFJ, hWJ, ⟨ovn, ovh, hOV, hovn, hovh⟩⟩ := hG
  refine x_n_lt (fun hlt0 => ?_)
  have hmade := x_PS_lt hPS
  obtain ⟨tot, at_, cur, pl, va, fa, fp, sf, sp, no, op, K, P, V, hT⟩ := hTJ
  obtain ⟨bi, top, hid, lc, slo, own, sk, hE⟩ := hEJ
  obtain ⟨co, ⟨top_, fr_, pc_, mm, st, lo, re, rs, fl, se, hKS⟩, hco⟩ := hKJ
  refine q_load (v := (6, 0, 0)) (p2 := 1) rfl rfl rfl rfl ?_
  refine q_callrE (xs := [(6, 0, 0)]) (p2 := 2) rfl rfl rfl rfl (x_rcv_s 0 hH) rfl (zc_h_rx_eq hH hB hT hE hKS hPS hN ht0 ht1 ht2 ht3 ht4 (by omega)) (Nat.le_refl _) (Nat.le_refl _) rfl (fun φ1 hR1 => ?_)
  obtain ⟨hs1_0, hs1_1, hs1_2, hs1_3, fr1⟩ := hR1
  refine q_store (loc2 := [(6, 0, 0), (0, 60, 0)]) (p2 := 3) rfl rfl rfl rfl rfl ?_
  refine q_load (v := (0, 60, 0)) (p2 := 4) rfl rfl rfl rfl ?_
  refine q_if0_s (p2 := 5) rfl (by decide) (by omega) rfl (fun _ => ?_) (fun hb => absurd (show ¬ (60 < 0) by omega) hb)
  refine q_load (v := (6, 0, 0)) (p2 := 8) rfl rfl rfl rfl ?_
  refine q_getv (v := (6, 7, 0)) (p2 := 9) rfl hs1_0 (by decide) rfl rfl ?_
  refine x_n_lt (fun hlt3 => ?_)
  have hm2 := (x_PS_at hPS (fun j hj hne => by have hj2 := x_some_lt hlt0 hne; exact (fr1 j (by omega) (by omega) (by omega) (by omega) (by omega) (by omega) (by omega))))
  have hm4 := (x_LK_at2 hLK0 (fun j h1 h2 => (fr1 j (by omega) (by omega) (by omega) (by omega) (by omega) (by omega) (by omega))))
  refine q_callvE (xs := [(6, 7, 0)]) (p2 := 10) rfl rfl rfl rfl (x_rcv_s 7 hm2.1.choose_spec.1) rfl (e_prepare hm2 hm4.1 hpv hs1_3.2.2.2.2.2.2.2.2.2) (Nat.le_refl _) (Nat.le_refl _) rfl (fun φ5 hR5 => ?_)
  obtain ⟨A5, B5, hPS5, hLK5, frn5⟩ := hR5
  have hAB5 := x_pop_AB hPS5.1.choose_spec
  obtain ⟨lik5, lb5, hL5, hLb5, hlk5⟩ := id hLK5
  refine x_n_lt (fun hlt6 => ?_)
  have hLKx5 : x_LK φ5 A5 B5 made 0 comb hm ∧ _ := ⟨hLK5, hAB5⟩
  refine q_load (v := (6, 0, 0)) (p2 := 11) rfl rfl rfl rfl ?_
  refine q_load (v := (0, 60, 0)) (p2 := 12) rfl rfl rfl rfl ?_
  refine q_load (v := (6, 0, 0)) (p2 := 13) rfl rfl rfl rfl ?_
  have hm7 := (zq_H_at hs1_0 (frn5 0 (by omega) (by omega) (by omega)))
  refine q_getv (v := (6, 7, 0)) (p2 := 14) rfl hm7 (by decide) rfl rfl ?_
  refine q_getv (v := (6, 225, 0)) (p2 := 15) rfl hPS5.1.choose_spec.1 (by decide) hPS5.1.choose_spec.2.2.1 rfl ?_
  refine q_callK (xs := [(6, 225, 0), (0, 60, 0), (6, 0, 0)]) (p2 := 16) rfl rfl rfl rfl (x_rcv_s 0 hm7) rfl rfl ?_
  refine x_f_of rfl ?_
  refine q_load (v := (6, 0, 0)) (p2 := 1) rfl rfl rfl rfl ?_
  refine q_getv (v := (6, 455, 0)) (p2 := 2) rfl hm7 (by decide) rfl rfl ?_
  refine q_load (v := (0, 60, 0)) (p2 := 3) rfl rfl rfl rfl ?_
  refine q_load (v := (6, 225, 0)) (p2 := 4) rfl rfl rfl rfl ?_
  have hm8 := (x_KS_at2 hs1_3 (fun j h1 h2 h3 h4 => (frn5 j (by omega) (by omega) (by omega))))
  refine q_callrB (xs := [(6, 225, 0), (0, 60, 0), (6, 455, 0)]) (p2 := 5) rfl rfl rfl rfl (x_rcv_s 455 (x_KS_455 hm8)) rfl (zc_run_eq_yn hPS5 hm8 (by omega) (by omega) (((x_s_ne (by decide)).trans ((x_s_ne (by decide)).trans ((x_s_ne (by decide)).trans ((x_s_ne (by decide)).trans ((x_s_ne (by decide)).trans ((x_s_ne (by decide)).trans ((x_s_ne (by decide)).trans ((x_s_ne (by decide)).trans ((x_s_ne (by decide)).trans ((x_s_ne (by decide)).trans ((x_s_ne (by decide)).trans ((x_s_ne (by decide)).trans ((x_s_ne (by decide)).trans (x_s_eq))))))))))))))) (((x_s_ne (by decide)).trans ((x_s_ne (by decide)).trans ((x_s_ne (by decide)).trans ((x_s_ne (by decide)).trans ((x_s_ne (by decide)).trans ((x_s_ne (by decide)).trans ((x_s_ne (by decide)).trans ((x_s_ne (by decide)).trans (x_s_eq)))))))))) (((x_s_ne (by decide)).trans ((x_s_ne (by decide)).trans ((x_s_ne (by decide)).trans ((x_s_ne (by decide)).trans ((x_s_ne (by decide)).trans ((x_s_ne (by decide)).trans ((x_s_ne (by decide)).trans ((x_s_ne (by decide)).trans ((x_s_ne (by decide)).trans ((x_s_ne (by decide)).trans (x_s_eq)))))))))))) ((((x_s_ne (by decide)).trans ((x_s_ne (by decide)).trans ((x_s_ne (by decide)).trans ((x_s_ne (by decide)).trans ((x_s_ne (by decide)).trans ((x_s_ne (by decide)).trans ((x_s_ne (by decide)).trans ((x_s_ne (by decide)).trans ((x_s_ne (by decide)).trans (x_s_eq))))))))))).trans hw_1) (((x_s_ne (by decide)).trans ((x_s_ne (by decide)).trans ((x_s_ne (by decide)).trans ((x_s_ne (by decide)).trans ((x_s_ne (by decide)).trans ((x_s_ne (by decide)).trans ((x_s_ne (by decide)).trans (x_s_eq))))))))) (((x_s_ne (by decide)).trans ((x_s_ne (by decide)).trans ((x_s_ne (by decide)).trans ((x_s_ne (by decide)).trans ((x_s_ne (by decide)).trans (x_s_eq))))))) (((x_s_ne (by decide)).trans ((x_s_ne (by decide)).trans ((x_s_ne (by decide)).trans ((x_s_ne (by decide)).trans (x_s_eq)))))) ((((x_s_ne (by decide)).trans ((x_s_ne (by decide)).trans ((x_s_ne (by decide)).trans (x_s_eq))))).trans hw_2) (((x_s_ne (by decide)).trans ((x_s_ne (by decide)).trans (x_s_eq)))) (((x_s_ne (by decide)).trans (x_s_eq))) ((x_s_eq)) (by omega) (by omega) h1 h2 (x_row_at2 hL5 rfl) (by rcases hAB5 with ⟨z, -⟩ | ⟨z, -⟩ <;> omega)) rfl (fun w9 φ9 n9 sl9 hn9 hN9 hs9 hT9 hR9 => ?_)
  obtain ⟨v9, hwv9, ⟨ka9, kb9, kc9, kd9, ke9, kf9, kg9, kh9, ki9, kj9, hK9⟩, hV9, frn9⟩ := hR9
  subst hwv9
  refine x_n_lt (fun hlt10 => ?_)
  have hz11 := x_mv_lt hV9 hlt10
  have hy11 := hV9.1
  refine q_store (loc2 := [(6, 0, 0), (0, 60, 0), (6, 225, 0), (6, v9, 0)]) (p2 := 6) rfl rfl rfl rfl rfl ?_
  refine q_load (v := (6, 0, 0)) (p2 := 7) rfl rfl rfl rfl ?_
  have hm12 := (zq_H_at hm7 (frn9 0 (by omega) (by omega)))
  refine q_getv (v := (6, 455, 0)) (p2 := 8) rfl hm12 (by decide) rfl rfl ?_
  refine q_getv (v := (0, 0, 0)) (p2 := 9) rfl (x_KS_455 hK9) (by decide) hK9.1.choose_spec.2.2.2.2.2.2.2.2.2.2.2.2.2.2.2.2.2.1 rfl ?_
  refine q_if0_s (p2 := 10) rfl (by decide) (by omega) rfl (fun _ => ?_) (fun hb => absurd (show 0 = 0 by omega) hb)
  refine q_load (v := (6, 0, 0)) (p2 := 13) rfl rfl rfl rfl ?_
  refine q_load (v := (6, v9, 0)) (p2 := 14) rfl rfl rfl rfl ?_
  refine q_putfE (v := (6, v9, 0)) (p2 := 15) rfl hm12 (by decide) rfl rfl (fun φ13 f13 hh13 hg13 ho13 fr13 => ?_)
  have hs13 := zq_H_put_0_10 hm12 hh13 hg13 ho13 fr13
  refine q_load (v := (6, 0, 0)) (p2 := 16) rfl rfl rfl rfl ?_
  refine q_getv (v := (6, v9, 0)) (p2 := 17) rfl hs13 (by decide) rfl rfl ?_
  refine x_n_lt (fun hlt15 => ?_)
  have hv14 := x_mv_at hV9 (fun j hj hne => by have hj2 := x_some_lt hlt10 hne; exact (fr13 j (by omega)))
  obtain ⟨fV16, hW16, hg16⟩ := x_mv_gS hv14 (by decide)
  have hl16 := hlt15 _ _ hW16
  have h6_16 := hv14.1
  refine q_getv (v := (0, 3, 0)) (p2 := 18) rfl hW16 (by decide) hg16.1 rfl ?_
  refine q_retv (v := (0, 3, 0)) rfl rfl ⟨rfl, by omega, by omega, ?_⟩
  have hm17 := (zq_tp_at hB ((fr13 1 (by decide)).trans ((frn9 1 (by omega) (by omega)).trans ((frn5 1 (by omega) (by omega) (by omega)).trans (fr1 1 (by decide) (by decide) (by decide) (by decide) (by decide) (by decide) (by decide))))))
  have hm18 := (zq_T_at hs1_1 ((fr13 2 (by decide)).trans ((frn9 2 (by omega) (by omega)).trans (frn5 2 (by omega) (by omega) (by omega)))) ((fr13 3 (by decide)).trans ((frn9 3 (by omega) (by omega)).trans (frn5 3 (by omega) (by omega) (by omega)))) ((fr13 4 (by decide)).trans ((frn9 4 (by omega) (by omega)).trans (frn5 4 (by omega) (by omega) (by omega)))) ((fr13 5 (by decide)).trans ((frn9 5 (by omega) (by omega)).trans (frn5 5 (by omega) (by omega) (by omega)))) ((fr13 6 (by decide)).trans ((frn9 6 (by omega) (by omega)).trans (frn5 6 (by omega) (by omega) (by omega)))))
  have hm19 := (zq_E_at hs1_2 ((fr13 232 (by decide)).trans ((frn9 232 (by omega) (by omega)).trans (frn5 232 (by omega) (by omega) (by omega)))))
  have hm20 := (zq_nm_at hN ((fr13 239 (by decide)).trans ((frn9 239 (by omega) (by omega)).trans ((frn5 239 (by omega) (by omega) (by omega)).trans (fr1 239 (by decide) (by decide) (by decide) (by decide) (by decide) (by decide) (by decide))))) ((fr13 242 (by decide)).trans ((frn9 242 (by omega) (by omega)).trans ((frn5 242 (by omega) (by omega) (by omega)).trans (fr1 242 (by decide) (by decide) (by decide) (by decide) (by decide) (by decide) (by decide))))) ((fr13 244 (by decide)).trans ((frn9 244 (by omega) (by omega)).trans ((frn5 244 (by omega) (by omega) (by omega)).trans (fr1 244 (by decide) (by decide) (by decide) (by decide) (by decide) (by decide) (by decide))))))
  have hm21 := (x_KS_at2 hK9 (fun j h1 h2 h3 h4 => (fr13 j (by omega))))
  have hm22 := (x_PS_at hPS5 (fun j hj hne => by have hj2 := x_some_lt hlt6 hne; exact ((fr13 j (by omega)).trans (frn9 j (by omega) (by omega)))))
  have hm23 := (x_LK_at2 hLKx5 (fun j h1 h2 => ((fr13 j (by omega)).trans (frn9 j (by omega) (by omega)))))
  have hm24 := (x_SP_at hSP (fun j hj hne => by have hj2 := x_some_lt hlt0 hne; exact ((fr13 j (by omega)).trans ((frn9 j (by omega) (by omega)).trans ((frn5 j (by omega) (by omega) (by omega)).trans (fr1 j (by omega) (by omega) (by omega) (by omega) (by omega) (by omega) (by omega)))))))
  have hm25 := (zq_V5_at hV5 ((fr13 485 (by decide)).trans ((frn9 485 (by omega) (by omega)).trans ((frn5 485 (by omega) (by omega) (by omega)).trans (fr1 485 (by decide) (by decide) (by decide) (by decide) (by decide) (by decide) (by decide))))))
  have hm26 := (zq_SL_at hSL ((fr13 482 (by decide)).trans ((frn9 482 (by omega) (by omega)).trans ((frn5 482 (by omega) (by omega) (by omega)).trans (fr1 482 (by decide) (by decide) (by decide) (by decide) (by decide) (by decide) (by decide))))))
  have hm27 := (zq_RW_at hRW ((fr13 483 (by decide)).trans ((frn9 483 (by omega) (by omega)).trans ((frn5 483 (by omega) (by omega) (by omega)).trans (fr1 483 (by decide) (by decide) (by decide) (by decide) (by decide) (by decide) (by decide))))))
  have hm28 := (zq_J_at hJ ((fr13 468 (by decide)).trans ((frn9 468 (by omega) (by omega)).trans ((frn5 468 (by omega) (by omega) (by omega)).trans (fr1 468 (by decide) (by decide) (by decide) (by decide) (by decide) (by decide) (by decide))))) ((fr13 469 (by decide)).trans ((frn9 469 (by omega) (by omega)).trans ((frn5 469 (by omega) (by omega) (by omega)).trans (fr1 469 (by decide) (by decide) (by decide) (by decide) (by decide) (by decide) (by decide))))) ((fr13 470 (by decide)).trans ((frn9 470 (by omega) (by omega)).trans ((frn5 470 (by omega) (by omega) (by omega)).trans (fr1 470 (by decide) (by decide) (by decide) (by decide) (by decide) (by decide) (by decide))))))
  have hm29 := (zFJ_at hFJ (fun j h1 h2 => ((fr13 j (by omega)).trans ((frn9 j (by omega) (by omega)).trans ((frn5 j (by omega) (by omega) (by omega)).trans (fr1 j (by omega) (by omega) (by omega) (by omega) (by omega) (by omega) (by omega)))))))
  have hm30 := (zWJ_at hWJ (fun j h1 h2 => ((fr13 j (by omega)).trans ((frn9 j (by omega) (by omega)).trans ((frn5 j (by omega) (by omega) (by omega)).trans (fr1 j (by omega) (by omega) (by omega) (by omega) (by omega) (by omega) (by omega)))))))
  have hm31 := (zq_OV_at hOV ((fr13 452 (by decide)).trans ((frn9 452 (by omega) (by omega)).trans ((frn5 452 (by omega) (by omega) (by omega)).trans (fr1 452 (by decide) (by decide) (by decide) (by decide) (by decide) (by decide) (by decide))))) ((fr13 453 (by decide)).trans ((frn9 453 (by omega) (by omega)).trans ((frn5 453 (by omega) (by omega) (by omega)).trans (fr1 453 (by decide) (by decide) (by decide) (by decide) (by decide) (by decide) (by decide))))))
  exact q_retv (v := (0, 3, 0)) rfl rfl (⟨rfl, ⟨by omega, by omega⟩, ⟨by omega, by omega⟩, rfl, ⟨⟨_, _, hs13, (Or.inl hv14)⟩, hm17, ⟨_, _, _, _, _, _, _, _, _, _, _, _, _, _, hm18⟩, ⟨_, _, _, _, _, _, _, hm19⟩, hm20, ⟨_, ⟨_, _, _, _, _, _, _, _, _, _, hm21⟩, (fun i hi => by rw [x_s_ne (by omega), x_s_ne (by omega), x_s_ne (by omega), x_s_ne (by omega), x_s_ne (by omega), x_s_ne (by omega), x_s_ne (by omega), x_s_ne (by omega), x_s_ne (by omega), x_s_ne (by omega), x_s_ne (by omega), x_s_ne (by omega), x_s_ne (by omega), x_s_ne (by omega)]; exact hco i hi)⟩, ⟨_, _, _, hm22, hm23⟩, hm24, hm25, ⟨_, hm26⟩, hm27, hm28, hm29, hm30, ⟨_, _, hm31, hovn, hovh⟩⟩⟩)
set_option maxHeartbeats 1000000 in
theorem zc_work_used_n {d n sl : Nat} {φ : FH} {tp : Nat → Nat} {lf : Nat} {mi : Nat} {made : Nat} {sv : Nat} {svm : Nat} {comb : Nat → Nat} {hm : Nat → MV} {sc : Nat → Nat} {sm : Nat → MV} {mh : MV} {noted : Nat} {verd : Nat} {ins : Nat → Nat} {ver : Nat → Nat} {sz : Nat} {bw : Nat → Nat} {w1 d1 : Nat} (hG : zG φ 10 tp lf mi made sv svm comb hm sc sm mh noted verd ins ver sz bw) (hn0 : 486 ≤ n) (hpv : ∀ i, x_pv2 (hm i)) (hmi : mi + 100 ≤ 20000) (ht0 : tp 0 = 117) (ht1 : tp 1 = 115) (ht2 : tp 2 = 101) (ht3 : tp 3 = 100) (ht4 : tp 4 = 105) (ht5 : tp 5 = 110) (ht6 : tp 6 = 40) (ht7 : tp 7 = 35) (ht8 : tp 8 = d1) (ht9 : tp 9 = 41) (hdd1 : 48 ≤ d1 ∧ d1 ≤ 57) (hw_1 : 0 + d1 - 48 = w1) (hw1 : w1 < 512) (h1 : ¬ (w1 < made ∧ comb w1 ≠ 0)) : x_f x_P (d + 20) 28 [(6, 0, 0), (11, 0, 0)] φ n sl (x_bR n sl 4 62 (fun zw φ2 => zw = (0, 0, 0) ∧ zG φ2 0 tp 0 (mi + 2) made sv svm comb hm sc sm MV0 noted verd ins ver sz bw)) := by
  refine x_f_of rfl ?_
  have hG0 := hG
  obtain ⟨⟨hand, ie, hH, hhw⟩, hB, hTJ, hEJ, hN, hKJ, ⟨A, B, s9, hPS, hLK0⟩, hSP, hV5, ⟨slq, hSL⟩, hRW, hJ, hFJ, hWJ, ⟨ovn, ovh, hOV, hovn, hovh⟩⟩ := hG
  refine x_n_lt (fun hlt0 => ?_)
  have hmade := x_PS_lt hPS
  obtain ⟨tot, at_, cur, pl, va, fa, fp, sf, sp, no, op, K, P, V, hT⟩ := hTJ
  obtain ⟨bi, top, hid, lc, slo, own, sk, hE⟩ := hEJ
  obtain ⟨co, ⟨top_, fr_, pc_, mm, st, lo, re, rs, fl, se, hKS⟩, hco⟩ := hKJ
  refine q_load (v := (6, 0, 0)) (p2 := 1) rfl rfl rfl rfl ?_
  refine q_callrE (xs := [(6, 0, 0)]) (p2 := 2) rfl rfl rfl rfl (x_rcv_s 0 hH) rfl (zc_h_rx_used hH hB hT hE hKS hPS hN ht0 ht1 ht2 ht3 ht4 ht5 ht6 ht7 ht8 ht9 (by omega)) (Nat.le_refl _) (Nat.le_refl _) rfl (fun φ1 hR1 => ?_)
  obtain ⟨hs1_0, hs1_1, hs1_2, hs1_3, fr1⟩ := hR1
  refine q_store (loc2 := [(6, 0, 0), (0, 60, 0)]) (p2 := 3) rfl rfl rfl rfl rfl ?_
  refine q_load (v := (0, 60, 0)) (p2 := 4) rfl rfl rfl rfl ?_
  refine q_if0_s (p2 := 5) rfl (by decide) (by omega) rfl (fun _ => ?_) (fun hb => absurd (show ¬ (60 < 0) by omega) hb)
  refine q_load (v := (6, 0, 0)) (p2 := 8) rfl rfl rfl rfl ?_
  refine q_getv (v := (6, 7, 0)) (p2 := 9) rfl hs1_0 (by decide) rfl rfl ?_
  refine x_n_lt (fun hlt3 => ?_)
  have hm2 := (x_PS_at hPS (fun j hj hne => by have hj2 := x_some_lt hlt0 hne; exact (fr1 j (by omega) (by omega) (by omega) (by omega) (by omega) (by omega) (by omega))))
  have hm4 := (x_LK_at2 hLK0 (fun j h1 h2 => (fr1 j (by omega) (by omega) (by omega) (by omega) (by omega) (by omega) (by omega))))
  refine q_callvE (xs := [(6, 7, 0)]) (p2 := 10) rfl rfl rfl rfl (x_rcv_s 7 hm2.1.choose_spec.1) rfl (e_prepare hm2 hm4.1 hpv hs1_3.2.2.2.2.2.2.2.2.2) (Nat.le_refl _) (Nat.le_refl _) rfl (fun φ5 hR5 => ?_)
  obtain ⟨A5, B5, hPS5, hLK5, frn5⟩ := hR5
  have hAB5 := x_pop_AB hPS5.1.choose_spec
  obtain ⟨lik5, lb5, hL5, hLb5, hlk5⟩ := id hLK5
  refine x_n_lt (fun hlt6 => ?_)
  have hLKx5 : x_LK φ5 A5 B5 made 0 comb hm ∧ _ := ⟨hLK5, hAB5⟩
  refine q_load (v := (6, 0, 0)) (p2 := 11) rfl rfl rfl rfl ?_
  refine q_load (v := (0, 60, 0)) (p2 := 12) rfl rfl rfl rfl ?_
  refine q_load (v := (6, 0, 0)) (p2 := 13) rfl rfl rfl rfl ?_
  have hm7 := (zq_H_at hs1_0 (frn5 0 (by omega) (by omega) (by omega)))
  refine q_getv (v := (6, 7, 0)) (p2 := 14) rfl hm7 (by decide) rfl rfl ?_
  refine q_getv (v := (6, 225, 0)) (p2 := 15) rfl hPS5.1.choose_spec.1 (by decide) hPS5.1.choose_spec.2.2.1 rfl ?_
  refine q_callK (xs := [(6, 225, 0), (0, 60, 0), (6, 0, 0)]) (p2 := 16) rfl rfl rfl rfl (x_rcv_s 0 hm7) rfl rfl ?_
  refine x_f_of rfl ?_
  refine q_load (v := (6, 0, 0)) (p2 := 1) rfl rfl rfl rfl ?_
  refine q_getv (v := (6, 455, 0)) (p2 := 2) rfl hm7 (by decide) rfl rfl ?_
  refine q_load (v := (0, 60, 0)) (p2 := 3) rfl rfl rfl rfl ?_
  refine q_load (v := (6, 225, 0)) (p2 := 4) rfl rfl rfl rfl ?_
  have hm8 := (x_KS_at2 hs1_3 (fun j h1 h2 h3 h4 => (frn5 j (by omega) (by omega) (by omega))))
  refine q_callrB (xs := [(6, 225, 0), (0, 60, 0), (6, 455, 0)]) (p2 := 5) rfl rfl rfl rfl (x_rcv_s 455 (x_KS_455 hm8)) rfl (zc_run_used_n hPS5 hm8 (by omega) (by omega) (((x_s_ne (by decide)).trans ((x_s_ne (by decide)).trans ((x_s_ne (by decide)).trans ((x_s_ne (by decide)).trans ((x_s_ne (by decide)).trans ((x_s_ne (by decide)).trans ((x_s_ne (by decide)).trans ((x_s_ne (by decide)).trans ((x_s_ne (by decide)).trans ((x_s_ne (by decide)).trans (x_s_eq)))))))))))) (((x_s_ne (by decide)).trans ((x_s_ne (by decide)).trans ((x_s_ne (by decide)).trans ((x_s_ne (by decide)).trans ((x_s_ne (by decide)).trans ((x_s_ne (by decide)).trans ((x_s_ne (by decide)).trans ((x_s_ne (by decide)).trans (x_s_eq)))))))))) (((x_s_ne (by decide)).trans ((x_s_ne (by decide)).trans ((x_s_ne (by decide)).trans ((x_s_ne (by decide)).trans ((x_s_ne (by decide)).trans ((x_s_ne (by decide)).trans ((x_s_ne (by decide)).trans (x_s_eq))))))))) (((x_s_ne (by decide)).trans ((x_s_ne (by decide)).trans ((x_s_ne (by decide)).trans ((x_s_ne (by decide)).trans ((x_s_ne (by decide)).trans (x_s_eq))))))) (((x_s_ne (by decide)).trans ((x_s_ne (by decide)).trans ((x_s_ne (by decide)).trans ((x_s_ne (by decide)).trans (x_s_eq)))))) ((((x_s_ne (by decide)).trans ((x_s_ne (by decide)).trans ((x_s_ne (by decide)).trans (x_s_eq))))).trans hw_1) (((x_s_ne (by decide)).trans ((x_s_ne (by decide)).trans (x_s_eq)))) (((x_s_ne (by decide)).trans (x_s_eq))) ((x_s_eq)) (by omega) h1) rfl (fun w9 φ9 n9 sl9 hn9 hN9 hs9 hT9 hR9 => ?_)
  obtain ⟨v9, hwv9, ⟨ka9, kb9, kc9, kd9, ke9, kf9, kg9, kh9, ki9, kj9, hK9⟩, hV9, frn9⟩ := hR9
  subst hwv9
  refine x_n_lt (fun hlt10 => ?_)
  have hz11 := x_mv_lt hV9 hlt10
  have hy11 := hV9.1
  refine q_store (loc2 := [(6, 0, 0), (0, 60, 0), (6, 225, 0), (6, v9, 0)]) (p2 := 6) rfl rfl rfl rfl rfl ?_
  refine q_load (v := (6, 0, 0)) (p2 := 7) rfl rfl rfl rfl ?_
  have hm12 := (zq_H_at hm7 (frn9 0 (by omega) (by omega)))
  refine q_getv (v := (6, 455, 0)) (p2 := 8) rfl hm12 (by decide) rfl rfl ?_
  refine q_getv (v := (0, 0, 0)) (p2 := 9) rfl (x_KS_455 hK9) (by decide) hK9.1.choose_spec.2.2.2.2.2.2.2.2.2.2.2.2.2.2.2.2.2.1 rfl ?_
  refine q_if0_s (p2 := 10) rfl (by decide) (by omega) rfl (fun _ => ?_) (fun hb => absurd (show 0 = 0 by omega) hb)
  refine q_load (v := (6, 0, 0)) (p2 := 13) rfl rfl rfl rfl ?_
  refine q_load (v := (6, v9, 0)) (p2 := 14) rfl rfl rfl rfl ?_
  refine q_putfE (v := (6, v9, 0)) (p2 := 15) rfl hm12 (by decide) rfl rfl (fun φ13 f13 hh13 hg13 ho13 fr13 => ?_)
  have hs13 := zq_H_put_0_10 hm12 hh13 hg13 ho13 fr13
  refine q_load (v := (6, 0, 0)) (p2 := 16) rfl rfl rfl rfl ?_
  refine q_getv (v := (6, v9, 0)) (p2 := 17) rfl hs13 (by decide) rfl rfl ?_
  refine x_n_lt (fun hlt15 => ?_)
  have hv14 := x_mv_at hV9 (fun j hj hne => by have hj2 := x_some_lt hlt10 hne; exact (fr13 j (by omega)))
  obtain ⟨fV16, hW16, hg16⟩ := x_mv_gS hv14 (by decide)
  have hl16 := hlt15 _ _ hW16
  have h6_16 := hv14.1
  refine q_getv (v := (0, 0, 0)) (p2 := 18) rfl hW16 (by decide) hg16.1 rfl ?_
  refine q_retv (v := (0, 0, 0)) rfl rfl ⟨rfl, by omega, by omega, ?_⟩
  have hm17 := (zq_tp_at hB ((fr13 1 (by decide)).trans ((frn9 1 (by omega) (by omega)).trans ((frn5 1 (by omega) (by omega) (by omega)).trans (fr1 1 (by decide) (by decide) (by decide) (by decide) (by decide) (by decide) (by decide))))))
  have hm18 := (zq_T_at hs1_1 ((fr13 2 (by decide)).trans ((frn9 2 (by omega) (by omega)).trans (frn5 2 (by omega) (by omega) (by omega)))) ((fr13 3 (by decide)).trans ((frn9 3 (by omega) (by omega)).trans (frn5 3 (by omega) (by omega) (by omega)))) ((fr13 4 (by decide)).trans ((frn9 4 (by omega) (by omega)).trans (frn5 4 (by omega) (by omega) (by omega)))) ((fr13 5 (by decide)).trans ((frn9 5 (by omega) (by omega)).trans (frn5 5 (by omega) (by omega) (by omega)))) ((fr13 6 (by decide)).trans ((frn9 6 (by omega) (by omega)).trans (frn5 6 (by omega) (by omega) (by omega)))))
  have hm19 := (zq_E_at hs1_2 ((fr13 232 (by decide)).trans ((frn9 232 (by omega) (by omega)).trans (frn5 232 (by omega) (by omega) (by omega)))))
  have hm20 := (zq_nm_at hN ((fr13 239 (by decide)).trans ((frn9 239 (by omega) (by omega)).trans ((frn5 239 (by omega) (by omega) (by omega)).trans (fr1 239 (by decide) (by decide) (by decide) (by decide) (by decide) (by decide) (by decide))))) ((fr13 242 (by decide)).trans ((frn9 242 (by omega) (by omega)).trans ((frn5 242 (by omega) (by omega) (by omega)).trans (fr1 242 (by decide) (by decide) (by decide) (by decide) (by decide) (by decide) (by decide))))) ((fr13 244 (by decide)).trans ((frn9 244 (by omega) (by omega)).trans ((frn5 244 (by omega) (by omega) (by omega)).trans (fr1 244 (by decide) (by decide) (by decide) (by decide) (by decide) (by decide) (by decide))))))
  have hm21 := (x_KS_at2 hK9 (fun j h1 h2 h3 h4 => (fr13 j (by omega))))
  have hm22 := (x_PS_at hPS5 (fun j hj hne => by have hj2 := x_some_lt hlt6 hne; exact ((fr13 j (by omega)).trans (frn9 j (by omega) (by omega)))))
  have hm23 := (x_LK_at2 hLKx5 (fun j h1 h2 => ((fr13 j (by omega)).trans (frn9 j (by omega) (by omega)))))
  have hm24 := (x_SP_at hSP (fun j hj hne => by have hj2 := x_some_lt hlt0 hne; exact ((fr13 j (by omega)).trans ((frn9 j (by omega) (by omega)).trans ((frn5 j (by omega) (by omega) (by omega)).trans (fr1 j (by omega) (by omega) (by omega) (by omega) (by omega) (by omega) (by omega)))))))
  have hm25 := (zq_V5_at hV5 ((fr13 485 (by decide)).trans ((frn9 485 (by omega) (by omega)).trans ((frn5 485 (by omega) (by omega) (by omega)).trans (fr1 485 (by decide) (by decide) (by decide) (by decide) (by decide) (by decide) (by decide))))))
  have hm26 := (zq_SL_at hSL ((fr13 482 (by decide)).trans ((frn9 482 (by omega) (by omega)).trans ((frn5 482 (by omega) (by omega) (by omega)).trans (fr1 482 (by decide) (by decide) (by decide) (by decide) (by decide) (by decide) (by decide))))))
  have hm27 := (zq_RW_at hRW ((fr13 483 (by decide)).trans ((frn9 483 (by omega) (by omega)).trans ((frn5 483 (by omega) (by omega) (by omega)).trans (fr1 483 (by decide) (by decide) (by decide) (by decide) (by decide) (by decide) (by decide))))))
  have hm28 := (zq_J_at hJ ((fr13 468 (by decide)).trans ((frn9 468 (by omega) (by omega)).trans ((frn5 468 (by omega) (by omega) (by omega)).trans (fr1 468 (by decide) (by decide) (by decide) (by decide) (by decide) (by decide) (by decide))))) ((fr13 469 (by decide)).trans ((frn9 469 (by omega) (by omega)).trans ((frn5 469 (by omega) (by omega) (by omega)).trans (fr1 469 (by decide) (by decide) (by decide) (by decide) (by decide) (by decide) (by decide))))) ((fr13 470 (by decide)).trans ((frn9 470 (by omega) (by omega)).trans ((frn5 470 (by omega) (by omega) (by omega)).trans (fr1 470 (by decide) (by decide) (by decide) (by decide) (by decide) (by decide) (by decide))))))
  have hm29 := (zFJ_at hFJ (fun j h1 h2 => ((fr13 j (by omega)).trans ((frn9 j (by omega) (by omega)).trans ((frn5 j (by omega) (by omega) (by omega)).trans (fr1 j (by omega) (by omega) (by omega) (by omega) (by omega) (by omega) (by omega)))))))
  have hm30 := (zWJ_at hWJ (fun j h1 h2 => ((fr13 j (by omega)).trans ((frn9 j (by omega) (by omega)).trans ((frn5 j (by omega) (by omega) (by omega)).trans (fr1 j (by omega) (by omega) (by omega) (by omega) (by omega) (by omega) (by omega)))))))
  have hm31 := (zq_OV_at hOV ((fr13 452 (by decide)).trans ((frn9 452 (by omega) (by omega)).trans ((frn5 452 (by omega) (by omega) (by omega)).trans (fr1 452 (by decide) (by decide) (by decide) (by decide) (by decide) (by decide) (by decide))))) ((fr13 453 (by decide)).trans ((frn9 453 (by omega) (by omega)).trans ((frn5 453 (by omega) (by omega) (by omega)).trans (fr1 453 (by decide) (by decide) (by decide) (by decide) (by decide) (by decide) (by decide))))))
  exact q_retv (v := (0, 0, 0)) rfl rfl (⟨rfl, ⟨by omega, by omega⟩, ⟨by omega, by omega⟩, rfl, ⟨⟨_, _, hs13, (Or.inl hv14)⟩, hm17, ⟨_, _, _, _, _, _, _, _, _, _, _, _, _, _, hm18⟩, ⟨_, _, _, _, _, _, _, hm19⟩, hm20, ⟨_, ⟨_, _, _, _, _, _, _, _, _, _, hm21⟩, (fun i hi => by rw [x_s_ne (by omega), x_s_ne (by omega), x_s_ne (by omega), x_s_ne (by omega), x_s_ne (by omega), x_s_ne (by omega), x_s_ne (by omega), x_s_ne (by omega), x_s_ne (by omega), x_s_ne (by omega), x_s_ne (by omega)]; exact hco i hi)⟩, ⟨_, _, _, hm22, hm23⟩, hm24, hm25, ⟨_, hm26⟩, hm27, hm28, hm29, hm30, ⟨_, _, hm31, hovn, hovh⟩⟩⟩)
set_option maxHeartbeats 1000000 in
theorem zc_work_eq_ny {d n sl : Nat} {φ : FH} {tp : Nat → Nat} {lf : Nat} {mi : Nat} {made : Nat} {sv : Nat} {svm : Nat} {comb : Nat → Nat} {hm : Nat → MV} {sc : Nat → Nat} {sm : Nat → MV} {mh : MV} {noted : Nat} {verd : Nat} {ins : Nat → Nat} {ver : Nat → Nat} {sz : Nat} {bw : Nat → Nat} {w1 w2 d1 d2 : Nat} (hG : zG φ 5 tp lf mi made sv svm comb hm sc sm mh noted verd ins ver sz bw) (hn0 : 486 ≤ n) (hpv : ∀ i, x_pv2 (hm i)) (hmi : mi + 100 ≤ 20000) (ht0 : tp 0 = 35) (ht1 : tp 1 = d1) (ht2 : tp 2 = 61) (ht3 : tp 3 = 35) (ht4 : tp 4 = d2) (hdd1 : 48 ≤ d1 ∧ d1 ≤ 57) (hdd2 : 48 ≤ d2 ∧ d2 ≤ 57) (hw_1 : 0 + d1 - 48 = w1) (hw1 : w1 < 512) (hw_2 : 0 + d2 - 48 = w2) (hw2 : w2 < 512) (h1 : ¬ (w1 < made ∧ comb w1 ≠ 0)) (h2 : w2 < made ∧ comb w2 ≠ 0) : x_f x_P (d + 12) 28 [(6, 0, 0), (11, 0, 0)] φ n sl (x_bR n sl 3 21 (fun zw φ2 => zw = (0, 3, 0) ∧ zG φ2 0 tp 0 (mi + 3) made sv svm comb hm sc sm (3, 1, 0, 0, []) noted verd ins ver sz bw)) := by
  refine x_f_of rfl ?_
  have hG0 := hG
  obtain ⟨⟨hand, ie, hH, hhw⟩, hB, hTJ, hEJ, hN, hKJ, ⟨A, B, s9, hPS, hLK0⟩, hSP, hV5, ⟨slq, hSL⟩, hRW, hJ, hFJ, hWJ, ⟨ovn, ovh, hOV, hovn, hovh⟩⟩ := hG
  refine x_n_lt (fun hlt0 => ?_)
  have hmade := x_PS_lt hPS
  obtain ⟨tot, at_, cur, pl, va, fa, fp, sf, sp, no, op, K, P, V, hT⟩ := hTJ
  obtain ⟨bi, top, hid, lc, slo, own, sk, hE⟩ := hEJ
  obtain ⟨co, ⟨top_, fr_, pc_, mm, st, lo, re, rs, fl, se, hKS⟩, hco⟩ := hKJ
  refine q_load (v := (6, 0, 0)) (p2 := 1) rfl rfl rfl rfl ?_
  refine q_callrE (xs := [(6, 0, 0)]) (p2 := 2) rfl rfl rfl rfl (x_rcv_s 0 hH) rfl (zc_h_rx_eq hH hB hT hE hKS hPS hN ht0 ht1 ht2 ht3 ht4 (by omega)) (Nat.le_refl _) (Nat.le_refl _) rfl (fun φ1 hR1 => ?_)
  obtain ⟨hs1_0, hs1_1, hs1_2, hs1_3, fr1⟩ := hR1
  refine q_store (loc2 := [(6, 0, 0), (0, 60, 0)]) (p2 := 3) rfl rfl rfl rfl rfl ?_
  refine q_load (v := (0, 60, 0)) (p2 := 4) rfl rfl rfl rfl ?_
  refine q_if0_s (p2 := 5) rfl (by decide) (by omega) rfl (fun _ => ?_) (fun hb => absurd (show ¬ (60 < 0) by omega) hb)
  refine q_load (v := (6, 0, 0)) (p2 := 8) rfl rfl rfl rfl ?_
  refine q_getv (v := (6, 7, 0)) (p2 := 9) rfl hs1_0 (by decide) rfl rfl ?_
  refine x_n_lt (fun hlt3 => ?_)
  have hm2 := (x_PS_at hPS (fun j hj hne => by have hj2 := x_some_lt hlt0 hne; exact (fr1 j (by omega) (by omega) (by omega) (by omega) (by omega) (by omega) (by omega))))
  have hm4 := (x_LK_at2 hLK0 (fun j h1 h2 => (fr1 j (by omega) (by omega) (by omega) (by omega) (by omega) (by omega) (by omega))))
  refine q_callvE (xs := [(6, 7, 0)]) (p2 := 10) rfl rfl rfl rfl (x_rcv_s 7 hm2.1.choose_spec.1) rfl (e_prepare hm2 hm4.1 hpv hs1_3.2.2.2.2.2.2.2.2.2) (Nat.le_refl _) (Nat.le_refl _) rfl (fun φ5 hR5 => ?_)
  obtain ⟨A5, B5, hPS5, hLK5, frn5⟩ := hR5
  have hAB5 := x_pop_AB hPS5.1.choose_spec
  obtain ⟨lik5, lb5, hL5, hLb5, hlk5⟩ := id hLK5
  refine x_n_lt (fun hlt6 => ?_)
  have hLKx5 : x_LK φ5 A5 B5 made 0 comb hm ∧ _ := ⟨hLK5, hAB5⟩
  refine q_load (v := (6, 0, 0)) (p2 := 11) rfl rfl rfl rfl ?_
  refine q_load (v := (0, 60, 0)) (p2 := 12) rfl rfl rfl rfl ?_
  refine q_load (v := (6, 0, 0)) (p2 := 13) rfl rfl rfl rfl ?_
  have hm7 := (zq_H_at hs1_0 (frn5 0 (by omega) (by omega) (by omega)))
  refine q_getv (v := (6, 7, 0)) (p2 := 14) rfl hm7 (by decide) rfl rfl ?_
  refine q_getv (v := (6, 225, 0)) (p2 := 15) rfl hPS5.1.choose_spec.1 (by decide) hPS5.1.choose_spec.2.2.1 rfl ?_
  refine q_callK (xs := [(6, 225, 0), (0, 60, 0), (6, 0, 0)]) (p2 := 16) rfl rfl rfl rfl (x_rcv_s 0 hm7) rfl rfl ?_
  refine x_f_of rfl ?_
  refine q_load (v := (6, 0, 0)) (p2 := 1) rfl rfl rfl rfl ?_
  refine q_getv (v := (6, 455, 0)) (p2 := 2) rfl hm7 (by decide) rfl rfl ?_
  refine q_load (v := (0, 60, 0)) (p2 := 3) rfl rfl rfl rfl ?_
  refine q_load (v := (6, 225, 0)) (p2 := 4) rfl rfl rfl rfl ?_
  have hm8 := (x_KS_at2 hs1_3 (fun j h1 h2 h3 h4 => (frn5 j (by omega) (by omega) (by omega))))
  refine q_callrB (xs := [(6, 225, 0), (0, 60, 0), (6, 455, 0)]) (p2 := 5) rfl rfl rfl rfl (x_rcv_s 455 (x_KS_455 hm8)) rfl (zc_run_eq_ny hPS5 hm8 (by omega) (by omega) (((x_s_ne (by decide)).trans ((x_s_ne (by decide)).trans ((x_s_ne (by decide)).trans ((x_s_ne (by decide)).trans ((x_s_ne (by decide)).trans ((x_s_ne (by decide)).trans ((x_s_ne (by decide)).trans ((x_s_ne (by decide)).trans ((x_s_ne (by decide)).trans ((x_s_ne (by decide)).trans ((x_s_ne (by decide)).trans ((x_s_ne (by decide)).trans ((x_s_ne (by decide)).trans (x_s_eq))))))))))))))) (((x_s_ne (by decide)).trans ((x_s_ne (by decide)).trans ((x_s_ne (by decide)).trans ((x_s_ne (by decide)).trans ((x_s_ne (by decide)).trans ((x_s_ne (by decide)).trans ((x_s_ne (by decide)).trans ((x_s_ne (by decide)).trans (x_s_eq)))))))))) (((x_s_ne (by decide)).trans ((x_s_ne (by decide)).trans ((x_s_ne (by decide)).trans ((x_s_ne (by decide)).trans ((x_s_ne (by decide)).trans ((x_s_ne (by decide)).trans ((x_s_ne (by decide)).trans ((x_s_ne (by decide)).trans ((x_s_ne (by decide)).trans ((x_s_ne (by decide)).trans (x_s_eq)))))))))))) ((((x_s_ne (by decide)).trans ((x_s_ne (by decide)).trans ((x_s_ne (by decide)).trans ((x_s_ne (by decide)).trans ((x_s_ne (by decide)).trans ((x_s_ne (by decide)).trans ((x_s_ne (by decide)).trans ((x_s_ne (by decide)).trans ((x_s_ne (by decide)).trans (x_s_eq))))))))))).trans hw_1) (((x_s_ne (by decide)).trans ((x_s_ne (by decide)).trans ((x_s_ne (by decide)).trans ((x_s_ne (by decide)).trans ((x_s_ne (by decide)).trans ((x_s_ne (by decide)).trans ((x_s_ne (by decide)).trans (x_s_eq))))))))) (((x_s_ne (by decide)).trans ((x_s_ne (by decide)).trans ((x_s_ne (by decide)).trans ((x_s_ne (by decide)).trans ((x_s_ne (by decide)).trans (x_s_eq))))))) (((x_s_ne (by decide)).trans ((x_s_ne (by decide)).trans ((x_s_ne (by decide)).trans ((x_s_ne (by decide)).trans (x_s_eq)))))) ((((x_s_ne (by decide)).trans ((x_s_ne (by decide)).trans ((x_s_ne (by decide)).trans (x_s_eq))))).trans hw_2) (((x_s_ne (by decide)).trans ((x_s_ne (by decide)).trans (x_s_eq)))) (((x_s_ne (by decide)).trans (x_s_eq))) ((x_s_eq)) (by omega) (by omega) h1 h2 (x_row_at2 hL5 rfl) (by rcases hAB5 with ⟨z, -⟩ | ⟨z, -⟩ <;> omega)) rfl (fun w9 φ9 n9 sl9 hn9 hN9 hs9 hT9 hR9 => ?_)
  obtain ⟨v9, hwv9, ⟨ka9, kb9, kc9, kd9, ke9, kf9, kg9, kh9, ki9, kj9, hK9⟩, hV9, frn9⟩ := hR9
  subst hwv9
  refine x_n_lt (fun hlt10 => ?_)
  have hz11 := x_mv_lt hV9 hlt10
  have hy11 := hV9.1
  refine q_store (loc2 := [(6, 0, 0), (0, 60, 0), (6, 225, 0), (6, v9, 0)]) (p2 := 6) rfl rfl rfl rfl rfl ?_
  refine q_load (v := (6, 0, 0)) (p2 := 7) rfl rfl rfl rfl ?_
  have hm12 := (zq_H_at hm7 (frn9 0 (by omega) (by omega)))
  refine q_getv (v := (6, 455, 0)) (p2 := 8) rfl hm12 (by decide) rfl rfl ?_
  refine q_getv (v := (0, 0, 0)) (p2 := 9) rfl (x_KS_455 hK9) (by decide) hK9.1.choose_spec.2.2.2.2.2.2.2.2.2.2.2.2.2.2.2.2.2.1 rfl ?_
  refine q_if0_s (p2 := 10) rfl (by decide) (by omega) rfl (fun _ => ?_) (fun hb => absurd (show 0 = 0 by omega) hb)
  refine q_load (v := (6, 0, 0)) (p2 := 13) rfl rfl rfl rfl ?_
  refine q_load (v := (6, v9, 0)) (p2 := 14) rfl rfl rfl rfl ?_
  refine q_putfE (v := (6, v9, 0)) (p2 := 15) rfl hm12 (by decide) rfl rfl (fun φ13 f13 hh13 hg13 ho13 fr13 => ?_)
  have hs13 := zq_H_put_0_10 hm12 hh13 hg13 ho13 fr13
  refine q_load (v := (6, 0, 0)) (p2 := 16) rfl rfl rfl rfl ?_
  refine q_getv (v := (6, v9, 0)) (p2 := 17) rfl hs13 (by decide) rfl rfl ?_
  refine x_n_lt (fun hlt15 => ?_)
  have hv14 := x_mv_at hV9 (fun j hj hne => by have hj2 := x_some_lt hlt10 hne; exact (fr13 j (by omega)))
  obtain ⟨fV16, hW16, hg16⟩ := x_mv_gS hv14 (by decide)
  have hl16 := hlt15 _ _ hW16
  have h6_16 := hv14.1
  refine q_getv (v := (0, 3, 0)) (p2 := 18) rfl hW16 (by decide) hg16.1 rfl ?_
  refine q_retv (v := (0, 3, 0)) rfl rfl ⟨rfl, by omega, by omega, ?_⟩
  have hm17 := (zq_tp_at hB ((fr13 1 (by decide)).trans ((frn9 1 (by omega) (by omega)).trans ((frn5 1 (by omega) (by omega) (by omega)).trans (fr1 1 (by decide) (by decide) (by decide) (by decide) (by decide) (by decide) (by decide))))))
  have hm18 := (zq_T_at hs1_1 ((fr13 2 (by decide)).trans ((frn9 2 (by omega) (by omega)).trans (frn5 2 (by omega) (by omega) (by omega)))) ((fr13 3 (by decide)).trans ((frn9 3 (by omega) (by omega)).trans (frn5 3 (by omega) (by omega) (by omega)))) ((fr13 4 (by decide)).trans ((frn9 4 (by omega) (by omega)).trans (frn5 4 (by omega) (by omega) (by omega)))) ((fr13 5 (by decide)).trans ((frn9 5 (by omega) (by omega)).trans (frn5 5 (by omega) (by omega) (by omega)))) ((fr13 6 (by decide)).trans ((frn9 6 (by omega) (by omega)).trans (frn5 6 (by omega) (by omega) (by omega)))))
  have hm19 := (zq_E_at hs1_2 ((fr13 232 (by decide)).trans ((frn9 232 (by omega) (by omega)).trans (frn5 232 (by omega) (by omega) (by omega)))))
  have hm20 := (zq_nm_at hN ((fr13 239 (by decide)).trans ((frn9 239 (by omega) (by omega)).trans ((frn5 239 (by omega) (by omega) (by omega)).trans (fr1 239 (by decide) (by decide) (by decide) (by decide) (by decide) (by decide) (by decide))))) ((fr13 242 (by decide)).trans ((frn9 242 (by omega) (by omega)).trans ((frn5 242 (by omega) (by omega) (by omega)).trans (fr1 242 (by decide) (by decide) (by decide) (by decide) (by decide) (by decide) (by decide))))) ((fr13 244 (by decide)).trans ((frn9 244 (by omega) (by omega)).trans ((frn5 244 (by omega) (by omega) (by omega)).trans (fr1 244 (by decide) (by decide) (by decide) (by decide) (by decide) (by decide) (by decide))))))
  have hm21 := (x_KS_at2 hK9 (fun j h1 h2 h3 h4 => (fr13 j (by omega))))
  have hm22 := (x_PS_at hPS5 (fun j hj hne => by have hj2 := x_some_lt hlt6 hne; exact ((fr13 j (by omega)).trans (frn9 j (by omega) (by omega)))))
  have hm23 := (x_LK_at2 hLKx5 (fun j h1 h2 => ((fr13 j (by omega)).trans (frn9 j (by omega) (by omega)))))
  have hm24 := (x_SP_at hSP (fun j hj hne => by have hj2 := x_some_lt hlt0 hne; exact ((fr13 j (by omega)).trans ((frn9 j (by omega) (by omega)).trans ((frn5 j (by omega) (by omega) (by omega)).trans (fr1 j (by omega) (by omega) (by omega) (by omega) (by omega) (by omega) (by omega)))))))
  have hm25 := (zq_V5_at hV5 ((fr13 485 (by decide)).trans ((frn9 485 (by omega) (by omega)).trans ((frn5 485 (by omega) (by omega) (by omega)).trans (fr1 485 (by decide) (by decide) (by decide) (by decide) (by decide) (by decide) (by decide))))))
  have hm26 := (zq_SL_at hSL ((fr13 482 (by decide)).trans ((frn9 482 (by omega) (by omega)).trans ((frn5 482 (by omega) (by omega) (by omega)).trans (fr1 482 (by decide) (by decide) (by decide) (by decide) (by decide) (by decide) (by decide))))))
  have hm27 := (zq_RW_at hRW ((fr13 483 (by decide)).trans ((frn9 483 (by omega) (by omega)).trans ((frn5 483 (by omega) (by omega) (by omega)).trans (fr1 483 (by decide) (by decide) (by decide) (by decide) (by decide) (by decide) (by decide))))))
  have hm28 := (zq_J_at hJ ((fr13 468 (by decide)).trans ((frn9 468 (by omega) (by omega)).trans ((frn5 468 (by omega) (by omega) (by omega)).trans (fr1 468 (by decide) (by decide) (by decide) (by decide) (by decide) (by decide) (by decide))))) ((fr13 469 (by decide)).trans ((frn9 469 (by omega) (by omega)).trans ((frn5 469 (by omega) (by omega) (by omega)).trans (fr1 469 (by decide) (by decide) (by decide) (by decide) (by decide) (by decide) (by decide))))) ((fr13 470 (by decide)).trans ((frn9 470 (by omega) (by omega)).trans ((frn5 470 (by omega) (by omega) (by omega)).trans (fr1 470 (by decide) (by decide) (by decide) (by decide) (by decide) (by decide) (by decide))))))
  have hm29 := (zFJ_at hFJ (fun j h1 h2 => ((fr13 j (by omega)).trans ((frn9 j (by omega) (by omega)).trans ((frn5 j (by omega) (by omega) (by omega)).trans (fr1 j (by omega) (by omega) (by omega) (by omega) (by omega) (by omega) (by omega)))))))
  have hm30 := (zWJ_at hWJ (fun j h1 h2 => ((fr13 j (by omega)).trans ((frn9 j (by omega) (by omega)).trans ((frn5 j (by omega) (by omega) (by omega)).trans (fr1 j (by omega) (by omega) (by omega) (by omega) (by omega) (by omega) (by omega)))))))
  have hm31 := (zq_OV_at hOV ((fr13 452 (by decide)).trans ((frn9 452 (by omega) (by omega)).trans ((frn5 452 (by omega) (by omega) (by omega)).trans (fr1 452 (by decide) (by decide) (by decide) (by decide) (by decide) (by decide) (by decide))))) ((fr13 453 (by decide)).trans ((frn9 453 (by omega) (by omega)).trans ((frn5 453 (by omega) (by omega) (by omega)).trans (fr1 453 (by decide) (by decide) (by decide) (by decide) (by decide) (by decide) (by decide))))))
  exact q_retv (v := (0, 3, 0)) rfl rfl (⟨rfl, ⟨by omega, by omega⟩, ⟨by omega, by omega⟩, rfl, ⟨⟨_, _, hs13, (Or.inl hv14)⟩, hm17, ⟨_, _, _, _, _, _, _, _, _, _, _, _, _, _, hm18⟩, ⟨_, _, _, _, _, _, _, hm19⟩, hm20, ⟨_, ⟨_, _, _, _, _, _, _, _, _, _, hm21⟩, (fun i hi => by rw [x_s_ne (by omega), x_s_ne (by omega), x_s_ne (by omega), x_s_ne (by omega), x_s_ne (by omega), x_s_ne (by omega), x_s_ne (by omega), x_s_ne (by omega), x_s_ne (by omega), x_s_ne (by omega), x_s_ne (by omega), x_s_ne (by omega), x_s_ne (by omega), x_s_ne (by omega)]; exact hco i hi)⟩, ⟨_, _, _, hm22, hm23⟩, hm24, hm25, ⟨_, hm26⟩, hm27, hm28, hm29, hm30, ⟨_, _, hm31, hovn, hovh⟩⟩⟩)
set_option maxHeartbeats 1000000 in
theorem zc_work_eq_nn {d n sl : Nat} {φ : FH} {tp : Nat → Nat} {lf : Nat} {mi : Nat} {made : Nat} {sv : Nat} {svm : Nat} {comb : Nat → Nat} {hm : Nat → MV} {sc : Nat → Nat} {sm : Nat → MV} {mh : MV} {noted : Nat} {verd : Nat} {ins : Nat → Nat} {ver : Nat → Nat} {sz : Nat} {bw : Nat → Nat} {w1 w2 d1 d2 : Nat} (hG : zG φ 5 tp lf mi made sv svm comb hm sc sm mh noted verd ins ver sz bw) (hn0 : 486 ≤ n) (hpv : ∀ i, x_pv2 (hm i)) (hmi : mi + 100 ≤ 20000) (ht0 : tp 0 = 35) (ht1 : tp 1 = d1) (ht2 : tp 2 = 61) (ht3 : tp 3 = 35) (ht4 : tp 4 = d2) (hdd1 : 48 ≤ d1 ∧ d1 ≤ 57) (hdd2 : 48 ≤ d2 ∧ d2 ≤ 57) (hw_1 : 0 + d1 - 48 = w1) (hw1 : w1 < 512) (hw_2 : 0 + d2 - 48 = w2) (hw2 : w2 < 512) (h1 : ¬ (w1 < made ∧ comb w1 ≠ 0)) (h2 : ¬ (w2 < made ∧ comb w2 ≠ 0)) : x_f x_P (d + 12) 28 [(6, 0, 0), (11, 0, 0)] φ n sl (x_bR n sl 3 21 (fun zw φ2 => zw = (0, 3, 0) ∧ zG φ2 0 tp 0 (mi + 3) made sv svm comb hm sc sm (3, 1, 0, 0, []) noted verd ins ver sz bw)) := by
  refine x_f_of rfl ?_
  have hG0 := hG
  obtain ⟨⟨hand, ie, hH, hhw⟩, hB, hTJ, hEJ, hN, hKJ, ⟨A, B, s9, hPS, hLK0⟩, hSP, hV5, ⟨slq, hSL⟩, hRW, hJ, hFJ, hWJ, ⟨ovn, ovh, hOV, hovn, hovh⟩⟩ := hG
  refine x_n_lt (fun hlt0 => ?_)
  have hmade := x_PS_lt hPS
  obtain ⟨tot, at_, cur, pl, va, fa, fp, sf, sp, no, op, K, P, V, hT⟩ := hTJ
  obtain ⟨bi, top, hid, lc, slo, own, sk, hE⟩ := hEJ
  obtain ⟨co, ⟨top_, fr_, pc_, mm, st, lo, re, rs, fl, se, hKS⟩, hco⟩ := hKJ
  refine q_load (v := (6, 0, 0)) (p2 := 1) rfl rfl rfl rfl ?_
  refine q_callrE (xs := [(6, 0, 0)]) (p2 := 2) rfl rfl rfl rfl (x_rcv_s 0 hH) rfl (zc_h_rx_eq hH hB hT hE hKS hPS hN ht0 ht1 ht2 ht3 ht4 (by omega)) (Nat.le_refl _) (Nat.le_refl _) rfl (fun φ1 hR1 => ?_)
  obtain ⟨hs1_0, hs1_1, hs1_2, hs1_3, fr1⟩ := hR1
  refine q_store (loc2 := [(6, 0, 0), (0, 60, 0)]) (p2 := 3) rfl rfl rfl rfl rfl ?_
  refine q_load (v := (0, 60, 0)) (p2 := 4) rfl rfl rfl rfl ?_
  refine q_if0_s (p2 := 5) rfl (by decide) (by omega) rfl (fun _ => ?_) (fun hb => absurd (show ¬ (60 < 0) by omega) hb)
  refine q_load (v := (6, 0, 0)) (p2 := 8) rfl rfl rfl rfl ?_
  refine q_getv (v := (6, 7, 0)) (p2 := 9) rfl hs1_0 (by decide) rfl rfl ?_
  refine x_n_lt (fun hlt3 => ?_)
  have hm2 := (x_PS_at hPS (fun j hj hne => by have hj2 := x_some_lt hlt0 hne; exact (fr1 j (by omega) (by omega) (by omega) (by omega) (by omega) (by omega) (by omega))))
  have hm4 := (x_LK_at2 hLK0 (fun j h1 h2 => (fr1 j (by omega) (by omega) (by omega) (by omega) (by omega) (by omega) (by omega))))
  refine q_callvE (xs := [(6, 7, 0)]) (p2 := 10) rfl rfl rfl rfl (x_rcv_s 7 hm2.1.choose_spec.1) rfl (e_prepare hm2 hm4.1 hpv hs1_3.2.2.2.2.2.2.2.2.2) (Nat.le_refl _) (Nat.le_refl _) rfl (fun φ5 hR5 => ?_)
  obtain ⟨A5, B5, hPS5, hLK5, frn5⟩ := hR5
  have hAB5 := x_pop_AB hPS5.1.choose_spec
  obtain ⟨lik5, lb5, hL5, hLb5, hlk5⟩ := id hLK5
  refine x_n_lt (fun hlt6 => ?_)
  have hLKx5 : x_LK φ5 A5 B5 made 0 comb hm ∧ _ := ⟨hLK5, hAB5⟩
  refine q_load (v := (6, 0, 0)) (p2 := 11) rfl rfl rfl rfl ?_
  refine q_load (v := (0, 60, 0)) (p2 := 12) rfl rfl rfl rfl ?_
  refine q_load (v := (6, 0, 0)) (p2 := 13) rfl rfl rfl rfl ?_
  have hm7 := (zq_H_at hs1_0 (frn5 0 (by omega) (by omega) (by omega)))
  refine q_getv (v := (6, 7, 0)) (p2 := 14) rfl hm7 (by decide) rfl rfl ?_
  refine q_getv (v := (6, 225, 0)) (p2 := 15) rfl hPS5.1.choose_spec.1 (by decide) hPS5.1.choose_spec.2.2.1 rfl ?_
  refine q_callK (xs := [(6, 225, 0), (0, 60, 0), (6, 0, 0)]) (p2 := 16) rfl rfl rfl rfl (x_rcv_s 0 hm7) rfl rfl ?_
  refine x_f_of rfl ?_
  refine q_load (v := (6, 0, 0)) (p2 := 1) rfl rfl rfl rfl ?_
  refine q_getv (v := (6, 455, 0)) (p2 := 2) rfl hm7 (by decide) rfl rfl ?_
  refine q_load (v := (0, 60, 0)) (p2 := 3) rfl rfl rfl rfl ?_
  refine q_load (v := (6, 225, 0)) (p2 := 4) rfl rfl rfl rfl ?_
  have hm8 := (x_KS_at2 hs1_3 (fun j h1 h2 h3 h4 => (frn5 j (by omega) (by omega) (by omega))))
  refine q_callrB (xs := [(6, 225, 0), (0, 60, 0), (6, 455, 0)]) (p2 := 5) rfl rfl rfl rfl (x_rcv_s 455 (x_KS_455 hm8)) rfl (zc_run_eq_nn hPS5 hm8 (by omega) (by omega) (((x_s_ne (by decide)).trans ((x_s_ne (by decide)).trans ((x_s_ne (by decide)).trans ((x_s_ne (by decide)).trans ((x_s_ne (by decide)).trans ((x_s_ne (by decide)).trans ((x_s_ne (by decide)).trans ((x_s_ne (by decide)).trans ((x_s_ne (by decide)).trans ((x_s_ne (by decide)).trans ((x_s_ne (by decide)).trans ((x_s_ne (by decide)).trans ((x_s_ne (by decide)).trans (x_s_eq))))))))))))))) (((x_s_ne (by decide)).trans ((x_s_ne (by decide)).trans ((x_s_ne (by decide)).trans ((x_s_ne (by decide)).trans ((x_s_ne (by decide)).trans ((x_s_ne (by decide)).trans ((x_s_ne (by decide)).trans ((x_s_ne (by decide)).trans (x_s_eq)))))))))) (((x_s_ne (by decide)).trans ((x_s_ne (by decide)).trans ((x_s_ne (by decide)).trans ((x_s_ne (by decide)).trans ((x_s_ne (by decide)).trans ((x_s_ne (by decide)).trans ((x_s_ne (by decide)).trans ((x_s_ne (by decide)).trans ((x_s_ne (by decide)).trans ((x_s_ne (by decide)).trans (x_s_eq)))))))))))) ((((x_s_ne (by decide)).trans ((x_s_ne (by decide)).trans ((x_s_ne (by decide)).trans ((x_s_ne (by decide)).trans ((x_s_ne (by decide)).trans ((x_s_ne (by decide)).trans ((x_s_ne (by decide)).trans ((x_s_ne (by decide)).trans ((x_s_ne (by decide)).trans (x_s_eq))))))))))).trans hw_1) (((x_s_ne (by decide)).trans ((x_s_ne (by decide)).trans ((x_s_ne (by decide)).trans ((x_s_ne (by decide)).trans ((x_s_ne (by decide)).trans ((x_s_ne (by decide)).trans ((x_s_ne (by decide)).trans (x_s_eq))))))))) (((x_s_ne (by decide)).trans ((x_s_ne (by decide)).trans ((x_s_ne (by decide)).trans ((x_s_ne (by decide)).trans ((x_s_ne (by decide)).trans (x_s_eq))))))) (((x_s_ne (by decide)).trans ((x_s_ne (by decide)).trans ((x_s_ne (by decide)).trans ((x_s_ne (by decide)).trans (x_s_eq)))))) ((((x_s_ne (by decide)).trans ((x_s_ne (by decide)).trans ((x_s_ne (by decide)).trans (x_s_eq))))).trans hw_2) (((x_s_ne (by decide)).trans ((x_s_ne (by decide)).trans (x_s_eq)))) (((x_s_ne (by decide)).trans (x_s_eq))) ((x_s_eq)) (by omega) (by omega) h1 h2 (x_row_at2 hL5 rfl) (by rcases hAB5 with ⟨z, -⟩ | ⟨z, -⟩ <;> omega)) rfl (fun w9 φ9 n9 sl9 hn9 hN9 hs9 hT9 hR9 => ?_)
  obtain ⟨v9, hwv9, ⟨ka9, kb9, kc9, kd9, ke9, kf9, kg9, kh9, ki9, kj9, hK9⟩, hV9, frn9⟩ := hR9
  subst hwv9
  refine x_n_lt (fun hlt10 => ?_)
  have hz11 := x_mv_lt hV9 hlt10
  have hy11 := hV9.1
  refine q_store (loc2 := [(6, 0, 0), (0, 60, 0), (6, 225, 0), (6, v9, 0)]) (p2 := 6) rfl rfl rfl rfl rfl ?_
  refine q_load (v := (6, 0, 0)) (p2 := 7) rfl rfl rfl rfl ?_
  have hm12 := (zq_H_at hm7 (frn9 0 (by omega) (by omega)))
  refine q_getv (v := (6, 455, 0)) (p2 := 8) rfl hm12 (by decide) rfl rfl ?_
  refine q_getv (v := (0, 0, 0)) (p2 := 9) rfl (x_KS_455 hK9) (by decide) hK9.1.choose_spec.2.2.2.2.2.2.2.2.2.2.2.2.2.2.2.2.2.1 rfl ?_
  refine q_if0_s (p2 := 10) rfl (by decide) (by omega) rfl (fun _ => ?_) (fun hb => absurd (show 0 = 0 by omega) hb)
  refine q_load (v := (6, 0, 0)) (p2 := 13) rfl rfl rfl rfl ?_
  refine q_load (v := (6, v9, 0)) (p2 := 14) rfl rfl rfl rfl ?_
  refine q_putfE (v := (6, v9, 0)) (p2 := 15) rfl hm12 (by decide) rfl rfl (fun φ13 f13 hh13 hg13 ho13 fr13 => ?_)
  have hs13 := zq_H_put_0_10 hm12 hh13 hg13 ho13 fr13
  refine q_load (v := (6, 0, 0)) (p2 := 16) rfl rfl rfl rfl ?_
  refine q_getv (v := (6, v9, 0)) (p2 := 17) rfl hs13 (by decide) rfl rfl ?_
  refine x_n_lt (fun hlt15 => ?_)
  have hv14 := x_mv_at hV9 (fun j hj hne => by have hj2 := x_some_lt hlt10 hne; exact (fr13 j (by omega)))
  obtain ⟨fV16, hW16, hg16⟩ := x_mv_gS hv14 (by decide)
  have hl16 := hlt15 _ _ hW16
  have h6_16 := hv14.1
  refine q_getv (v := (0, 3, 0)) (p2 := 18) rfl hW16 (by decide) hg16.1 rfl ?_
  refine q_retv (v := (0, 3, 0)) rfl rfl ⟨rfl, by omega, by omega, ?_⟩
  have hm17 := (zq_tp_at hB ((fr13 1 (by decide)).trans ((frn9 1 (by omega) (by omega)).trans ((frn5 1 (by omega) (by omega) (by omega)).trans (fr1 1 (by decide) (by decide) (by decide) (by decide) (by decide) (by decide) (by decide))))))
  have hm18 := (zq_T_at hs1_1 ((fr13 2 (by decide)).trans ((frn9 2 (by omega) (by omega)).trans (frn5 2 (by omega) (by omega) (by omega)))) ((fr13 3 (by decide)).trans ((frn9 3 (by omega) (by omega)).trans (frn5 3 (by omega) (by omega) (by omega)))) ((fr13 4 (by decide)).trans ((frn9 4 (by omega) (by omega)).trans (frn5 4 (by omega) (by omega) (by omega)))) ((fr13 5 (by decide)).trans ((frn9 5 (by omega) (by omega)).trans (frn5 5 (by omega) (by omega) (by omega)))) ((fr13 6 (by decide)).trans ((frn9 6 (by omega) (by omega)).trans (frn5 6 (by omega) (by omega) (by omega)))))
  have hm19 := (zq_E_at hs1_2 ((fr13 232 (by decide)).trans ((frn9 232 (by omega) (by omega)).trans (frn5 232 (by omega) (by omega) (by omega)))))
  have hm20 := (zq_nm_at hN ((fr13 239 (by decide)).trans ((frn9 239 (by omega) (by omega)).trans ((frn5 239 (by omega) (by omega) (by omega)).trans (fr1 239 (by decide) (by decide) (by decide) (by decide) (by decide) (by decide) (by decide))))) ((fr13 242 (by decide)).trans ((frn9 242 (by omega) (by omega)).trans ((frn5 242 (by omega) (by omega) (by omega)).trans (fr1 242 (by decide) (by decide) (by decide) (by decide) (by decide) (by decide) (by decide))))) ((fr13 244 (by decide)).trans ((frn9 244 (by omega) (by omega)).trans ((frn5 244 (by omega) (by omega) (by omega)).trans (fr1 244 (by decide) (by decide) (by decide) (by decide) (by decide) (by decide) (by decide))))))
  have hm21 := (x_KS_at2 hK9 (fun j h1 h2 h3 h4 => (fr13 j (by omega))))
  have hm22 := (x_PS_at hPS5 (fun j hj hne => by have hj2 := x_some_lt hlt6 hne; exact ((fr13 j (by omega)).trans (frn9 j (by omega) (by omega)))))
  have hm23 := (x_LK_at2 hLKx5 (fun j h1 h2 => ((fr13 j (by omega)).trans (frn9 j (by omega) (by omega)))))
  have hm24 := (x_SP_at hSP (fun j hj hne => by have hj2 := x_some_lt hlt0 hne; exact ((fr13 j (by omega)).trans ((frn9 j (by omega) (by omega)).trans ((frn5 j (by omega) (by omega) (by omega)).trans (fr1 j (by omega) (by omega) (by omega) (by omega) (by omega) (by omega) (by omega)))))))
  have hm25 := (zq_V5_at hV5 ((fr13 485 (by decide)).trans ((frn9 485 (by omega) (by omega)).trans ((frn5 485 (by omega) (by omega) (by omega)).trans (fr1 485 (by decide) (by decide) (by decide) (by decide) (by decide) (by decide) (by decide))))))
  have hm26 := (zq_SL_at hSL ((fr13 482 (by decide)).trans ((frn9 482 (by omega) (by omega)).trans ((frn5 482 (by omega) (by omega) (by omega)).trans (fr1 482 (by decide) (by decide) (by decide) (by decide) (by decide) (by decide) (by decide))))))
  have hm27 := (zq_RW_at hRW ((fr13 483 (by decide)).trans ((frn9 483 (by omega) (by omega)).trans ((frn5 483 (by omega) (by omega) (by omega)).trans (fr1 483 (by decide) (by decide) (by decide) (by decide) (by decide) (by decide) (by decide))))))
  have hm28 := (zq_J_at hJ ((fr13 468 (by decide)).trans ((frn9 468 (by omega) (by omega)).trans ((frn5 468 (by omega) (by omega) (by omega)).trans (fr1 468 (by decide) (by decide) (by decide) (by decide) (by decide) (by decide) (by decide))))) ((fr13 469 (by decide)).trans ((frn9 469 (by omega) (by omega)).trans ((frn5 469 (by omega) (by omega) (by omega)).trans (fr1 469 (by decide) (by decide) (by decide) (by decide) (by decide) (by decide) (by decide))))) ((fr13 470 (by decide)).trans ((frn9 470 (by omega) (by omega)).trans ((frn5 470 (by omega) (by omega) (by omega)).trans (fr1 470 (by decide) (by decide) (by decide) (by decide) (by decide) (by decide) (by decide))))))
  have hm29 := (zFJ_at hFJ (fun j h1 h2 => ((fr13 j (by omega)).trans ((frn9 j (by omega) (by omega)).trans ((frn5 j (by omega) (by omega) (by omega)).trans (fr1 j (by omega) (by omega) (by omega) (by omega) (by omega) (by omega) (by omega)))))))
  have hm30 := (zWJ_at hWJ (fun j h1 h2 => ((fr13 j (by omega)).trans ((frn9 j (by omega) (by omega)).trans ((frn5 j (by omega) (by omega) (by omega)).trans (fr1 j (by omega) (by omega) (by omega) (by omega) (by omega) (by omega) (by omega)))))))
  have hm31 := (zq_OV_at hOV ((fr13 452 (by decide)).trans ((frn9 452 (by omega) (by omega)).trans ((frn5 452 (by omega) (by omega) (by omega)).trans (fr1 452 (by decide) (by decide) (by decide) (by decide) (by decide) (by decide) (by decide))))) ((fr13 453 (by decide)).trans ((frn9 453 (by omega) (by omega)).trans ((frn5 453 (by omega) (by omega) (by omega)).trans (fr1 453 (by decide) (by decide) (by decide) (by decide) (by decide) (by decide) (by decide))))))
  exact q_retv (v := (0, 3, 0)) rfl rfl (⟨rfl, ⟨by omega, by omega⟩, ⟨by omega, by omega⟩, rfl, ⟨⟨_, _, hs13, (Or.inl hv14)⟩, hm17, ⟨_, _, _, _, _, _, _, _, _, _, _, _, _, _, hm18⟩, ⟨_, _, _, _, _, _, _, hm19⟩, hm20, ⟨_, ⟨_, _, _, _, _, _, _, _, _, _, hm21⟩, (fun i hi => by rw [x_s_ne (by omega), x_s_ne (by omega), x_s_ne (by omega), x_s_ne (by omega), x_s_ne (by omega), x_s_ne (by omega), x_s_ne (by omega), x_s_ne (by omega), x_s_ne (by omega), x_s_ne (by omega), x_s_ne (by omega), x_s_ne (by omega), x_s_ne (by omega), x_s_ne (by omega)]; exact hco i hi)⟩, ⟨_, _, _, hm22, hm23⟩, hm24, hm25, ⟨_, hm26⟩, hm27, hm28, hm29, hm30, ⟨_, _, hm31, hovn, hovh⟩⟩⟩)
set_option maxHeartbeats 1000000 in
theorem zc_work_err {d n sl : Nat} {φ : FH} {tp : Nat → Nat} {lf : Nat} {mi : Nat} {made : Nat} {sv : Nat} {svm : Nat} {comb : Nat → Nat} {hm : Nat → MV} {sc : Nat → Nat} {sm : Nat → MV} {mh : MV} {noted : Nat} {verd : Nat} {ins : Nat → Nat} {ver : Nat → Nat} {sz : Nat} {bw : Nat → Nat} {d1 : Nat} (hG : zG φ 3 tp lf mi made sv svm comb hm sc sm mh noted verd ins ver sz bw) (hn0 : 486 ≤ n) (hpv : ∀ i, x_pv2 (hm i)) (hmi : mi + 100 ≤ 20000) (ht0 : tp 0 = 35) (ht1 : tp 1 = d1) (ht2 : tp 2 = 43) (hdd1 : 48 ≤ d1 ∧ d1 ≤ 57) : x_f x_P (d + 11) 28 [(6, 0, 0), (11, 0, 0)] φ n sl (x_bR n sl 0 0 (fun zw φ2 => zw = (0, 4294967283, 0) ∧ zG φ2 0 tp 2 mi made sv svm comb hm sc sm mh noted verd ins ver sz bw)) := by
  refine x_f_of rfl ?_
  have hG0 := hG
  obtain ⟨⟨hand, ie, hH, hhw⟩, hB, hTJ, hEJ, hN, hKJ, ⟨A, B, s9, hPS, hLK0⟩, hSP, hV5, ⟨slq, hSL⟩, hRW, hJ, hFJ, hWJ, ⟨ovn, ovh, hOV, hovn, hovh⟩⟩ := hG
  refine x_n_lt (fun hlt0 => ?_)
  have hmade := x_PS_lt hPS
  obtain ⟨tot, at_, cur, pl, va, fa, fp, sf, sp, no, op, K, P, V, hT⟩ := hTJ
  obtain ⟨bi, top, hid, lc, slo, own, sk, hE⟩ := hEJ
  obtain ⟨co, ⟨top_, fr_, pc_, mm, st, lo, re, rs, fl, se, hKS⟩, hco⟩ := hKJ
  refine q_load (v := (6, 0, 0)) (p2 := 1) rfl rfl rfl rfl ?_
  refine q_callrE (xs := [(6, 0, 0)]) (p2 := 2) rfl rfl rfl rfl (x_rcv_s 0 hH) rfl (zc_h_rx_err hH hB hT hE hKS hPS hN ht0 ht1 ht2 (by omega)) (Nat.le_refl _) (Nat.le_refl _) rfl (fun φ1 hR1 => ?_)
  obtain ⟨hs1_0, hs1_1, hs1_2, hs1_3, fr1⟩ := hR1
  refine q_store (loc2 := [(6, 0, 0), (0, 4294967283, 0)]) (p2 := 3) rfl rfl rfl rfl rfl ?_
  refine q_load (v := (0, 4294967283, 0)) (p2 := 4) rfl rfl rfl rfl ?_
  refine q_if0 (p2 := 5) rfl (by decide) rfl (fun hb => absurd hb (show ¬ (¬ (2147483635 < 2147483648)) by decide)) (fun _ => ?_)
  refine q_load (v := (0, 4294967283, 0)) (p2 := 6) rfl rfl rfl rfl ?_
  have hm2 := (zq_tp_at hB (fr1 1 (by decide) (by decide) (by decide) (by decide) (by decide) (by decide) (by decide)))
  have hm3 := (zq_nm_at hN (fr1 239 (by decide) (by decide) (by decide) (by decide) (by decide) (by decide) (by decide)) (fr1 242 (by decide) (by decide) (by decide) (by decide) (by decide) (by decide) (by decide)) (fr1 244 (by decide) (by decide) (by decide) (by decide) (by decide) (by decide) (by decide)))
  refine x_n_lt (fun hlt5 => ?_)
  have hm4 := (x_PS_at hPS (fun j hj hne => by have hj2 := x_some_lt hlt0 hne; exact (fr1 j (by omega) (by omega) (by omega) (by omega) (by omega) (by omega) (by omega))))
  have hm6 := (x_LK_at2 hLK0 (fun j h1 h2 => (fr1 j (by omega) (by omega) (by omega) (by omega) (by omega) (by omega) (by omega))))
  have hm7 := (x_SP_at hSP (fun j hj hne => by have hj2 := x_some_lt hlt0 hne; exact (fr1 j (by omega) (by omega) (by omega) (by omega) (by omega) (by omega) (by omega))))
  have hm8 := (zq_V5_at hV5 (fr1 485 (by decide) (by decide) (by decide) (by decide) (by decide) (by decide) (by decide)))
  have hm9 := (zq_SL_at hSL (fr1 482 (by decide) (by decide) (by decide) (by decide) (by decide) (by decide) (by decide)))
  have hm10 := (zq_RW_at hRW (fr1 483 (by decide) (by decide) (by decide) (by decide) (by decide) (by decide) (by decide)))
  have hm11 := (zq_J_at hJ (fr1 468 (by decide) (by decide) (by decide) (by decide) (by decide) (by decide) (by decide)) (fr1 469 (by decide) (by decide) (by decide) (by decide) (by decide) (by decide) (by decide)) (fr1 470 (by decide) (by decide) (by decide) (by decide) (by decide) (by decide) (by decide)))
  have hm12 := (zFJ_at hFJ (fun j h1 h2 => (fr1 j (by omega) (by omega) (by omega) (by omega) (by omega) (by omega) (by omega))))
  have hm13 := (zWJ_at hWJ (fun j h1 h2 => (fr1 j (by omega) (by omega) (by omega) (by omega) (by omega) (by omega) (by omega))))
  have hm14 := (zq_OV_at hOV (fr1 452 (by decide) (by decide) (by decide) (by decide) (by decide) (by decide) (by decide)) (fr1 453 (by decide) (by decide) (by decide) (by decide) (by decide) (by decide) (by decide)))
  exact q_retv (v := (0, 4294967283, 0)) rfl rfl (⟨rfl, ⟨by omega, by omega⟩, ⟨by omega, by omega⟩, rfl, ⟨⟨_, _, hs1_0, (x_hw_at hhw (fun j hj hne => by have hj2 := x_some_lt hlt0 hne; exact (fr1 j (by omega) (by omega) (by omega) (by omega) (by omega) (by omega) (by omega))))⟩, hm2, ⟨_, _, _, _, _, _, _, _, _, _, _, _, _, _, hs1_1⟩, ⟨_, _, _, _, _, _, _, hs1_2⟩, hm3, ⟨_, ⟨_, _, _, _, _, _, _, _, _, _, hs1_3⟩, (fun i hi => by rw [x_s_ne (by omega), x_s_ne (by omega), x_s_ne (by omega), x_s_ne (by omega), x_s_ne (by omega), x_s_ne (by omega), x_s_ne (by omega), x_s_ne (by omega), x_s_ne (by omega), x_s_ne (by omega), x_s_ne (by omega)]; exact hco i hi)⟩, ⟨_, _, _, hm4, hm6⟩, hm7, hm8, ⟨_, hm9⟩, hm10, hm11, hm12, hm13, ⟨_, _, hm14, hovn, hovh⟩⟩⟩)
end FPOP64
