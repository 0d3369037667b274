section FPOP16
theorem x_kn_c {la l : Nat → Nat} {made a b : Nat} (h : ∀ i, i < made → la i = l i) : x_kn la made a b ↔ x_kn l made a b := by
  constructor
  · rintro (e | ⟨⟨h1, h2⟩, h3⟩)
    · exact Or.inl e
    · exact Or.inr ⟨⟨h1, h2⟩, by rw [← h a h1, ← h b h2]; exact h3⟩
  · rintro (e | ⟨⟨h1, h2⟩, h3⟩)
    · exact Or.inl e
    · exact Or.inr ⟨⟨h1, h2⟩, by rw [h a h1, h b h2]; exact h3⟩
theorem x_gJ_c {q p : Nat → Prop} [DecidablePred q] [DecidablePred p] (h : ∀ j, q j ↔ p j) (k : Nat) : ∀ (j u : Nat), x_gJ q k j u = x_gJ p k j u := by
  induction k with
  | zero => intro j u; rfl
  | succ k ih =>
    intro j u
    unfold x_gJ
    by_cases h1 : u >>> j &&& 1 = 0 ∧ q j
    · rw [if_pos h1, if_pos ⟨h1.1, (h j).mp h1.2⟩]
    · rw [if_neg h1, if_neg (fun z => h1 ⟨z.1, (h j).mpr z.2⟩)]
      exact ih _ _
theorem x_gI_c {q p : Nat → Nat → Prop} [∀ i j, Decidable (q i j)] [∀ i j, Decidable (p i j)] {len : Nat} (h : ∀ i j, q i j ↔ p i j) (k : Nat) : ∀ (i u : Nat), x_gI q len k i u = x_gI p len k i u := by
  induction k with
  | zero => intro i u; rfl
  | succ k ih =>
    intro i u
    unfold x_gI
    rw [x_gJ_c (h i) len 0 u]
    by_cases h1 : (x_gJ (p i) len 0 u).1 = 1
    · rw [if_pos h1, if_pos h1]; exact ih _ _
    · rw [if_neg h1, if_neg h1]
theorem x_lkb_c {la l : Nat → Nat} {made : Nat} {m m2 : MV} (h : ∀ i, i < made → la i = l i) : x_lkb la made m m2 = x_lkb l made m m2 := by
  unfold x_lkb
  refine decide_eq_decide.mpr ?_
  have e1 := x_gI_c (q := fun i j => x_kn la made (m.2.2.2.2.getD i 0) (m2.2.2.2.2.getD j 0)) (p := fun i j => x_kn l made (m.2.2.2.2.getD i 0) (m2.2.2.2.2.getD j 0)) (len := m2.2.2.2.2.length) (fun i j => x_kn_c h) m.2.2.2.2.length 0 0
  have e2 : x_kn la made m.2.1 m2.2.1 ↔ x_kn l made m.2.1 m2.2.1 := x_kn_c h
  unfold x_lkw
  rw [e1]
  unfold x_ca
  rw [e2]
theorem x_hA_c {la l : Nat → Nat} {made x y : Nat} {hm : Nat → MV} (h : ∀ i, i < made → la i = l i) : x_hA la made hm x y ↔ x_hA l made hm x y := by
  unfold x_hA x_lk
  rw [x_lkb_c h, x_lkb_c h, x_lkb_c h]
theorem x_pk_c {q p : Nat → Prop} [DecidablePred q] [DecidablePred p] {v : Nat} (h : ∀ y, y < v → (q y ↔ p y)) (k : Nat) : ∀ y, y + k ≤ v → x_pk q v k y = x_pk p v k y := by
  induction k with
  | zero => intro y _; rfl
  | succ k ih =>
    intro y hy
    unfold x_pk
    by_cases h1 : q y
    · rw [if_pos h1, if_pos ((h y (by omega)).mp h1)]
    · rw [if_neg h1, if_neg (fun z => h1 ((h y (by omega)).mpr z))]
      exact ih _ (by omega)
theorem x_fi_c {la l : Nat → Nat} {made : Nat} {hm : Nat → MV} (h : ∀ i, i < made → la i = l i) (x : Nat) (hx : x ≤ made) : ∀ i, i < x → x_fi la made hm x i = x_fi l made hm x i := by
  induction x with
  | zero => intro i hi; exact absurd hi (Nat.not_lt_zero i)
  | succ x ih =>
    intro i hi
    have ih := ih (by omega)
    by_cases hix : i = x
    · rw [hix, x_fi_at, x_fi_at]
      refine x_pk_c (fun y hy => ?_) x 0 (by omega)
      rw [ih y hy, h y (by omega), h x (by omega), x_hA_c h]
    · rw [x_fi_ne hix, x_fi_ne hix]
      exact ih i (by omega)
theorem x_pd_c {la l : Nat → Nat} {made : Nat} {hm : Nat → MV} (h : ∀ i, i < made → la i = l i) (x : Nat) (hx : x ≤ made) : x_pd la made hm x = x_pd l made hm x := by
  induction x with
  | zero => rfl
  | succ x ih => rw [x_pd_s, x_pd_s, ih (by omega), x_fi_c h (x + 1) hx x (by omega), h x (by omega)]
/-- the first likenesses: by the combinations alone -/
def x_dn (comb : Nat → Nat) (x : Nat) : Nat → Nat → Nat
  | 0, v => v
  | k + 1, v => x_dn comb x k (if comb x ≠ 0 ∧ comb k = comb x then k else v)
def x_l0 (comb : Nat → Nat) (x : Nat) : Nat := x_dn comb x x x
/-- parted at most k times -/
def x_lm (made : Nat) (hm : Nat → MV) : Nat → (Nat → Nat) → (Nat → Nat)
  | 0, l => l
  | k + 1, l => if x_pd l made hm made = 0 then x_fi l made hm made else x_lm made hm k (x_fi l made hm made)
/-- what prepare works out -/
def x_lks (made : Nat) (comb : Nat → Nat) (hm : Nat → MV) : Nat → Nat := x_lm made hm 41 (x_l0 comb)
def x_dcr : Nat → Nat
  | 0 => 4294967295
  | k + 1 => k
theorem x_dcr_i {k : Nat} (h : k < 2147483648) : (k + 4294967295) % 4294967296 = x_dcr k := by
  cases k with
  | zero => rfl
  | succ k => show _ = k; omega
theorem x_dcr_s {k : Nat} (h : k < 2147483648) : (k + (4294967296 - 1 % 4294967296)) % 4294967296 = x_dcr k := x_dcr_i h
theorem e_prep_in {d n sl A B made sv svm st : Nat} {φ0 : FH} {fP : Nat → XV} {comb : Nat → Nat} {Post : FP} (hP0 : x_pop φ0 A B made sv svm st fP) (hC0 : x_comb φ0 226 comb) {x : Nat} {la : Nat → Nat} (hx : x < made) (k : Nat) : ∀ (v : Nat) {φ : FH}, x_row φ A (fun i => if i = x then v else la i) → (∀ j, j ≠ A → φ j = φ0 j) → k ≤ x → (kk : ∀ (φ9 : FH) (q : Nat), x_row φ9 A (fun i => if i = x then x_dn comb x k v else la i) → (∀ j, j ≠ A → φ9 j = φ0 j) → x_n x_P (d + 4) xc_55 48 [] [(6, 7, 0), (0, x, 0), (0, q, 0)] φ9 n sl Post) → x_n x_P (d + 4) xc_55 25 [] [(6, 7, 0), (0, x, 0), (0, x_dcr k, 0)] φ n sl Post := by
  have hmade := x_pop_made hP0
  have hAB := x_pop_AB hP0
  induction k with
  | zero =>
    intro v φ hA hfr hk kk
    unfold x_dn at kk
    show x_n x_P (d + 4) xc_55 25 [] [(6, 7, 0), (0, x, 0), (0, 4294967295, 0)] φ n sl Post
    have hP : x_pop φ A B made sv svm st fP := x_pop_at hP0 (hfr 7 (by omega))
    have hC : x_comb φ 226 comb := x_comb_at hC0 (hfr 226 (by omega))
    have hcx := hC.2
    refine q_load (p2 := 26) rfl rfl rfl rfl ?_
    refine q_if0 (p2 := 27) rfl (by decide) rfl (fun _ => ?_) (fun hb => absurd (show 2147483647 < 2147483648 by decide) hb)
    exact kk _ _ hA hfr
  | succ k ih =>
    intro v φ hA hfr hk kk
    show x_n x_P (d + 4) xc_55 25 [] [(6, 7, 0), (0, x, 0), (0, k, 0)] φ n sl Post
    have hP : x_pop φ A B made sv svm st fP := x_pop_at hP0 (hfr 7 (by omega))
    have hC : x_comb φ 226 comb := x_comb_at hC0 (hfr 226 (by omega))
    have hcx := hC.2
    refine q_load (p2 := 26) rfl rfl rfl rfl ?_
    refine q_if0_s (p2 := 27) rfl (by decide) (by first | omega | (have := hcx x; have := hcx k; omega)) rfl (fun hb => absurd hb (show ¬ (k < 0) by first | omega | (have := hcx x; have := hcx k; omega))) (fun _ => ?_)
    refine q_load (p2 := 28) rfl rfl rfl rfl ?_
    refine q_getv (p2 := 29) rfl hP.1 (by decide) hP.2.2.2.2.1 rfl ?_
    refine q_load (p2 := 30) rfl rfl rfl rfl ?_
    refine q_aldv (v := (0, comb x, 0)) (p2 := 31) rfl hC.1 (by first | omega | (have := hcx x; have := hcx k; omega)) (by first | omega | (have := hcx x; have := hcx k; omega)) rfl rfl ?_
    refine q_if0_s (p2 := 32) rfl (by decide) (by first | omega | (have := hcx x; have := hcx k; omega)) rfl (fun hb1 => ?_) (fun hb1 => ?_)
    · have hb1 : comb x = 0 := hb1
      refine q_iinc (z := x_dcr k) (p2 := 47) rfl rfl (x_dcr_i (by omega)) rfl rfl ?_
      refine q_goto rfl ?_
      refine ih v hA hfr (by omega) (fun φ9 q9 z1 z2 => kk φ9 q9 ?_ z2)
      rw [show x_dn comb x (k + 1) v = x_dn comb x k (if comb x ≠ 0 ∧ comb k = comb x then k else v) from rfl, if_neg (by omega)]; exact z1
    · have hb1 : ¬ (comb x = 0) := hb1
      refine q_load (p2 := 33) rfl rfl rfl rfl ?_
      refine q_getv (p2 := 34) rfl hP.1 (by decide) hP.2.2.2.2.1 rfl ?_
      refine q_load (p2 := 35) rfl rfl rfl rfl ?_
      refine q_aldv (v := (0, comb k, 0)) (p2 := 36) rfl hC.1 (by first | omega | (have := hcx x; have := hcx k; omega)) (by first | omega | (have := hcx x; have := hcx k; omega)) rfl rfl ?_
      refine q_load (p2 := 37) rfl rfl rfl rfl ?_
      refine q_getv (p2 := 38) rfl hP.1 (by decide) hP.2.2.2.2.1 rfl ?_
      refine q_load (p2 := 39) rfl rfl rfl rfl ?_
      refine q_aldv (v := (0, comb x, 0)) (p2 := 40) rfl hC.1 (by first | omega | (have := hcx x; have := hcx k; omega)) (by first | omega | (have := hcx x; have := hcx k; omega)) rfl rfl ?_
      refine q_icmp_s (p2 := 41) rfl (by decide) (by first | omega | (have := hcx x; have := hcx k; omega)) (by first | omega | (have := hcx x; have := hcx k; omega)) rfl (fun hb2 => ?_) (fun hb2 => ?_)
      · have hb2 : ¬ (comb k = comb x) := hb2
        refine q_iinc (z := x_dcr k) (p2 := 47) rfl rfl (x_dcr_i (by omega)) rfl rfl ?_
        refine q_goto rfl ?_
        refine ih v hA hfr (by omega) (fun φ9 q9 z1 z2 => kk φ9 q9 ?_ z2)
        rw [show x_dn comb x (k + 1) v = x_dn comb x k (if comb x ≠ 0 ∧ comb k = comb x then k else v) from rfl, if_neg (by omega)]; exact z1
      · have hb2 : ¬ (¬ (comb k = comb x)) := hb2
        refine q_load (p2 := 42) rfl rfl rfl rfl ?_
        refine q_getv (p2 := 43) rfl hP.1 (by decide) hP.2.2.2.2.2.2.2.2.2.2.1 rfl ?_
        refine q_load (p2 := 44) rfl rfl rfl rfl ?_
        refine q_load (p2 := 45) rfl rfl rfl rfl ?_
        refine q_astE (p2 := 46) rfl hA.1 (by first | omega | (have := hcx x; have := hcx k; omega)) (by first | omega | (have := hcx x; have := hcx k; omega)) (x_ok_0 rfl) (x_nv_same rfl (by decide)) rfl (fun φ3 f3 hh3 hg3 ho3 fr3 => ?_)
        refine q_iinc (z := x_dcr k) (p2 := 47) rfl rfl (x_dcr_i (by omega)) rfl rfl ?_
        refine q_goto rfl ?_
        have hA2 := x_row_upd hh3 hA.2 (show k < 2147483648 by omega) hg3 ho3
        refine ih k (x_row_eq hA2 (fun i => ?_)) (fun j hj => (fr3 j hj).trans (hfr j hj)) (by omega) (fun φ9 q9 z1 z2 => kk φ9 q9 ?_ z2)
        · by_cases h : i = x
          · rw [if_pos h, if_pos h]
          · rw [if_neg h, if_neg h, if_neg h]
        · rw [show x_dn comb x (k + 1) v = x_dn comb x k (if comb x ≠ 0 ∧ comb k = comb x then k else v) from rfl, if_pos (by omega)]; exact z1
theorem e_prep_out {d n sl A B made sv svm st : Nat} {φ0 : FH} {fP : Nat → XV} {comb : Nat → Nat} {Post : FP} (hP0 : x_pop φ0 A B made sv svm st fP) (hC0 : x_comb φ0 226 comb) (kk : ∀ (φ9 : FH) (la : Nat → Nat) (q : XV), (∀ i, i < made → la i = x_l0 comb i) → x_row φ9 A la → (∀ j, j ≠ A → φ9 j = φ0 j) → x_n x_P (d + 4) xc_55 50 [] [(6, 7, 0), (0, made, 0), q] φ9 n sl Post) (k : Nat) : ∀ (x : Nat) {φ : FH} {la : Nat → Nat} {q : XV}, x + k = made → (∀ i, i < x → la i = x_l0 comb i) → x_row φ A la → (∀ j, j ≠ A → φ j = φ0 j) → x_n x_P (d + 4) xc_55 9 [] [(6, 7, 0), (0, x, 0), q] φ n sl Post := by
  have hmade := x_pop_made hP0
  have hAB := x_pop_AB hP0
  induction k with
  | zero =>
    intro x φ la q hx hla hA hfr
    have hx : made = x := by omega
    subst hx
    have hP : x_pop φ A B made sv svm st fP := x_pop_at hP0 (hfr 7 (by omega))
    have hC : x_comb φ 226 comb := x_comb_at hC0 (hfr 226 (by omega))
    have hcx := hC.2
    refine q_load (p2 := 10) rfl rfl rfl rfl ?_
    refine q_load (p2 := 11) rfl rfl rfl rfl ?_
    refine q_getv (p2 := 12) rfl hP.1 (by decide) hP.2.2.2.1 rfl ?_
    refine q_icmp_s (p2 := 13) rfl (by decide) (by omega) (by omega) rfl (fun _ => ?_) (fun hb => absurd (show ¬ (made < made) by omega) hb)
    exact kk _ _ _ hla hA hfr
  | succ k ih =>
    intro x φ la q hx hla hA hfr
    have hP : x_pop φ A B made sv svm st fP := x_pop_at hP0 (hfr 7 (by omega))
    have hC : x_comb φ 226 comb := x_comb_at hC0 (hfr 226 (by omega))
    have hcx := hC.2
    refine q_load (p2 := 10) rfl rfl rfl rfl ?_
    refine q_load (p2 := 11) rfl rfl rfl rfl ?_
    refine q_getv (p2 := 12) rfl hP.1 (by decide) hP.2.2.2.1 rfl ?_
    refine q_icmp_s (p2 := 13) rfl (by decide) (by first | omega | (have := hcx x; have := hcx x; omega)) (by first | omega | (have := hcx x; have := hcx x; omega)) rfl (fun hb => absurd hb (show ¬ (¬ (x < made)) by first | omega | (have := hcx x; have := hcx x; omega))) (fun _ => ?_)
    refine q_load (p2 := 14) rfl rfl rfl rfl ?_
    refine q_const (p2 := 15) rfl rfl ?_
    refine q_icmp_s (p2 := 16) rfl (by decide) (by first | omega | (have := hcx x; have := hcx x; omega)) (by first | omega | (have := hcx x; have := hcx x; omega)) rfl (fun hb => absurd hb (show ¬ (¬ (x < 40)) by first | omega | (have := hcx x; have := hcx x; omega))) (fun _ => ?_)
    refine q_load (p2 := 17) rfl rfl rfl rfl ?_
    refine q_getv (p2 := 18) rfl hP.1 (by decide) hP.2.2.2.2.2.2.2.2.2.2.1 rfl ?_
    refine q_load (p2 := 19) rfl rfl rfl rfl ?_
    refine q_load (p2 := 20) rfl rfl rfl rfl ?_
    refine q_astE (p2 := 21) rfl hA.1 (by first | omega | (have := hcx x; have := hcx x; omega)) (by first | omega | (have := hcx x; have := hcx x; omega)) (x_ok_0 rfl) (x_nv_same rfl (by decide)) rfl (fun φ1 f1 hh1 hg1 ho1 fr1 => ?_)
    refine q_load (p2 := 22) rfl rfl rfl rfl ?_
    refine q_const (p2 := 23) rfl rfl ?_
    refine q_iop (w := x + (4294967296 - 1 % 4294967296)) (z := x_dcr x) (p2 := 24) rfl (xo_sub x 1) (x_dcr_s (by omega)) rfl ?_
    refine q_store (p2 := 25) rfl rfl rfl rfl rfl ?_
    have hA1 := x_row_upd hh1 hA.2 (show x < 2147483648 by omega) hg1 ho1
    refine e_prep_in (la := la) hP0 hC0 (x := x) (by omega) x x hA1 (fun j hj => (fr1 j hj).trans (hfr j hj)) (Nat.le_refl x) (fun φ9 q9 hA9 hfr9 => ?_)
    refine q_iinc (z := x + 1) (p2 := 49) rfl rfl (Nat.mod_eq_of_lt (by first | omega | (have := hcx x; have := hcx x; omega))) rfl rfl ?_
    refine q_goto rfl ?_
    refine ih (x + 1) (by omega) (fun i hi => ?_) hA9 hfr9
    by_cases h : i = x
    · rw [h]; exact if_pos rfl
    · exact (if_neg h).trans (hla i (by omega))
theorem e_prep_turns {d n sl made sv svm st : Nat} {φ0 : FH} {held : Nat → Nat} {hm : Nat → MV} {Post : FP} (hH0 : x_held φ0 227 held) (hM0 : ∀ i, i < 1600 → x_mv φ0 (held i) (hm i)) (hpv : ∀ i, x_pv2 (hm i)) (hSc0 : x_sch φ0) (k : Nat) : ∀ (t : Nat) {pd A B : Nat} {φ : FH} {la lb l : Nat → Nat}, t + k = 41 → (hP : ∃ f, x_pop φ A B made sv svm st f) → x_row φ A la → x_row φ B lb → (∀ i, i < made → la i = l i) → (∀ j, j ≠ 7 → j ≠ 230 → j ≠ 231 → φ j = φ0 j) → pd ≤ 1 → (kk : ∀ (φ9 : FH) (A9 B9 : Nat) (la9 lb9 : Nat → Nat) (q9 q8 : Nat), (∃ f, x_pop φ9 A9 B9 made sv svm st f) → x_row φ9 A9 la9 → x_row φ9 B9 lb9 → (∀ i, i < made → la9 i = (if pd = 0 then l else x_lm made hm k l) i) → (∀ j, j ≠ 7 → j ≠ 230 → j ≠ 231 → φ9 j = φ0 j) → ((A9 = 230 ∧ B9 = 231) ∨ (A9 = 231 ∧ B9 = 230)) → x_n x_P (d + 4) xc_55 64 [] [(6, 7, 0), (0, q9, 0), (0, q8, 0)] φ9 n sl Post) → x_n x_P (d + 4) xc_55 54 [] [(6, 7, 0), (0, pd, 0), (0, t, 0)] φ n sl Post := by
  induction k with
  | zero =>
    intro t pd A B φ la lb l ht hP hL hB hla hfr hpd1 kk
    have ht : t = 41 := by omega
    subst ht
    have hAB := x_pop_AB hP.choose_spec
    obtain ⟨fP, hP⟩ := hP
    have hH : x_held φ 227 held := x_held_at hH0 (hfr 227 (by omega) (by omega) (by omega))
    have hM : ∀ i, i < 1600 → x_mv φ (held i) (hm i) := fun i hi => x_mv_at (hM0 i hi) (fun j hj _ => hfr j (by omega) (by omega) (by omega))
    have hSc : x_sch φ := x_sch_at hSc0 (fun j h1 _ => hfr j (by omega) (by omega) (by omega))
    have hpd := x_pd_01 (lik := l) (made := made) (hm := hm) made
    refine q_load (p2 := 55) rfl rfl rfl rfl ?_
    refine q_const (p2 := 56) rfl rfl ?_
    refine q_icmp_s (p2 := 57) rfl (by decide) (by omega) (by omega) rfl (fun _ => ?_) (fun hb => absurd (show 40 < 41 by omega) hb)
    exact kk _ _ _ _ _ _ _ ⟨_, hP⟩ hL hB (fun i hi => by show la i = (if pd = 0 then l else l) i; split <;> exact hla i hi) hfr hAB
  | succ k ih =>
    intro t pd A B φ la lb l ht hP hL hB hla hfr hpd1 kk
    have hAB := x_pop_AB hP.choose_spec
    obtain ⟨fP, hP⟩ := hP
    have hH : x_held φ 227 held := x_held_at hH0 (hfr 227 (by omega) (by omega) (by omega))
    have hM : ∀ i, i < 1600 → x_mv φ (held i) (hm i) := fun i hi => x_mv_at (hM0 i hi) (fun j hj _ => hfr j (by omega) (by omega) (by omega))
    have hSc : x_sch φ := x_sch_at hSc0 (fun j h1 _ => hfr j (by omega) (by omega) (by omega))
    have hpd := x_pd_01 (lik := l) (made := made) (hm := hm) made
    refine q_load (p2 := 55) rfl rfl rfl rfl ?_
    refine q_const (p2 := 56) rfl rfl ?_
    refine q_icmp_s (p2 := 57) rfl (by decide) (by omega) (by omega) rfl (fun hb => absurd hb (show ¬ (40 < t) by omega)) (fun _ => ?_)
    refine q_load (p2 := 58) rfl rfl rfl rfl ?_
    refine q_if0_s (p2 := 59) rfl (by decide) (by omega) rfl (fun hb1 => ?_) (fun hb1 => ?_)
    · have hb1 : pd = 0 := hb1
      exact kk _ _ _ _ _ _ _ ⟨_, hP⟩ hL hB (fun i hi => by rw [if_pos (by omega)]; exact hla i hi) hfr hAB
    · have hb1 : ¬ (pd = 0) := hb1
      refine q_load (p2 := 60) rfl rfl rfl rfl ?_
      refine q_callrE (xs := [(6, 7, 0)]) (p2 := 61) rfl rfl rfl rfl (x_rcv_s 7 hP.1) rfl (e_part hP hL hB hH hM hpv hSc) (Nat.le_refl _) (Nat.le_refl _) rfl (fun φ2 hR2 => ?_)
      obtain ⟨hP2, ⟨fb, hB2, hfb⟩, hA2, hf2⟩ := hR2
      refine q_store (p2 := 62) rfl rfl rfl rfl rfl ?_
      refine q_iinc (z := t + 1) (p2 := 63) rfl rfl (Nat.mod_eq_of_lt (by omega)) rfl rfl ?_
      refine q_goto rfl ?_
      rw [x_pd_c hla made (Nat.le_refl _)]
      refine ih (t + 1) (by omega) hP2 hB2 hA2 (fun i hi => (hfb i hi).trans (x_fi_c hla made (Nat.le_refl _) i hi)) (fun j j7 j30 j31 => (hf2 j j7 (by omega)).trans (hfr j j7 j30 j31)) (by omega) (fun φ9 A9 B9 la9 lb9 q9 q8 z1 z2 z3 z4 z5 z6 => kk φ9 A9 B9 la9 lb9 q9 q8 z1 z2 z3 (fun i hi => (z4 i hi).trans ?_) z5 z6)
      rw [if_neg (show ¬ pd = 0 by omega)]
      rfl
/-- the likenesses: two rows of 40 numbers; where they aren't stale, those of the population -/
def x_LK (φ : FH) (A B made st : Nat) (comb : Nat → Nat) (hm : Nat → MV) : Prop := ∃ la lb, x_row φ A la ∧ x_row φ B lb ∧ (st = 0 → ∀ i, i < made → la i = x_lks made comb hm i)
theorem x_PS_2 {φ φ1 : FH} {A B A1 B1 made sv svm st st1 : Nat} {comb : Nat → Nat} {hm : Nat → MV} (h : x_PS φ A B made sv svm st comb hm) (h1 : ∀ j, j ≠ 7 → j ≠ 230 → j ≠ 231 → φ1 j = φ j) (h2 : ∃ f, x_pop φ1 A1 B1 made sv svm st1 f) : x_PS φ1 A1 B1 made sv svm st1 comb hm := by
  obtain ⟨-, a2, held, a3, a4, a5⟩ := h
  have e225 : ∀ j, j = 225 ∨ 486 ≤ j → φ j ≠ none → φ1 j = φ j := fun j hj _ => h1 j (by omega) (by omega) (by omega)
  exact ⟨h2, x_comb_at a2 (h1 226 (by decide) (by decide) (by decide)), held, x_held_at a3 (h1 227 (by decide) (by decide) (by decide)), fun i hi => x_mv_at (a4 i hi) e225, x_mv_at a5 e225⟩
theorem e_prepare {d n sl A B made sv svm st : Nat} {φ : FH} {comb : Nat → Nat} {hm : Nat → MV} (hS : x_PS φ A B made sv svm st comb hm) (hLK : x_LK φ A B made st comb hm) (hpv : ∀ i, x_pv2 (hm i)) (hSc : x_sch φ) : x_f x_P (d + 5) 55 [(6, 7, 0), (11, 0, 0), (11, 0, 0)] φ n sl (x_vR n sl (fun φ2 => ∃ A2 B2, x_PS φ2 A2 B2 made sv svm 0 comb hm ∧ x_LK φ2 A2 B2 made 0 comb hm ∧ ∀ j, j ≠ 7 → j ≠ 230 → j ≠ 231 → φ2 j = φ j)) := by
  refine x_f_of rfl ?_
  have ⟨⟨fP, hP⟩, hC, held, hH, hM, hN⟩ := hS
  have ⟨la, lb, hL, hLB, hLs⟩ := hLK
  have hAB := x_pop_AB hP
  have hmade := x_pop_made hP
  have hst1 : st ≤ 1 := hP.2.2.2.2.2.2.2.2.2.2.2.2.2.2.2.2.2
  have hS0 : st = 0 → x_PS φ A B made sv svm 0 comb hm := fun z => z ▸ hS
  have hLK0 : st = 0 → x_LK φ A B made 0 comb hm := fun z => z ▸ hLK
  refine q_load (p2 := 1) rfl rfl rfl rfl ?_
  refine q_getv (p2 := 2) rfl hP.1 (by decide) hP.2.2.2.2.2.2.2.2.2.2.2.2.1 rfl ?_
  refine q_if0_s (p2 := 3) rfl (by decide) (by omega) rfl (fun hb1 => ?_) (fun hb1 => ?_)
  · have hb1 : ¬ (st = 0) := hb1
    refine q_load (p2 := 5) rfl rfl rfl rfl ?_
    refine q_const (p2 := 6) rfl rfl ?_
    refine q_putfE (p2 := 7) rfl hP.1 (by decide) rfl rfl (fun φ2 f2 hh2 hg2 ho2 fr2 => ?_)
    refine q_const (p2 := 8) rfl rfl ?_
    refine q_store (p2 := 9) rfl rfl rfl rfl rfl ?_
    have hP1 : ∃ f, x_pop φ2 A B made sv svm 0 f := ⟨_, hh2, ((ho2 0 (by decide)).trans hP.2.1), ((ho2 1 (by decide)).trans hP.2.2.1), ((ho2 2 (by decide)).trans hP.2.2.2.1), ((ho2 3 (by decide)).trans hP.2.2.2.2.1), ((ho2 4 (by decide)).trans hP.2.2.2.2.2.1), ((ho2 5 (by decide)).trans hP.2.2.2.2.2.2.1), ((ho2 6 (by decide)).trans hP.2.2.2.2.2.2.2.1), ((ho2 7 (by decide)).trans hP.2.2.2.2.2.2.2.2.1), ((ho2 8 (by decide)).trans hP.2.2.2.2.2.2.2.2.2.1), ((ho2 9 (by decide)).trans hP.2.2.2.2.2.2.2.2.2.2.1), ((ho2 10 (by decide)).trans hP.2.2.2.2.2.2.2.2.2.2.2.1), hg2, x_pop_made hP, x_pop_AB hP, hP.2.2.2.2.2.2.2.2.2.2.2.2.2.2.2.1, hP.2.2.2.2.2.2.2.2.2.2.2.2.2.2.2.2.1, Nat.zero_le 1⟩
    have ⟨fP1, hP1b⟩ := hP1
    refine e_prep_out hP1b (x_comb_at hC (fr2 226 (by decide))) (fun φ9 la9 q9 hla9 hA9 hfr9 => ?_) made 0 (by omega) (fun i hi => absurd hi (Nat.not_lt_zero i)) (x_row_at hL (fr2 A (by omega))) (fun _ _ => rfl)
    refine q_const (p2 := 51) rfl rfl ?_
    refine q_store (p2 := 52) rfl rfl rfl rfl rfl ?_
    refine q_const (p2 := 53) rfl rfl ?_
    refine q_store (p2 := 54) rfl rfl rfl rfl rfl ?_
    have hq : ∀ j, j ≠ 7 → j ≠ A → φ9 j = φ j := fun j j7 jA => (hfr9 j jA).trans (fr2 j j7)
    have hq2 : ∀ j, j ≠ 7 → j ≠ 230 → j ≠ 231 → φ9 j = φ j := fun j j7 j30 j31 => hq j j7 (by omega)
    have hPx : ∃ f, x_pop φ9 A B made sv svm 0 f := ⟨_, x_pop_at hP1b (hfr9 7 (by omega))⟩
    have e225 : ∀ j, j = 225 ∨ 486 ≤ j → φ j ≠ none → φ9 j = φ j := fun j hj _ => hq j (by omega) (by omega)
    refine e_prep_turns (φ0 := φ9) (x_held_at hH (hq 227 (by decide) (by omega))) (fun i hi => x_mv_at (hM i hi) e225) hpv (x_sch_at hSc (fun j h1 _ => hq j (by omega) (by omega))) 41 0 (by omega) hPx hA9 (x_row_at hLB (hq B (by omega) (by omega))) hla9 (fun _ _ _ _ => rfl) (Nat.le_refl 1) (fun φ8 A8 B8 la8 lb8 q8 q7 z1 z2 z3 z4 z5 z6 => ?_)
    exact q_ret rfl (⟨rfl, rfl, rfl, A8, B8, x_PS_2 hS (fun j j7 j30 j31 => (z5 j j7 j30 j31).trans (hq2 j j7 j30 j31)) z1, ⟨la8, lb8, z2, z3, fun _ i hi => by unfold x_lks; exact (z4 i hi).trans (congrFun (if_neg Nat.one_ne_zero) i)⟩, fun j j7 j30 j31 => (z5 j j7 j30 j31).trans (hq2 j j7 j30 j31)⟩)
  · have hb1 : ¬ (¬ (st = 0)) := hb1
    exact q_ret rfl (⟨rfl, rfl, rfl, A, B, hS0 (show st = 0 by omega), hLK0 (show st = 0 by omega), fun j _ _ _ => rfl⟩)
end FPOP16
