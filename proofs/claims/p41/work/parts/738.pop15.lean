section FPOP15
/-- the first y that q holds of, else v -/
def x_pk (q : Nat → Prop) [DecidablePred q] (v : Nat) : Nat → Nat → Nat
  | 0, _ => v
  | k + 1, y => if q y then y else x_pk q v k (y + 1)
theorem x_pk_le {q : Nat → Prop} [DecidablePred q] {v : Nat} (k : Nat) : ∀ y, y + k ≤ v → x_pk q v k y ≤ v := by
  induction k with
  | zero => intro y _; exact Nat.le_refl v
  | succ k ih =>
    intro y h
    unfold x_pk
    split
    · omega
    · exact ih _ (by omega)
/-- the finer parts, of the first ones -/
def x_fi (lik : Nat → Nat) (made : Nat) (hm : Nat → MV) : Nat → Nat → Nat
  | 0 => fun _ => 0
  | x + 1 => fun i => if i = x then x_pk (fun y => x_fi lik made hm x y = y ∧ lik y = lik x ∧ x_hA lik made hm x y) x x 0 else x_fi lik made hm x i
/-- whether one of the first ones is parted -/
def x_pd (lik : Nat → Nat) (made : Nat) (hm : Nat → MV) : Nat → Nat
  | 0 => 0
  | x + 1 => if x_pd lik made hm x ≠ 0 ∨ x_fi lik made hm (x + 1) x ≠ lik x then 1 else 0
theorem x_fi_at {lik : Nat → Nat} {made : Nat} {hm : Nat → MV} (x : Nat) : x_fi lik made hm (x + 1) x = x_pk (fun y => x_fi lik made hm x y = y ∧ lik y = lik x ∧ x_hA lik made hm x y) x x 0 := if_pos rfl
theorem x_fi_ne {lik : Nat → Nat} {made : Nat} {hm : Nat → MV} {x i : Nat} (h : i ≠ x) : x_fi lik made hm (x + 1) i = x_fi lik made hm x i := if_neg h
theorem x_pd_s {lik : Nat → Nat} {made : Nat} {hm : Nat → MV} (x : Nat) : x_pd lik made hm (x + 1) = if x_pd lik made hm x ≠ 0 ∨ x_fi lik made hm (x + 1) x ≠ lik x then 1 else 0 := rfl
theorem x_pd_01 {lik : Nat → Nat} {made : Nat} {hm : Nat → MV} (x : Nat) : x_pd lik made hm x ≤ 1 := by
  cases x with
  | zero => exact Nat.zero_le 1
  | succ x => unfold x_pd; split <;> omega
theorem x_row_upd {φ1 : FH} {c j v : Nat} {la : Nat → Nat} {f1 : Nat → XV} (h : φ1 c = some (1, 0, 40, f1)) (hc : ∀ i, la i < 2147483648) (hv : v < 2147483648) (h1 : f1 j = (0, v, 0)) (h2 : ∀ i, i ≠ j → f1 i = (0, la i, 0)) : x_row φ1 c (fun i => if i = j then v else la i) := by
  refine ⟨?_, fun i => ?_⟩
  · rw [h]
    congr 4
    funext i
    show f1 i = (0, if i = j then v else la i, 0)
    by_cases hi : i = j
    · rw [if_pos hi, hi, h1]
    · rw [h2 i hi, if_neg hi]
  · show (if i = j then v else la i) < _
    split
    · exact hv
    · exact hc i
theorem x_row_eq {φ : FH} {c : Nat} {la lb : Nat → Nat} (h : x_row φ c la) (e : ∀ i, la i = lb i) : x_row φ c lb := by
  rw [← funext e]
  exact h
theorem x_row_at {φ φ1 : FH} {c : Nat} {la : Nat → Nat} (h : x_row φ c la) (e : φ1 c = φ c) : x_row φ1 c la := ⟨e.trans h.1, h.2⟩
theorem e_part_in {d n sl A B made sv svm st : Nat} {φ0 : FH} {fP : Nat → XV} {lik held : Nat → Nat} {hm : Nat → MV} {Post : FP} (hP0 : x_pop φ0 A B made sv svm st fP) (hL0 : x_row φ0 A lik) (hH0 : x_held φ0 227 held) (hM0 : ∀ i, i < 1600 → x_mv φ0 (held i) (hm i)) (hpv : ∀ i, x_pv2 (hm i)) (hSc0 : x_sch φ0) {pd x : Nat} {fb : Nat → Nat} {φ : FH} (hx : x < made) (hfx : fb x = x) (hfi : ∀ i, i < x → fb i = x_fi lik made hm x i) (hB : x_row φ B fb) (hfr : ∀ j, j ≠ B → φ j = φ0 j) (k : Nat) : ∀ (y : Nat), y + k = x → (kk : ∀ (φ9 : FH) (q : Nat), x_row φ9 B (fun i => if i = x then x_pk (fun y => x_fi lik made hm x y = y ∧ lik y = lik x ∧ x_hA lik made hm x y) x k y else fb i) → (∀ j, j ≠ B → φ9 j = φ0 j) → x_n x_P (d + 3) xc_106 54 [] [(6, 7, 0), (0, pd, 0), (0, x, 0), (0, q, 0)] φ9 n sl Post) → x_n x_P (d + 3) xc_106 18 [] [(6, 7, 0), (0, pd, 0), (0, x, 0), (0, y, 0)] φ n sl Post := by
  have hmade := x_pop_made hP0
  have hAB := x_pop_AB hP0
  induction k with
  | zero =>
    intro y hy kk
    have hy : x = y := by omega
    subst hy
    have hP : x_pop φ A B made sv svm st fP := x_pop_at hP0 (hfr 7 (by omega))
    have hL : x_row φ A lik := x_row_at hL0 (hfr A (by omega))
    have hH : x_held φ 227 held := x_held_at hH0 (hfr 227 (by omega))
    have hM : ∀ i, i < 1600 → x_mv φ (held i) (hm i) := fun i hi => x_mv_at (hM0 i hi) (fun j hj _ => hfr j (by omega))
    have hSc : x_sch φ := x_sch_at hSc0 (fun j h1 _ => hfr j (by omega))
    have hfb := hB.2
    have hlx := hL.2
    refine q_load (p2 := 19) rfl rfl rfl rfl ?_
    refine q_load (p2 := 20) rfl rfl rfl rfl ?_
    refine q_icmp_s (p2 := 21) rfl (by decide) (by omega) (by omega) rfl (fun _ => ?_) (fun hb => absurd (show ¬ (x < x) by omega) hb)
    refine kk φ x (x_row_eq hB (fun i => ?_)) hfr
    unfold x_pk
    by_cases hi : i = x
    · rw [if_pos hi, hi]; exact hfx
    · rw [if_neg hi]
  | succ k ih =>
    intro y hy kk
    have hP : x_pop φ A B made sv svm st fP := x_pop_at hP0 (hfr 7 (by omega))
    have hL : x_row φ A lik := x_row_at hL0 (hfr A (by omega))
    have hH : x_held φ 227 held := x_held_at hH0 (hfr 227 (by omega))
    have hM : ∀ i, i < 1600 → x_mv φ (held i) (hm i) := fun i hi => x_mv_at (hM0 i hi) (fun j hj _ => hfr j (by omega))
    have hSc : x_sch φ := x_sch_at hSc0 (fun j h1 _ => hfr j (by omega))
    have hfb := hB.2
    have hlx := hL.2
    refine q_load (p2 := 19) rfl rfl rfl rfl ?_
    refine q_load (p2 := 20) rfl rfl rfl rfl ?_
    refine q_icmp_s (p2 := 21) rfl (by decide) (by first | omega | (have := hfb x; have := hfb y; have := hlx x; have := hlx y; omega)) (by first | omega | (have := hfb x; have := hfb y; have := hlx x; have := hlx y; omega)) rfl (fun hb => absurd hb (show ¬ (¬ (y < x)) by first | omega | (have := hfb x; have := hfb y; have := hlx x; have := hlx y; omega))) (fun _ => ?_)
    refine q_load (p2 := 22) rfl rfl rfl rfl ?_
    refine q_getv (p2 := 23) rfl hP.1 (by decide) hP.2.2.2.2.2.2.2.2.2.2.2.1 rfl ?_
    refine q_load (p2 := 24) rfl rfl rfl rfl ?_
    refine q_aldv (v := (0, (fb x), 0)) (p2 := 25) rfl hB.1 (by first | omega | (have := hfb x; have := hfb y; have := hlx x; have := hlx y; omega)) (by first | omega | (have := hfb x; have := hfb y; have := hlx x; have := hlx y; omega)) rfl rfl ?_
    refine q_load (p2 := 26) rfl rfl rfl rfl ?_
    refine q_icmp_s (p2 := 27) rfl (by decide) (by first | omega | (have := hfb x; have := hfb y; have := hlx x; have := hlx y; omega)) (by first | omega | (have := hfb x; have := hfb y; have := hlx x; have := hlx y; omega)) rfl (fun hb => absurd hb (show ¬ (¬ ((fb x) = x)) by first | omega | (have := hfb x; have := hfb y; have := hlx x; have := hlx y; omega))) (fun _ => ?_)
    refine q_load (p2 := 28) rfl rfl rfl rfl ?_
    refine q_getv (p2 := 29) rfl hP.1 (by decide) hP.2.2.2.2.2.2.2.2.2.2.2.1 rfl ?_
    refine q_load (p2 := 30) rfl rfl rfl rfl ?_
    refine q_aldv (v := (0, (fb y), 0)) (p2 := 31) rfl hB.1 (by first | omega | (have := hfb x; have := hfb y; have := hlx x; have := hlx y; omega)) (by first | omega | (have := hfb x; have := hfb y; have := hlx x; have := hlx y; omega)) rfl rfl ?_
    refine q_load (p2 := 32) rfl rfl rfl rfl ?_
    refine q_icmp_s (p2 := 33) rfl (by decide) (by first | omega | (have := hfb x; have := hfb y; have := hlx x; have := hlx y; omega)) (by first | omega | (have := hfb x; have := hfb y; have := hlx x; have := hlx y; omega)) rfl (fun hb1 => ?_) (fun hb1 => ?_)
    · have hb1 : ¬ ((fb y) = y) := hb1
      refine q_iinc (z := y + 1) (p2 := 53) rfl rfl (Nat.mod_eq_of_lt (by first | omega | (have := hfb x; have := hfb y; have := hlx x; have := hlx y; omega))) rfl rfl ?_
      refine q_goto rfl ?_
      have hno : ¬ (x_fi lik made hm x y = y ∧ lik y = lik x ∧ x_hA lik made hm x y) := by
        rintro ⟨z1, z2, z3⟩
        have hfy := hfi y (by omega)
        omega
      unfold x_pk at kk
      rw [if_neg hno] at kk
      exact ih (y + 1) (by omega) kk
    · have hb1 : ¬ (¬ ((fb y) = y)) := hb1
      refine q_load (p2 := 34) rfl rfl rfl rfl ?_
      refine q_getv (p2 := 35) rfl hP.1 (by decide) hP.2.2.2.2.2.2.2.2.2.2.1 rfl ?_
      refine q_load (p2 := 36) rfl rfl rfl rfl ?_
      refine q_aldv (v := (0, (lik y), 0)) (p2 := 37) rfl hL.1 (by first | omega | (have := hfb x; have := hfb y; have := hlx x; have := hlx y; omega)) (by first | omega | (have := hfb x; have := hfb y; have := hlx x; have := hlx y; omega)) rfl rfl ?_
      refine q_load (p2 := 38) rfl rfl rfl rfl ?_
      refine q_getv (p2 := 39) rfl hP.1 (by decide) hP.2.2.2.2.2.2.2.2.2.2.1 rfl ?_
      refine q_load (p2 := 40) rfl rfl rfl rfl ?_
      refine q_aldv (v := (0, (lik x), 0)) (p2 := 41) rfl hL.1 (by first | omega | (have := hfb x; have := hfb y; have := hlx x; have := hlx y; omega)) (by first | omega | (have := hfb x; have := hfb y; have := hlx x; have := hlx y; omega)) rfl rfl ?_
      refine q_icmp_s (p2 := 42) rfl (by decide) (by first | omega | (have := hfb x; have := hfb y; have := hlx x; have := hlx y; omega)) (by first | omega | (have := hfb x; have := hfb y; have := hlx x; have := hlx y; omega)) rfl (fun hb2 => ?_) (fun hb2 => ?_)
      · have hb2 : ¬ ((lik y) = (lik x)) := hb2
        refine q_iinc (z := y + 1) (p2 := 53) rfl rfl (Nat.mod_eq_of_lt (by first | omega | (have := hfb x; have := hfb y; have := hlx x; have := hlx y; omega))) rfl rfl ?_
        refine q_goto rfl ?_
        have hno : ¬ (x_fi lik made hm x y = y ∧ lik y = lik x ∧ x_hA lik made hm x y) := by
          rintro ⟨z1, z2, z3⟩
          have hfy := hfi y (by omega)
          omega
        unfold x_pk at kk
        rw [if_neg hno] at kk
        exact ih (y + 1) (by omega) kk
      · have hb2 : ¬ (¬ ((lik y) = (lik x))) := hb2
        refine q_load (p2 := 43) rfl rfl rfl rfl ?_
        refine q_load (p2 := 44) rfl rfl rfl rfl ?_
        refine q_load (p2 := 45) rfl rfl rfl rfl ?_
        refine q_callr (xs := [(0, y, 0), (0, x, 0), (6, 7, 0)]) (p2 := 46) rfl rfl rfl rfl (x_rcv_s 7 hP.1) rfl (e_holdsAlike hP hL hH hM hpv hSc (by omega) (by omega)) (Nat.le_refl _) (Nat.le_refl _) rfl ?_
        by_cases hb3 : x_hA lik made hm x y
        · rw [if_pos hb3]
          refine q_if0_s (p2 := 47) rfl (by decide) (by first | omega | (have := hfb x; have := hfb y; have := hlx x; have := hlx y; omega)) rfl (fun hb => absurd hb (show ¬ (1 = 0) by first | omega | (have := hfb x; have := hfb y; have := hlx x; have := hlx y; omega))) (fun _ => ?_)
          refine q_load (p2 := 48) rfl rfl rfl rfl ?_
          refine q_getv (p2 := 49) rfl hP.1 (by decide) hP.2.2.2.2.2.2.2.2.2.2.2.1 rfl ?_
          refine q_load (p2 := 50) rfl rfl rfl rfl ?_
          refine q_load (p2 := 51) rfl rfl rfl rfl ?_
          refine q_astE (p2 := 52) rfl hB.1 (by first | omega | (have := hfb x; have := hfb y; have := hlx x; have := hlx y; omega)) (by first | omega | (have := hfb x; have := hfb y; have := hlx x; have := hlx y; omega)) (x_ok_0 rfl) (x_nv_same rfl (by decide)) rfl (fun φ4 f4 hh4 hg4 ho4 fr4 => ?_)
          refine q_iinc (z := y + 1) (p2 := 53) rfl rfl (Nat.mod_eq_of_lt (by first | omega | (have := hfb x; have := hfb y; have := hlx x; have := hlx y; omega))) rfl rfl ?_
          refine q_goto rfl ?_
          have hfy := hfi y (by omega)
          unfold x_pk at kk
          rw [if_pos ⟨by omega, by omega, hb3⟩] at kk
          have hB2 := x_row_upd hh4 hfb (show y < 2147483648 by omega) hg4 ho4
          have hk := fun q => kk _ q hB2 (fun j hj => (fr4 j hj).trans (hfr j hj))
          refine q_load (p2 := 19) rfl rfl rfl rfl ?_
          refine q_load (p2 := 20) rfl rfl rfl rfl ?_
          refine q_icmp_s (p2 := 21) rfl (by decide) (by omega) (by omega) rfl (fun hb55 => ?_) (fun hb55 => ?_)
          · have hb55 : ¬ (y + 1 < x) := hb55
            exact hk _
          · have hb55 : ¬ (¬ (y + 1 < x)) := hb55
            refine q_load (p2 := 22) rfl rfl rfl rfl ?_
            refine q_getv (p2 := 23) rfl ((fr4 7 (by omega)).trans hP.1) (by decide) hP.2.2.2.2.2.2.2.2.2.2.2.1 rfl ?_
            refine q_load (p2 := 24) rfl rfl rfl rfl ?_
            refine q_aldv (v := (0, y, 0)) (p2 := 25) rfl hB2.1 (by omega) (by omega) (congrArg (fun z => ((0, z, 0) : XV)) (if_pos rfl)) rfl ?_
            refine q_load (p2 := 26) rfl rfl rfl rfl ?_
            refine q_icmp_s (p2 := 27) rfl (by decide) (by omega) (by omega) rfl (fun _ => ?_) (fun hb => absurd (show ¬ (y = x) by omega) hb)
            exact hk _
        · rw [if_neg hb3]
          refine q_if0_s (p2 := 47) rfl (by decide) (by first | omega | (have := hfb x; have := hfb y; have := hlx x; have := hlx y; omega)) rfl (fun _ => ?_) (fun hb => absurd (show 0 = 0 by first | omega | (have := hfb x; have := hfb y; have := hlx x; have := hlx y; omega)) hb)
          refine q_iinc (z := y + 1) (p2 := 53) rfl rfl (Nat.mod_eq_of_lt (by first | omega | (have := hfb x; have := hfb y; have := hlx x; have := hlx y; omega))) rfl rfl ?_
          refine q_goto rfl ?_
          have hno : ¬ (x_fi lik made hm x y = y ∧ lik y = lik x ∧ x_hA lik made hm x y) := by
            rintro ⟨z1, z2, z3⟩
            have hfy := hfi y (by omega)
            exact absurd z3 hb3
          unfold x_pk at kk
          rw [if_neg hno] at kk
          exact ih (y + 1) (by omega) kk
theorem e_part_out {d n sl A B made sv svm st : Nat} {φ0 : FH} {fP : Nat → XV} {lik held : Nat → Nat} {hm : Nat → MV} {Post : FP} (hP0 : x_pop φ0 A B made sv svm st fP) (hL0 : x_row φ0 A lik) (hH0 : x_held φ0 227 held) (hM0 : ∀ i, i < 1600 → x_mv φ0 (held i) (hm i)) (hpv : ∀ i, x_pv2 (hm i)) (hSc0 : x_sch φ0) (kk : ∀ (pd : Nat) (φ : FH) (fb : Nat → Nat) (q : XV), pd = x_pd lik made hm (made) → (∀ i, i < made → fb i = x_fi lik made hm (made) i) → x_row φ B fb → (∀ j, j ≠ B → φ j = φ0 j) → x_n x_P (d + 3) xc_106 71 [] [(6, 7, 0), (0, pd, 0), (0, made, 0), q] φ n sl Post) (k : Nat) : ∀ (x pd : Nat) {φ : FH} {fb : Nat → Nat} {q : XV}, x + k = made → pd = x_pd lik made hm (x) → (∀ i, i < x → fb i = x_fi lik made hm (x) i) → x_row φ B fb → (∀ j, j ≠ B → φ j = φ0 j) → x_n x_P (d + 3) xc_106 4 [] [(6, 7, 0), (0, pd, 0), (0, x, 0), q] φ n sl Post := by
  have hmade := x_pop_made hP0
  have hAB := x_pop_AB hP0
  induction k with
  | zero =>
    intro x pd φ fb q hx hpd hfi hB hfr
    have hx : made = x := by omega
    subst hx
    have hP : x_pop φ A B made sv svm st fP := x_pop_at hP0 (hfr 7 (by omega))
    have hL : x_row φ A lik := x_row_at hL0 (hfr A (by omega))
    have hH : x_held φ 227 held := x_held_at hH0 (hfr 227 (by omega))
    have hM : ∀ i, i < 1600 → x_mv φ (held i) (hm i) := fun i hi => x_mv_at (hM0 i hi) (fun j hj _ => hfr j (by omega))
    have hSc : x_sch φ := x_sch_at hSc0 (fun j h1 _ => hfr j (by omega))
    have hfb := hB.2
    have hlx := hL.2
    refine q_load (p2 := 5) rfl rfl rfl rfl ?_
    refine q_load (p2 := 6) rfl rfl rfl rfl ?_
    refine q_getv (p2 := 7) rfl hP.1 (by decide) hP.2.2.2.1 rfl ?_
    refine q_icmp_s (p2 := 8) rfl (by decide) (by omega) (by omega) rfl (fun _ => ?_) (fun hb => absurd (show ¬ (made < made) by omega) hb)
    exact kk _ _ _ _ hpd hfi hB hfr
  | succ k ih =>
    intro x pd φ fb q hx hpd hfi hB hfr
    have h01 := x_pd_01 (lik := lik) (made := made) (hm := hm) x
    have hP : x_pop φ A B made sv svm st fP := x_pop_at hP0 (hfr 7 (by omega))
    have hL : x_row φ A lik := x_row_at hL0 (hfr A (by omega))
    have hH : x_held φ 227 held := x_held_at hH0 (hfr 227 (by omega))
    have hM : ∀ i, i < 1600 → x_mv φ (held i) (hm i) := fun i hi => x_mv_at (hM0 i hi) (fun j hj _ => hfr j (by omega))
    have hSc : x_sch φ := x_sch_at hSc0 (fun j h1 _ => hfr j (by omega))
    have hfb := hB.2
    have hlx := hL.2
    refine q_load (p2 := 5) rfl rfl rfl rfl ?_
    refine q_load (p2 := 6) rfl rfl rfl rfl ?_
    refine q_getv (p2 := 7) rfl hP.1 (by decide) hP.2.2.2.1 rfl ?_
    refine q_icmp_s (p2 := 8) rfl (by decide) (by first | omega | (have := hfb x; have := hlx x; omega)) (by first | omega | (have := hfb x; have := hlx x; omega)) rfl (fun hb => absurd hb (show ¬ (¬ (x < made)) by first | omega | (have := hfb x; have := hlx x; omega))) (fun _ => ?_)
    refine q_load (p2 := 9) rfl rfl rfl rfl ?_
    refine q_const (p2 := 10) rfl rfl ?_
    refine q_icmp_s (p2 := 11) rfl (by decide) (by first | omega | (have := hfb x; have := hlx x; omega)) (by first | omega | (have := hfb x; have := hlx x; omega)) rfl (fun hb => absurd hb (show ¬ (¬ (x < 40)) by first | omega | (have := hfb x; have := hlx x; omega))) (fun _ => ?_)
    refine q_load (p2 := 12) rfl rfl rfl rfl ?_
    refine q_getv (p2 := 13) rfl hP.1 (by decide) hP.2.2.2.2.2.2.2.2.2.2.2.1 rfl ?_
    refine q_load (p2 := 14) rfl rfl rfl rfl ?_
    refine q_load (p2 := 15) rfl rfl rfl rfl ?_
    refine q_astE (p2 := 16) rfl hB.1 (by first | omega | (have := hfb x; have := hlx x; omega)) (by first | omega | (have := hfb x; have := hlx x; omega)) (x_ok_0 rfl) (x_nv_same rfl (by decide)) rfl (fun φ1 f1 hh1 hg1 ho1 fr1 => ?_)
    refine q_const (p2 := 17) rfl rfl ?_
    refine q_store (p2 := 18) rfl rfl rfl rfl rfl ?_
    have hB1 := x_row_upd hh1 hfb (show x < 2147483648 by omega) hg1 ho1
    have hfr1 : ∀ j, j ≠ B → φ1 j = φ0 j := fun j hj => (fr1 j hj).trans (hfr j hj)
    refine e_part_in (fb := fun i => if i = x then x else fb i) hP0 hL0 hH0 hM0 hpv hSc0 (x := x) (by omega) (if_pos rfl) (fun i hi => (if_neg (show ¬ i = x by omega)).trans (hfi i hi)) hB1 hfr1 x 0 (by omega) (fun φ9 q9 hB9 hfr9 => ?_)
    have hpl := x_pk_le (q := (fun y => x_fi lik made hm x y = y ∧ lik y = lik x ∧ x_hA lik made hm x y)) (v := x) x 0 (by omega)
    have epk := x_fi_at (lik := lik) (made := made) (hm := hm) x
    rw [← epk] at hB9 hpl
    refine q_load (p2 := 55) rfl rfl rfl rfl ?_
    refine q_if0_s (p2 := 56) rfl (by decide) (by first | omega | (have := hfb x; have := hlx x; omega)) rfl (fun hb2 => ?_) (fun hb2 => ?_)
    · have hb2 : ¬ (pd = 0) := hb2
      refine q_const (p2 := 66) rfl rfl ?_
      refine q_goto rfl ?_
      refine q_store (p2 := 69) rfl rfl rfl rfl rfl ?_
      refine q_iinc (z := x + 1) (p2 := 70) rfl rfl (Nat.mod_eq_of_lt (by first | omega | (have := hfb x; have := hlx x; omega))) rfl rfl ?_
      refine q_goto rfl ?_
      refine ih (x + 1) 1 (by omega) ?_ (fun i hi => ?_) hB9 hfr9
      · rw [x_pd_s, if_pos (by omega)]
      · by_cases h : i = x
        · rw [h]; exact if_pos rfl
        · rw [x_fi_ne h]; exact ((if_neg h).trans (if_neg h)).trans (hfi i (by omega))
    · have hb2 : ¬ (¬ (pd = 0)) := hb2
      refine q_load (p2 := 57) rfl rfl rfl rfl ?_
      refine q_getv (p2 := 58) rfl ((hfr9 7 (by omega)).trans hP0.1) (by decide) hP0.2.2.2.2.2.2.2.2.2.2.2.1 rfl ?_
      refine q_load (p2 := 59) rfl rfl rfl rfl ?_
      refine q_aldv (v := (0, (x_fi lik made hm (x + 1) x), 0)) (p2 := 60) rfl hB9.1 (by first | omega | (have := hfb x; have := hlx x; omega)) (by first | omega | (have := hfb x; have := hlx x; omega)) (congrArg (fun z => ((0, z, 0) : XV)) (if_pos rfl)) rfl ?_
      refine q_load (p2 := 61) rfl rfl rfl rfl ?_
      refine q_getv (p2 := 62) rfl ((hfr9 7 (by omega)).trans hP0.1) (by decide) hP0.2.2.2.2.2.2.2.2.2.2.1 rfl ?_
      refine q_load (p2 := 63) rfl rfl rfl rfl ?_
      refine q_aldv (v := (0, (lik x), 0)) (p2 := 64) rfl ((hfr9 A (by omega)).trans hL0.1) (by first | omega | (have := hfb x; have := hlx x; omega)) (by first | omega | (have := hfb x; have := hlx x; omega)) rfl rfl ?_
      refine q_icmp_s (p2 := 65) rfl (by decide) (by first | omega | (have := hfb x; have := hlx x; omega)) (by first | omega | (have := hfb x; have := hlx x; omega)) rfl (fun hb3 => ?_) (fun hb3 => ?_)
      · have hb3 : (x_fi lik made hm (x + 1) x) = (lik x) := hb3
        refine q_const (p2 := 68) rfl rfl ?_
        refine q_store (p2 := 69) rfl rfl rfl rfl rfl ?_
        refine q_iinc (z := x + 1) (p2 := 70) rfl rfl (Nat.mod_eq_of_lt (by first | omega | (have := hfb x; have := hlx x; omega))) rfl rfl ?_
        refine q_goto rfl ?_
        refine ih (x + 1) 0 (by omega) ?_ (fun i hi => ?_) hB9 hfr9
        · rw [x_pd_s, if_neg (by omega)]
        · by_cases h : i = x
          · rw [h]; exact if_pos rfl
          · rw [x_fi_ne h]; exact ((if_neg h).trans (if_neg h)).trans (hfi i (by omega))
      · have hb3 : ¬ ((x_fi lik made hm (x + 1) x) = (lik x)) := hb3
        refine q_const (p2 := 66) rfl rfl ?_
        refine q_goto rfl ?_
        refine q_store (p2 := 69) rfl rfl rfl rfl rfl ?_
        refine q_iinc (z := x + 1) (p2 := 70) rfl rfl (Nat.mod_eq_of_lt (by first | omega | (have := hfb x; have := hlx x; omega))) rfl rfl ?_
        refine q_goto rfl ?_
        refine ih (x + 1) 1 (by omega) ?_ (fun i hi => ?_) hB9 hfr9
        · rw [x_pd_s, if_pos (by omega)]
        · by_cases h : i = x
          · rw [h]; exact if_pos rfl
          · rw [x_fi_ne h]; exact ((if_neg h).trans (if_neg h)).trans (hfi i (by omega))
theorem x_fit_b {u : Nat} (h : u ≤ 1) : x_fitv 3 (0, u, 0) = true := by
  have h2 : u = 0 ∨ u = 1 := by omega
  rcases h2 with rfl | rfl <;> rfl
theorem e_part {d n sl A B made sv svm st : Nat} {φ : FH} {fP : Nat → XV} {lik lb held : Nat → Nat} {hm : Nat → MV} (hP : x_pop φ A B made sv svm st fP) (hL : x_row φ A lik) (hB : x_row φ B lb) (hH : x_held φ 227 held) (hM : ∀ i, i < 1600 → x_mv φ (held i) (hm i)) (hpv : ∀ i, x_pv2 (hm i)) (hSc : x_sch φ) : x_f x_P (d + 4) 106 [(6, 7, 0), (11, 0, 0), (11, 0, 0), (11, 0, 0)] φ n sl (x_rR (0, x_pd lik made hm made, 0) n sl (fun φ2 => (∃ f, x_pop φ2 B A made sv svm st f) ∧ (∃ fb, x_row φ2 B fb ∧ ∀ i, i < made → fb i = x_fi lik made hm made i) ∧ x_row φ2 A lik ∧ ∀ j, j ≠ 7 → j ≠ B → φ2 j = φ j)) := by
  refine x_f_of rfl ?_
  have hmade := x_pop_made hP
  have hAB := x_pop_AB hP
  have h01 := x_pd_01 (lik := lik) (made := made) (hm := hm) made
  refine q_const (p2 := 1) rfl rfl ?_
  refine q_store (p2 := 2) rfl rfl rfl rfl rfl ?_
  refine q_const (p2 := 3) rfl rfl ?_
  refine q_store (p2 := 4) rfl rfl rfl rfl rfl ?_
  refine e_part_out hP hL hH hM hpv hSc (fun pd9 φ9 fb9 q9 hpd9 hfi9 hB9 hfr9 => ?_) made 0 0 (by omega) rfl (fun i hi => absurd hi (Nat.not_lt_zero i)) hB (fun _ _ => rfl)
  subst hpd9
  refine q_load (p2 := 72) rfl rfl rfl rfl ?_
  refine q_getv (p2 := 73) rfl ((hfr9 7 (by omega)).trans hP.1) (by decide) hP.2.2.2.2.2.2.2.2.2.2.1 rfl ?_
  refine q_store (p2 := 74) rfl rfl rfl rfl rfl ?_
  refine q_load (p2 := 75) rfl rfl rfl rfl ?_
  refine q_load (p2 := 76) rfl rfl rfl rfl ?_
  refine q_getv (p2 := 77) rfl ((hfr9 7 (by omega)).trans hP.1) (by decide) hP.2.2.2.2.2.2.2.2.2.2.2.1 rfl ?_
  refine q_putfE (p2 := 78) rfl ((hfr9 7 (by omega)).trans hP.1) (by decide) rfl rfl (fun φ1 f1 hh1 hg1 ho1 fr1 => ?_)
  refine q_load (p2 := 79) rfl rfl rfl rfl ?_
  refine q_load (p2 := 80) rfl rfl rfl rfl ?_
  refine q_putfE (p2 := 81) rfl hh1 (by decide) rfl rfl (fun φ2 f2 hh2 hg2 ho2 fr2 => ?_)
  refine q_load (p2 := 82) rfl rfl rfl rfl ?_
  exact q_retv rfl (x_fit_b h01) (⟨rfl, rfl, rfl, rfl, ⟨_, hh2, ((ho2 0 (by decide)).trans ((ho1 0 (by decide)).trans hP.2.1)), ((ho2 1 (by decide)).trans ((ho1 1 (by decide)).trans hP.2.2.1)), ((ho2 2 (by decide)).trans ((ho1 2 (by decide)).trans hP.2.2.2.1)), ((ho2 3 (by decide)).trans ((ho1 3 (by decide)).trans hP.2.2.2.2.1)), ((ho2 4 (by decide)).trans ((ho1 4 (by decide)).trans hP.2.2.2.2.2.1)), ((ho2 5 (by decide)).trans ((ho1 5 (by decide)).trans hP.2.2.2.2.2.2.1)), ((ho2 6 (by decide)).trans ((ho1 6 (by decide)).trans hP.2.2.2.2.2.2.2.1)), ((ho2 7 (by decide)).trans ((ho1 7 (by decide)).trans hP.2.2.2.2.2.2.2.2.1)), ((ho2 8 (by decide)).trans ((ho1 8 (by decide)).trans hP.2.2.2.2.2.2.2.2.2.1)), ((ho2 9 (by decide)).trans hg1), hg2, ((ho2 11 (by decide)).trans ((ho1 11 (by decide)).trans hP.2.2.2.2.2.2.2.2.2.2.2.2.1)), x_pop_made hP, (by omega), hP.2.2.2.2.2.2.2.2.2.2.2.2.2.2.2.1, hP.2.2.2.2.2.2.2.2.2.2.2.2.2.2.2.2.1, hP.2.2.2.2.2.2.2.2.2.2.2.2.2.2.2.2.2⟩, ⟨fb9, x_row_at hB9 ((fr2 B (by omega)).trans ((fr1 B (by omega)).trans rfl)), hfi9⟩, x_row_at hL ((fr2 A (by omega)).trans ((fr1 A (by omega)).trans (hfr9 A (by omega)))), fun j j7 jB => ((fr2 j j7).trans ((fr1 j j7).trans (hfr9 j jB)))⟩)
end FPOP15
