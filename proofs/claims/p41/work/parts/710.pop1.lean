section FPOP1
/-- the Population, at cell 7 of a house: its fields -/
def x_pop (φ : FH) (A B made sv svm st : Nat) (f : Nat → XV) : Prop :=
  φ 7 = some (0, 2, 12, f) ∧ f 0 = (6, 237, 0) ∧ f 1 = (6, 225, 0) ∧ f 2 = (0, made, 0) ∧ f 3 = (6, 226, 0) ∧ f 4 = (6, 227, 0) ∧ f 5 = (0, sv, 0) ∧ f 6 = (0, svm, 0) ∧ f 7 = (6, 228, 0) ∧ f 8 = (6, 229, 0) ∧ f 9 = (6, A, 0) ∧ f 10 = (6, B, 0) ∧ f 11 = (0, st, 0) ∧ made ≤ 40 ∧ (A = 230 ∧ B = 231 ∨ A = 231 ∧ B = 230) ∧ sv ≤ 1 ∧ svm ≤ 40 ∧ st ≤ 1
/-- its combinations: 512 numbers below 2^31 -/
def x_comb (φ : FH) (cc : Nat) (comb : Nat → Nat) : Prop := φ cc = some (1, 0, 512, fun i => (0, comb i, 0)) ∧ ∀ i, comb i < 2147483648
/-- what it holds: 1600 references to Values -/
def x_held (φ : FH) (ch : Nat) (held : Nat → Nat) : Prop := φ ch = some (8, 0, 1600, fun i => (6, held i, 0))
theorem e_exists {d n sl : Nat} {φ : FH} {A B made sv svm st : Nat} {fP : Nat → XV} (hP : x_pop φ A B made sv svm st fP) {comb : Nat → Nat} (hC : x_comb φ 226 comb) {x : Nat} (hx : x < 2147483648) : x_f x_P (d + 1) 60 [(6, 7, 0), (0, x, 0)] φ n sl (x_r φ n sl (0, if x < made ∧ comb x ≠ 0 then 1 else 0, 0)) := by
  have hmade : made ≤ 40 := hP.2.2.2.2.2.2.2.2.2.2.2.2.2.1
  have hcx := hC.2 x
  refine x_f_of rfl ?_
  refine q_load (p2 := 1) rfl rfl rfl rfl ?_
  refine q_if0_s (p2 := 2) rfl (by decide) (by omega) rfl (fun hb1 => ?_) (fun hb1 => ?_)
  · have hb1 : x < 0 := hb1
    refine q_const (p2 := 17) rfl rfl ?_
    exact q_retv rfl rfl (⟨rfl, by rw [if_neg (by omega)], rfl, rfl, rfl⟩)
  · have hb1 : ¬ (x < 0) := hb1
    refine q_load (p2 := 3) rfl rfl rfl rfl ?_
    refine q_load (p2 := 4) rfl rfl rfl rfl ?_
    refine q_getv (p2 := 5) rfl hP.1 (by decide) hP.2.2.2.1 rfl ?_
    refine q_icmp_s (p2 := 6) rfl (by decide) (by omega) (by omega) rfl (fun hb2 => ?_) (fun hb2 => ?_)
    · have hb2 : ¬ (x < made) := hb2
      refine q_const (p2 := 17) rfl rfl ?_
      exact q_retv rfl rfl (⟨rfl, by rw [if_neg (by omega)], rfl, rfl, rfl⟩)
    · have hb2 : ¬ (¬ (x < made)) := hb2
      refine q_load (p2 := 7) rfl rfl rfl rfl ?_
      refine q_const (p2 := 8) rfl rfl ?_
      refine q_icmp_s (p2 := 9) rfl (by decide) (by omega) (by omega) rfl (fun hb3 => ?_) (fun hb3 => ?_)
      · have hb3 : ¬ (x < 40) := hb3
        refine q_const (p2 := 17) rfl rfl ?_
        exact q_retv rfl rfl (⟨rfl, by rw [if_neg (by omega)], rfl, rfl, rfl⟩)
      · have hb3 : ¬ (¬ (x < 40)) := hb3
        refine q_load (p2 := 10) rfl rfl rfl rfl ?_
        refine q_getv (p2 := 11) rfl hP.1 (by decide) hP.2.2.2.2.1 rfl ?_
        refine q_load (p2 := 12) rfl rfl rfl rfl ?_
        refine q_aldv (v := (0, comb x, 0)) (p2 := 13) rfl hC.1 (by omega) (by omega) rfl rfl ?_
        refine q_if0_s (p2 := 14) rfl (by decide) (by omega) rfl (fun hb4 => ?_) (fun hb4 => ?_)
        · have hb4 : comb x = 0 := hb4
          refine q_const (p2 := 17) rfl rfl ?_
          exact q_retv rfl rfl (⟨rfl, by rw [if_neg (by omega)], rfl, rfl, rfl⟩)
        · have hb4 : ¬ (comb x = 0) := hb4
          refine q_const (p2 := 15) rfl rfl ?_
          refine q_goto rfl ?_
          exact q_retv rfl rfl (⟨rfl, by rw [if_pos (by omega)], rfl, rfl, rfl⟩)
theorem e_rowOf {d n sl : Nat} {φ : FH} {A B made sv svm st : Nat} {fP : Nat → XV} (hP : x_pop φ A B made sv svm st fP) {comb : Nat → Nat} (hC : x_comb φ 226 comb) {x : Nat} (hx : x < 2147483648) : x_f x_P (d + 1) 73 [(6, 7, 0), (0, x, 0)] φ n sl (x_r φ n sl (0, if x < 512 then comb x else 0, 0)) := by
  have hmade : made ≤ 40 := hP.2.2.2.2.2.2.2.2.2.2.2.2.2.1
  refine x_f_of rfl ?_
  refine q_load (p2 := 1) rfl rfl rfl rfl ?_
  refine q_if0_s (p2 := 2) rfl (by decide) (by omega) rfl (fun hb1 => ?_) (fun hb1 => ?_)
  · have hb1 : x < 0 := hb1
    refine q_const (p2 := 13) rfl rfl ?_
    exact q_retv rfl rfl (⟨rfl, by rw [if_neg (by omega)], rfl, rfl, rfl⟩)
  · have hb1 : ¬ (x < 0) := hb1
    refine q_load (p2 := 3) rfl rfl rfl rfl ?_
    refine q_load (p2 := 4) rfl rfl rfl rfl ?_
    refine q_getv (p2 := 5) rfl hP.1 (by decide) hP.2.2.2.2.1 rfl ?_
    refine q_alen (p2 := 6) rfl hC.1 rfl (by omega) rfl ?_
    refine q_icmp_s (p2 := 7) rfl (by decide) (by omega) (by omega) rfl (fun hb2 => ?_) (fun hb2 => ?_)
    · have hb2 : ¬ (x < 512) := hb2
      refine q_const (p2 := 13) rfl rfl ?_
      exact q_retv rfl rfl (⟨rfl, by rw [if_neg (by omega)], rfl, rfl, rfl⟩)
    · have hb2 : ¬ (¬ (x < 512)) := hb2
      refine q_load (p2 := 8) rfl rfl rfl rfl ?_
      refine q_getv (p2 := 9) rfl hP.1 (by decide) hP.2.2.2.2.1 rfl ?_
      refine q_load (p2 := 10) rfl rfl rfl rfl ?_
      refine q_aldv (v := (0, comb x, 0)) (p2 := 11) rfl hC.1 (by omega) (by omega) rfl rfl ?_
      refine q_goto rfl ?_
      exact q_retv rfl rfl (⟨rfl, by rw [if_pos (by omega)], rfl, rfl, rfl⟩)
theorem e_heldBy {d n sl : Nat} {φ : FH} {A B made sv svm st : Nat} {fP : Nat → XV} (hP : x_pop φ A B made sv svm st fP) {held : Nat → Nat} (hH : x_held φ 227 held) {x a : Nat} (hx : x < 2147483648) (ha : a < 2147483648) : x_f x_P (d + 1) 118 [(6, 7, 0), (0, x, 0), (0, a, 0)] φ n sl (x_r φ n sl (6, if x < 40 ∧ a < 40 then held (x * 40 + a) else 225, 0)) := by
  refine x_f_of rfl ?_
  refine q_load (p2 := 1) rfl rfl rfl rfl ?_
  refine q_if0_s (p2 := 2) rfl (by decide) (by omega) rfl (fun hb1 => ?_) (fun hb1 => ?_)
  · have hb1 : x < 0 := hb1
    refine q_load (p2 := 20) rfl rfl rfl rfl ?_
    refine q_getv (p2 := 21) rfl hP.1 (by decide) hP.2.2.1 rfl ?_
    exact q_retv rfl rfl (⟨rfl, by rw [if_neg (by omega)], rfl, rfl, rfl⟩)
  · have hb1 : ¬ (x < 0) := hb1
    refine q_load (p2 := 3) rfl rfl rfl rfl ?_
    refine q_const (p2 := 4) rfl rfl ?_
    refine q_icmp_s (p2 := 5) rfl (by decide) (by omega) (by omega) rfl (fun hb2 => ?_) (fun hb2 => ?_)
    · have hb2 : ¬ (x < 40) := hb2
      refine q_load (p2 := 20) rfl rfl rfl rfl ?_
      refine q_getv (p2 := 21) rfl hP.1 (by decide) hP.2.2.1 rfl ?_
      exact q_retv rfl rfl (⟨rfl, by rw [if_neg (by omega)], rfl, rfl, rfl⟩)
    · have hb2 : ¬ (¬ (x < 40)) := hb2
      refine q_load (p2 := 6) rfl rfl rfl rfl ?_
      refine q_if0_s (p2 := 7) rfl (by decide) (by omega) rfl (fun hb3 => ?_) (fun hb3 => ?_)
      · have hb3 : a < 0 := hb3
        refine q_load (p2 := 20) rfl rfl rfl rfl ?_
        refine q_getv (p2 := 21) rfl hP.1 (by decide) hP.2.2.1 rfl ?_
        exact q_retv rfl rfl (⟨rfl, by rw [if_neg (by omega)], rfl, rfl, rfl⟩)
      · have hb3 : ¬ (a < 0) := hb3
        refine q_load (p2 := 8) rfl rfl rfl rfl ?_
        refine q_const (p2 := 9) rfl rfl ?_
        refine q_icmp_s (p2 := 10) rfl (by decide) (by omega) (by omega) rfl (fun hb4 => ?_) (fun hb4 => ?_)
        · have hb4 : ¬ (a < 40) := hb4
          refine q_load (p2 := 20) rfl rfl rfl rfl ?_
          refine q_getv (p2 := 21) rfl hP.1 (by decide) hP.2.2.1 rfl ?_
          exact q_retv rfl rfl (⟨rfl, by rw [if_neg (by omega)], rfl, rfl, rfl⟩)
        · have hb4 : ¬ (¬ (a < 40)) := hb4
          refine q_load (p2 := 11) rfl rfl rfl rfl ?_
          refine q_getv (p2 := 12) rfl hP.1 (by decide) hP.2.2.2.2.2.1 rfl ?_
          refine q_load (p2 := 13) rfl rfl rfl rfl ?_
          refine q_const (p2 := 14) rfl rfl ?_
          refine q_imul (p2 := 15) rfl (by omega) rfl ?_
          refine q_load (p2 := 16) rfl rfl rfl rfl ?_
          refine q_iadd (p2 := 17) rfl (by omega) rfl ?_
          refine q_aldv (v := (6, (held ((x * 40) + a)), 0)) (p2 := 18) rfl hH (by omega) (by omega) rfl rfl ?_
          refine q_goto rfl ?_
          exact q_retv rfl rfl (⟨rfl, by rw [if_pos (by omega)], rfl, rfl, rfl⟩)
theorem e_isA {d n sl : Nat} {φ : FH} {A B made sv svm st : Nat} {fP : Nat → XV} (hP : x_pop φ A B made sv svm st fP) {comb : Nat → Nat} (hC : x_comb φ 226 comb) {x e : Nat} (hx : x < 2147483648) (he : e < 32) : x_f x_P (d + 2) 104 [(6, 7, 0), (0, x, 0), (0, e, 0)] φ n sl (x_r φ n sl (0, if (x < made ∧ comb x ≠ 0) ∧ comb x >>> e &&& 1 = 1 then 1 else 0, 0)) := by
  have hmade : made ≤ 40 := hP.2.2.2.2.2.2.2.2.2.2.2.2.2.1
  have hcx := hC.2 x
  have hsh : comb x >>> e < 2147483648 := Nat.lt_of_le_of_lt (Nat.shiftRight_le _ _) hcx
  have had : comb x >>> e &&& 1 ≤ comb x >>> e := Nat.and_le_left
  refine x_f_of rfl ?_
  refine q_load (p2 := 1) rfl rfl rfl rfl ?_
  refine q_load (p2 := 2) rfl rfl rfl rfl ?_
  refine q_callr (xs := [(0, x, 0), (6, 7, 0)]) (p2 := 3) rfl rfl rfl rfl (x_rcv_s 7 hP.1) rfl (e_exists hP hC (x := x) (by omega)) (Nat.le_refl _) (Nat.le_refl _) rfl ?_
  by_cases hb1 : x < made ∧ comb x ≠ 0
  · rw [if_pos hb1]
    refine q_if0_s (p2 := 4) rfl (by decide) (by omega) rfl (fun hb => absurd hb (show ¬ (1 = 0) by omega)) (fun _ => ?_)
    refine q_load (p2 := 5) rfl rfl rfl rfl ?_
    refine q_getv (p2 := 6) rfl hP.1 (by decide) hP.2.2.2.2.1 rfl ?_
    refine q_load (p2 := 7) rfl rfl rfl rfl ?_
    refine q_aldv (v := (0, comb x, 0)) (p2 := 8) rfl hC.1 (by omega) (by omega) rfl rfl ?_
    refine q_load (p2 := 9) rfl rfl rfl rfl ?_
    refine q_ishr (p2 := 10) rfl (by omega) (by omega) rfl ?_
    refine q_const (p2 := 11) rfl rfl ?_
    refine q_iand (p2 := 12) rfl (by omega) rfl ?_
    refine q_const (p2 := 13) rfl rfl ?_
    refine q_icmp_s (p2 := 14) rfl (by decide) (by omega) (by omega) rfl (fun hb2 => ?_) (fun hb2 => ?_)
    · have hb2 : ¬ ((((comb x) >>> e) &&& 1) = 1) := hb2
      refine q_const (p2 := 17) rfl rfl ?_
      exact q_retv rfl rfl (⟨rfl, by rw [if_neg (by omega)], rfl, rfl, rfl⟩)
    · have hb2 : ¬ (¬ ((((comb x) >>> e) &&& 1) = 1)) := hb2
      refine q_const (p2 := 15) rfl rfl ?_
      refine q_goto rfl ?_
      exact q_retv rfl rfl (⟨rfl, by rw [if_pos (by omega)], rfl, rfl, rfl⟩)
  · rw [if_neg hb1]
    refine q_if0_s (p2 := 4) rfl (by decide) (by omega) rfl (fun _ => ?_) (fun hb => absurd (show 0 = 0 by omega) hb)
    refine q_const (p2 := 17) rfl rfl ?_
    exact q_retv rfl rfl (⟨rfl, by rw [if_neg (by omega)], rfl, rfl, rfl⟩)
end FPOP1
