section FPOP13
/-- a row of 40 numbers -/
def x_row (φ : FH) (c : Nat) (la : Nat → Nat) : Prop := φ c = some (1, 0, 40, fun i => (0, la i, 0)) ∧ ∀ i, la i < 2147483648
abbrev x_kn (lik : Nat → Nat) (made a b : Nat) : Prop := a = b ∨ ((a < made ∧ b < made) ∧ lik a = lik b)
/-- alike, of what is no aggregate -/
abbrev x_ca (lik : Nat → Nat) (made kA a kB b : Nat) : Prop := kA = kB ∧ ((kA = 5 ∧ x_kn lik made a b) ∨ ((kA ≠ 5 ∧ kA ≠ 0 ∧ kA ≠ 6) ∧ a = b))
theorem e_ca_5 {d n sl : Nat} {φ : FH} {A B made sv svm st : Nat} {fP : Nat → XV} (hP : x_pop φ A B made sv svm st fP) {lik : Nat → Nat} (hL : x_row φ A lik) {a b : Nat} (ha : a < 2147483648) (hb : b < 2147483648) : x_f x_P (d + 1) 114 [(6, 7, 0), (0, 5, 0), (2, a, 0), (11, 0, 0), (0, 5, 0), (2, b, 0), (11, 0, 0), (11, 0, 0)] φ n sl (x_r φ n sl (0, if x_kn lik made a b then 1 else 0, 0)) := by
  have hmade : made ≤ 40 := hP.2.2.2.2.2.2.2.2.2.2.2.2.2.1
  have hla := hL.2 a
  have hlb := hL.2 b
  refine x_f_of rfl ?_
  refine q_load (p2 := 1) rfl rfl rfl rfl ?_
  refine q_const (p2 := 2) rfl rfl ?_
  refine q_icmp_s (p2 := 3) rfl (by decide) (by omega) (by omega) rfl (fun _ => ?_) (fun hb => absurd (show ¬ (5 = 1) by omega) hb)
  refine q_load (p2 := 11) rfl rfl rfl rfl ?_
  refine q_const (p2 := 12) rfl rfl ?_
  refine q_icmp_s (p2 := 13) rfl (by decide) (by omega) (by omega) rfl (fun _ => ?_) (fun hb => absurd (show ¬ (5 = 2) by omega) hb)
  refine q_load (p2 := 21) rfl rfl rfl rfl ?_
  refine q_load (p2 := 22) rfl rfl rfl rfl ?_
  refine q_icmp_s (p2 := 23) rfl (by decide) (by omega) (by omega) rfl (fun _ => ?_) (fun hb => absurd (show 5 = 5 by omega) hb)
  refine q_load (p2 := 26) rfl rfl rfl rfl ?_
  refine q_switch (tgt := 50) rfl (by decide) rfl ?_
  refine q_load (p2 := 51) rfl rfl rfl rfl ?_
  refine q_const (p2 := 52) rfl rfl ?_
  refine q_lcif (p2 := 54) rfl rfl (by decide) (by omega) (by omega) rfl (fun hb1 => ?_) (fun hb1 => ?_)
  · have hb1 : a < 0 := hb1
    refine q_const (p2 := 81) rfl rfl ?_
    refine q_store (p2 := 82) rfl rfl rfl rfl rfl ?_
    refine q_load (p2 := 83) rfl rfl rfl rfl ?_
    refine q_load (p2 := 84) rfl rfl rfl rfl ?_
    refine q_lcif (p2 := 86) rfl rfl (by decide) (by omega) (by omega) rfl (fun hb2 => ?_) (fun hb2 => ?_)
    · have hb2 : a = b := hb2
      refine q_const (p2 := 100) rfl rfl ?_
      refine q_goto rfl ?_
      exact q_retv rfl rfl (⟨rfl, by rw [if_pos (by omega)], rfl, rfl, rfl⟩)
    · have hb2 : ¬ (a = b) := hb2
      refine q_load (p2 := 87) rfl rfl rfl rfl ?_
      refine q_if0_s (p2 := 88) rfl (by decide) (by omega) rfl (fun _ => ?_) (fun hb => absurd (show 0 = 0 by omega) hb)
      refine q_const (p2 := 102) rfl rfl ?_
      exact q_retv rfl rfl (⟨rfl, by rw [if_neg (by omega)], rfl, rfl, rfl⟩)
  · have hb1 : ¬ (a < 0) := hb1
    refine q_load (p2 := 55) rfl rfl rfl rfl ?_
    refine q_load (p2 := 56) rfl rfl rfl rfl ?_
    refine q_getv (p2 := 57) rfl hP.1 (by decide) hP.2.2.2.1 rfl ?_
    refine q_i2l (p2 := 58) rfl (by omega) rfl ?_
    refine q_lcif (p2 := 60) rfl rfl (by decide) (by omega) (by omega) rfl (fun hb3 => ?_) (fun hb3 => ?_)
    · have hb3 : ¬ (a < made) := hb3
      refine q_const (p2 := 81) rfl rfl ?_
      refine q_store (p2 := 82) rfl rfl rfl rfl rfl ?_
      refine q_load (p2 := 83) rfl rfl rfl rfl ?_
      refine q_load (p2 := 84) rfl rfl rfl rfl ?_
      refine q_lcif (p2 := 86) rfl rfl (by decide) (by omega) (by omega) rfl (fun hb4 => ?_) (fun hb4 => ?_)
      · have hb4 : a = b := hb4
        refine q_const (p2 := 100) rfl rfl ?_
        refine q_goto rfl ?_
        exact q_retv rfl rfl (⟨rfl, by rw [if_pos (by omega)], rfl, rfl, rfl⟩)
      · have hb4 : ¬ (a = b) := hb4
        refine q_load (p2 := 87) rfl rfl rfl rfl ?_
        refine q_if0_s (p2 := 88) rfl (by decide) (by omega) rfl (fun _ => ?_) (fun hb => absurd (show 0 = 0 by omega) hb)
        refine q_const (p2 := 102) rfl rfl ?_
        exact q_retv rfl rfl (⟨rfl, by rw [if_neg (by omega)], rfl, rfl, rfl⟩)
    · have hb3 : ¬ (¬ (a < made)) := hb3
      refine q_load (p2 := 61) rfl rfl rfl rfl ?_
      refine q_const (p2 := 62) rfl rfl ?_
      refine q_lcif (p2 := 64) rfl rfl (by decide) (by omega) (by omega) rfl (fun hb5 => ?_) (fun hb5 => ?_)
      · have hb5 : ¬ (a < 40) := hb5
        refine q_const (p2 := 81) rfl rfl ?_
        refine q_store (p2 := 82) rfl rfl rfl rfl rfl ?_
        refine q_load (p2 := 83) rfl rfl rfl rfl ?_
        refine q_load (p2 := 84) rfl rfl rfl rfl ?_
        refine q_lcif (p2 := 86) rfl rfl (by decide) (by omega) (by omega) rfl (fun hb6 => ?_) (fun hb6 => ?_)
        · have hb6 : a = b := hb6
          refine q_const (p2 := 100) rfl rfl ?_
          refine q_goto rfl ?_
          exact q_retv rfl rfl (⟨rfl, by rw [if_pos (by omega)], rfl, rfl, rfl⟩)
        · have hb6 : ¬ (a = b) := hb6
          refine q_load (p2 := 87) rfl rfl rfl rfl ?_
          refine q_if0_s (p2 := 88) rfl (by decide) (by omega) rfl (fun _ => ?_) (fun hb => absurd (show 0 = 0 by omega) hb)
          refine q_const (p2 := 102) rfl rfl ?_
          exact q_retv rfl rfl (⟨rfl, by rw [if_neg (by omega)], rfl, rfl, rfl⟩)
      · have hb5 : ¬ (¬ (a < 40)) := hb5
        refine q_load (p2 := 65) rfl rfl rfl rfl ?_
        refine q_const (p2 := 66) rfl rfl ?_
        refine q_lcif (p2 := 68) rfl rfl (by decide) (by omega) (by omega) rfl (fun hb7 => ?_) (fun hb7 => ?_)
        · have hb7 : b < 0 := hb7
          refine q_const (p2 := 81) rfl rfl ?_
          refine q_store (p2 := 82) rfl rfl rfl rfl rfl ?_
          refine q_load (p2 := 83) rfl rfl rfl rfl ?_
          refine q_load (p2 := 84) rfl rfl rfl rfl ?_
          refine q_lcif (p2 := 86) rfl rfl (by decide) (by omega) (by omega) rfl (fun hb8 => ?_) (fun hb8 => ?_)
          · have hb8 : a = b := hb8
            refine q_const (p2 := 100) rfl rfl ?_
            refine q_goto rfl ?_
            exact q_retv rfl rfl (⟨rfl, by rw [if_pos (by omega)], rfl, rfl, rfl⟩)
          · have hb8 : ¬ (a = b) := hb8
            refine q_load (p2 := 87) rfl rfl rfl rfl ?_
            refine q_if0_s (p2 := 88) rfl (by decide) (by omega) rfl (fun _ => ?_) (fun hb => absurd (show 0 = 0 by omega) hb)
            refine q_const (p2 := 102) rfl rfl ?_
            exact q_retv rfl rfl (⟨rfl, by rw [if_neg (by omega)], rfl, rfl, rfl⟩)
        · have hb7 : ¬ (b < 0) := hb7
          refine q_load (p2 := 69) rfl rfl rfl rfl ?_
          refine q_load (p2 := 70) rfl rfl rfl rfl ?_
          refine q_getv (p2 := 71) rfl hP.1 (by decide) hP.2.2.2.1 rfl ?_
          refine q_i2l (p2 := 72) rfl (by omega) rfl ?_
          refine q_lcif (p2 := 74) rfl rfl (by decide) (by omega) (by omega) rfl (fun hb9 => ?_) (fun hb9 => ?_)
          · have hb9 : ¬ (b < made) := hb9
            refine q_const (p2 := 81) rfl rfl ?_
            refine q_store (p2 := 82) rfl rfl rfl rfl rfl ?_
            refine q_load (p2 := 83) rfl rfl rfl rfl ?_
            refine q_load (p2 := 84) rfl rfl rfl rfl ?_
            refine q_lcif (p2 := 86) rfl rfl (by decide) (by omega) (by omega) rfl (fun hb10 => ?_) (fun hb10 => ?_)
            · have hb10 : a = b := hb10
              refine q_const (p2 := 100) rfl rfl ?_
              refine q_goto rfl ?_
              exact q_retv rfl rfl (⟨rfl, by rw [if_pos (by omega)], rfl, rfl, rfl⟩)
            · have hb10 : ¬ (a = b) := hb10
              refine q_load (p2 := 87) rfl rfl rfl rfl ?_
              refine q_if0_s (p2 := 88) rfl (by decide) (by omega) rfl (fun _ => ?_) (fun hb => absurd (show 0 = 0 by omega) hb)
              refine q_const (p2 := 102) rfl rfl ?_
              exact q_retv rfl rfl (⟨rfl, by rw [if_neg (by omega)], rfl, rfl, rfl⟩)
          · have hb9 : ¬ (¬ (b < made)) := hb9
            refine q_load (p2 := 75) rfl rfl rfl rfl ?_
            refine q_const (p2 := 76) rfl rfl ?_
            refine q_lcif (p2 := 78) rfl rfl (by decide) (by omega) (by omega) rfl (fun hb11 => ?_) (fun hb11 => ?_)
            · have hb11 : ¬ (b < 40) := hb11
              refine q_const (p2 := 81) rfl rfl ?_
              refine q_store (p2 := 82) rfl rfl rfl rfl rfl ?_
              refine q_load (p2 := 83) rfl rfl rfl rfl ?_
              refine q_load (p2 := 84) rfl rfl rfl rfl ?_
              refine q_lcif (p2 := 86) rfl rfl (by decide) (by omega) (by omega) rfl (fun hb12 => ?_) (fun hb12 => ?_)
              · have hb12 : a = b := hb12
                refine q_const (p2 := 100) rfl rfl ?_
                refine q_goto rfl ?_
                exact q_retv rfl rfl (⟨rfl, by rw [if_pos (by omega)], rfl, rfl, rfl⟩)
              · have hb12 : ¬ (a = b) := hb12
                refine q_load (p2 := 87) rfl rfl rfl rfl ?_
                refine q_if0_s (p2 := 88) rfl (by decide) (by omega) rfl (fun _ => ?_) (fun hb => absurd (show 0 = 0 by omega) hb)
                refine q_const (p2 := 102) rfl rfl ?_
                exact q_retv rfl rfl (⟨rfl, by rw [if_neg (by omega)], rfl, rfl, rfl⟩)
            · have hb11 : ¬ (¬ (b < 40)) := hb11
              refine q_const (p2 := 79) rfl rfl ?_
              refine q_goto rfl ?_
              refine q_store (p2 := 82) rfl rfl rfl rfl rfl ?_
              refine q_load (p2 := 83) rfl rfl rfl rfl ?_
              refine q_load (p2 := 84) rfl rfl rfl rfl ?_
              refine q_lcif (p2 := 86) rfl rfl (by decide) (by omega) (by omega) rfl (fun hb13 => ?_) (fun hb13 => ?_)
              · have hb13 : a = b := hb13
                refine q_const (p2 := 100) rfl rfl ?_
                refine q_goto rfl ?_
                exact q_retv rfl rfl (⟨rfl, by rw [if_pos (by omega)], rfl, rfl, rfl⟩)
              · have hb13 : ¬ (a = b) := hb13
                refine q_load (p2 := 87) rfl rfl rfl rfl ?_
                refine q_if0_s (p2 := 88) rfl (by decide) (by omega) rfl (fun hb => absurd hb (show ¬ (1 = 0) by omega)) (fun _ => ?_)
                refine q_load (p2 := 89) rfl rfl rfl rfl ?_
                refine q_getv (p2 := 90) rfl hP.1 (by decide) hP.2.2.2.2.2.2.2.2.2.2.1 rfl ?_
                refine q_load (p2 := 91) rfl rfl rfl rfl ?_
                refine q_l2i (z := a) (p2 := 92) rfl (Nat.mod_eq_of_lt (by omega)) rfl ?_
                refine q_aldv (v := (0, (lik a), 0)) (p2 := 93) rfl hL.1 (by omega) (by omega) rfl rfl ?_
                refine q_load (p2 := 94) rfl rfl rfl rfl ?_
                refine q_getv (p2 := 95) rfl hP.1 (by decide) hP.2.2.2.2.2.2.2.2.2.2.1 rfl ?_
                refine q_load (p2 := 96) rfl rfl rfl rfl ?_
                refine q_l2i (z := b) (p2 := 97) rfl (Nat.mod_eq_of_lt (by omega)) rfl ?_
                refine q_aldv (v := (0, (lik b), 0)) (p2 := 98) rfl hL.1 (by omega) (by omega) rfl rfl ?_
                refine q_icmp_s (p2 := 99) rfl (by decide) (by omega) (by omega) rfl (fun hb14 => ?_) (fun hb14 => ?_)
                · have hb14 : ¬ ((lik a) = (lik b)) := hb14
                  refine q_const (p2 := 102) rfl rfl ?_
                  exact q_retv rfl rfl (⟨rfl, by rw [if_neg (by omega)], rfl, rfl, rfl⟩)
                · have hb14 : ¬ (¬ ((lik a) = (lik b))) := hb14
                  refine q_const (p2 := 100) rfl rfl ?_
                  refine q_goto rfl ?_
                  exact q_retv rfl rfl (⟨rfl, by rw [if_pos (by omega)], rfl, rfl, rfl⟩)
theorem e_ca_0 {d n sl : Nat} {φ : FH} {A B made sv svm st : Nat} {fP : Nat → XV} (hP : x_pop φ A B made sv svm st fP) {lik : Nat → Nat} (hL : x_row φ A lik) {a b : Nat} (ha : a < 2147483648) (hb : b < 2147483648) : x_f x_P (d + 1) 114 [(6, 7, 0), (0, 0, 0), (2, a, 0), (11, 0, 0), (0, 0, 0), (2, b, 0), (11, 0, 0), (11, 0, 0)] φ n sl (x_r φ n sl (0, if (a = b ∧ a ≠ b) then 1 else 0, 0)) := by
  have hmade : made ≤ 40 := hP.2.2.2.2.2.2.2.2.2.2.2.2.2.1
  have hla := hL.2 a
  have hlb := hL.2 b
  refine x_f_of rfl ?_
  refine q_load (p2 := 1) rfl rfl rfl rfl ?_
  refine q_const (p2 := 2) rfl rfl ?_
  refine q_icmp_s (p2 := 3) rfl (by decide) (by omega) (by omega) rfl (fun _ => ?_) (fun hb => absurd (show ¬ (0 = 1) by omega) hb)
  refine q_load (p2 := 11) rfl rfl rfl rfl ?_
  refine q_const (p2 := 12) rfl rfl ?_
  refine q_icmp_s (p2 := 13) rfl (by decide) (by omega) (by omega) rfl (fun _ => ?_) (fun hb => absurd (show ¬ (0 = 2) by omega) hb)
  refine q_load (p2 := 21) rfl rfl rfl rfl ?_
  refine q_load (p2 := 22) rfl rfl rfl rfl ?_
  refine q_icmp_s (p2 := 23) rfl (by decide) (by omega) (by omega) rfl (fun _ => ?_) (fun hb => absurd (show 0 = 0 by omega) hb)
  refine q_load (p2 := 26) rfl rfl rfl rfl ?_
  refine q_switch (tgt := 103) rfl (by decide) rfl ?_
  refine q_load (p2 := 104) rfl rfl rfl rfl ?_
  refine q_load (p2 := 105) rfl rfl rfl rfl ?_
  refine q_lcif (p2 := 107) rfl rfl (by decide) (by omega) (by omega) rfl (fun hb1 => ?_) (fun hb1 => ?_)
  · have hb1 : ¬ (a = b) := hb1
    refine q_const (p2 := 115) rfl rfl ?_
    exact q_retv rfl rfl (⟨rfl, by rw [if_neg (by omega)], rfl, rfl, rfl⟩)
  · have hb1 : ¬ (¬ (a = b)) := hb1
    refine q_load (p2 := 108) rfl rfl rfl rfl ?_
    refine q_if0_s (p2 := 109) rfl (by decide) (by omega) rfl (fun _ => ?_) (fun hb => absurd (show 0 = 0 by omega) hb)
    refine q_const (p2 := 115) rfl rfl ?_
    exact q_retv rfl rfl (⟨rfl, by rw [if_neg (by omega)], rfl, rfl, rfl⟩)
theorem e_ca_1 {d n sl : Nat} {φ : FH} {A B made sv svm st : Nat} {fP : Nat → XV} (hP : x_pop φ A B made sv svm st fP) {lik : Nat → Nat} (hL : x_row φ A lik) {a b : Nat} (ha : a < 2147483648) (hb : b < 2147483648) : x_f x_P (d + 1) 114 [(6, 7, 0), (0, 1, 0), (2, a, 0), (11, 0, 0), (0, 1, 0), (2, b, 0), (11, 0, 0), (11, 0, 0)] φ n sl (x_r φ n sl (0, if (a = b) then 1 else 0, 0)) := by
  have hmade : made ≤ 40 := hP.2.2.2.2.2.2.2.2.2.2.2.2.2.1
  have hla := hL.2 a
  have hlb := hL.2 b
  refine x_f_of rfl ?_
  refine q_load (p2 := 1) rfl rfl rfl rfl ?_
  refine q_const (p2 := 2) rfl rfl ?_
  refine q_icmp_s (p2 := 3) rfl (by decide) (by omega) (by omega) rfl (fun hb => absurd hb (show ¬ (¬ (1 = 1)) by omega)) (fun _ => ?_)
  refine q_load (p2 := 4) rfl rfl rfl rfl ?_
  refine q_const (p2 := 5) rfl rfl ?_
  refine q_icmp_s (p2 := 6) rfl (by decide) (by omega) (by omega) rfl (fun _ => ?_) (fun hb => absurd (show ¬ (1 = 2) by omega) hb)
  refine q_load (p2 := 11) rfl rfl rfl rfl ?_
  refine q_const (p2 := 12) rfl rfl ?_
  refine q_icmp_s (p2 := 13) rfl (by decide) (by omega) (by omega) rfl (fun _ => ?_) (fun hb => absurd (show ¬ (1 = 2) by omega) hb)
  refine q_load (p2 := 21) rfl rfl rfl rfl ?_
  refine q_load (p2 := 22) rfl rfl rfl rfl ?_
  refine q_icmp_s (p2 := 23) rfl (by decide) (by omega) (by omega) rfl (fun _ => ?_) (fun hb => absurd (show 1 = 1 by omega) hb)
  refine q_load (p2 := 26) rfl rfl rfl rfl ?_
  refine q_switch (tgt := 103) rfl (by decide) rfl ?_
  refine q_load (p2 := 104) rfl rfl rfl rfl ?_
  refine q_load (p2 := 105) rfl rfl rfl rfl ?_
  refine q_lcif (p2 := 107) rfl rfl (by decide) (by omega) (by omega) rfl (fun hb1 => ?_) (fun hb1 => ?_)
  · have hb1 : ¬ (a = b) := hb1
    refine q_const (p2 := 115) rfl rfl ?_
    exact q_retv rfl rfl (⟨rfl, by rw [if_neg (by omega)], rfl, rfl, rfl⟩)
  · have hb1 : ¬ (¬ (a = b)) := hb1
    refine q_load (p2 := 108) rfl rfl rfl rfl ?_
    refine q_if0_s (p2 := 109) rfl (by decide) (by omega) rfl (fun hb => absurd hb (show ¬ (1 = 0) by omega)) (fun _ => ?_)
    refine q_load (p2 := 110) rfl rfl rfl rfl ?_
    refine q_const (p2 := 111) rfl rfl ?_
    refine q_icmp_s (p2 := 112) rfl (by decide) (by omega) (by omega) rfl (fun hb => absurd hb (show ¬ (1 = 6) by omega)) (fun _ => ?_)
    refine q_const (p2 := 113) rfl rfl ?_
    refine q_goto rfl ?_
    exact q_retv rfl rfl (⟨rfl, by rw [if_pos (by omega)], rfl, rfl, rfl⟩)
theorem e_ca_3 {d n sl : Nat} {φ : FH} {A B made sv svm st : Nat} {fP : Nat → XV} (hP : x_pop φ A B made sv svm st fP) {lik : Nat → Nat} (hL : x_row φ A lik) {a b : Nat} (ha : a < 2147483648) (hb : b < 2147483648) : x_f x_P (d + 1) 114 [(6, 7, 0), (0, 3, 0), (2, a, 0), (11, 0, 0), (0, 3, 0), (2, b, 0), (11, 0, 0), (11, 0, 0)] φ n sl (x_r φ n sl (0, if (a = b) then 1 else 0, 0)) := by
  have hmade : made ≤ 40 := hP.2.2.2.2.2.2.2.2.2.2.2.2.2.1
  have hla := hL.2 a
  have hlb := hL.2 b
  refine x_f_of rfl ?_
  refine q_load (p2 := 1) rfl rfl rfl rfl ?_
  refine q_const (p2 := 2) rfl rfl ?_
  refine q_icmp_s (p2 := 3) rfl (by decide) (by omega) (by omega) rfl (fun _ => ?_) (fun hb => absurd (show ¬ (3 = 1) by omega) hb)
  refine q_load (p2 := 11) rfl rfl rfl rfl ?_
  refine q_const (p2 := 12) rfl rfl ?_
  refine q_icmp_s (p2 := 13) rfl (by decide) (by omega) (by omega) rfl (fun _ => ?_) (fun hb => absurd (show ¬ (3 = 2) by omega) hb)
  refine q_load (p2 := 21) rfl rfl rfl rfl ?_
  refine q_load (p2 := 22) rfl rfl rfl rfl ?_
  refine q_icmp_s (p2 := 23) rfl (by decide) (by omega) (by omega) rfl (fun _ => ?_) (fun hb => absurd (show 3 = 3 by omega) hb)
  refine q_load (p2 := 26) rfl rfl rfl rfl ?_
  refine q_switch (tgt := 103) rfl (by decide) rfl ?_
  refine q_load (p2 := 104) rfl rfl rfl rfl ?_
  refine q_load (p2 := 105) rfl rfl rfl rfl ?_
  refine q_lcif (p2 := 107) rfl rfl (by decide) (by omega) (by omega) rfl (fun hb1 => ?_) (fun hb1 => ?_)
  · have hb1 : ¬ (a = b) := hb1
    refine q_const (p2 := 115) rfl rfl ?_
    exact q_retv rfl rfl (⟨rfl, by rw [if_neg (by omega)], rfl, rfl, rfl⟩)
  · have hb1 : ¬ (¬ (a = b)) := hb1
    refine q_load (p2 := 108) rfl rfl rfl rfl ?_
    refine q_if0_s (p2 := 109) rfl (by decide) (by omega) rfl (fun hb => absurd hb (show ¬ (3 = 0) by omega)) (fun _ => ?_)
    refine q_load (p2 := 110) rfl rfl rfl rfl ?_
    refine q_const (p2 := 111) rfl rfl ?_
    refine q_icmp_s (p2 := 112) rfl (by decide) (by omega) (by omega) rfl (fun hb => absurd hb (show ¬ (3 = 6) by omega)) (fun _ => ?_)
    refine q_const (p2 := 113) rfl rfl ?_
    refine q_goto rfl ?_
    exact q_retv rfl rfl (⟨rfl, by rw [if_pos (by omega)], rfl, rfl, rfl⟩)
theorem e_ca_4 {d n sl : Nat} {φ : FH} {A B made sv svm st : Nat} {fP : Nat → XV} (hP : x_pop φ A B made sv svm st fP) {lik : Nat → Nat} (hL : x_row φ A lik) {a b : Nat} (ha : a < 2147483648) (hb : b < 2147483648) : x_f x_P (d + 1) 114 [(6, 7, 0), (0, 4, 0), (2, a, 0), (11, 0, 0), (0, 4, 0), (2, b, 0), (11, 0, 0), (11, 0, 0)] φ n sl (x_r φ n sl (0, if (a = b) then 1 else 0, 0)) := by
  have hmade : made ≤ 40 := hP.2.2.2.2.2.2.2.2.2.2.2.2.2.1
  have hla := hL.2 a
  have hlb := hL.2 b
  refine x_f_of rfl ?_
  refine q_load (p2 := 1) rfl rfl rfl rfl ?_
  refine q_const (p2 := 2) rfl rfl ?_
  refine q_icmp_s (p2 := 3) rfl (by decide) (by omega) (by omega) rfl (fun _ => ?_) (fun hb => absurd (show ¬ (4 = 1) by omega) hb)
  refine q_load (p2 := 11) rfl rfl rfl rfl ?_
  refine q_const (p2 := 12) rfl rfl ?_
  refine q_icmp_s (p2 := 13) rfl (by decide) (by omega) (by omega) rfl (fun _ => ?_) (fun hb => absurd (show ¬ (4 = 2) by omega) hb)
  refine q_load (p2 := 21) rfl rfl rfl rfl ?_
  refine q_load (p2 := 22) rfl rfl rfl rfl ?_
  refine q_icmp_s (p2 := 23) rfl (by decide) (by omega) (by omega) rfl (fun _ => ?_) (fun hb => absurd (show 4 = 4 by omega) hb)
  refine q_load (p2 := 26) rfl rfl rfl rfl ?_
  refine q_switch (tgt := 103) rfl (by decide) rfl ?_
  refine q_load (p2 := 104) rfl rfl rfl rfl ?_
  refine q_load (p2 := 105) rfl rfl rfl rfl ?_
  refine q_lcif (p2 := 107) rfl rfl (by decide) (by omega) (by omega) rfl (fun hb1 => ?_) (fun hb1 => ?_)
  · have hb1 : ¬ (a = b) := hb1
    refine q_const (p2 := 115) rfl rfl ?_
    exact q_retv rfl rfl (⟨rfl, by rw [if_neg (by omega)], rfl, rfl, rfl⟩)
  · have hb1 : ¬ (¬ (a = b)) := hb1
    refine q_load (p2 := 108) rfl rfl rfl rfl ?_
    refine q_if0_s (p2 := 109) rfl (by decide) (by omega) rfl (fun hb => absurd hb (show ¬ (4 = 0) by omega)) (fun _ => ?_)
    refine q_load (p2 := 110) rfl rfl rfl rfl ?_
    refine q_const (p2 := 111) rfl rfl ?_
    refine q_icmp_s (p2 := 112) rfl (by decide) (by omega) (by omega) rfl (fun hb => absurd hb (show ¬ (4 = 6) by omega)) (fun _ => ?_)
    refine q_const (p2 := 113) rfl rfl ?_
    refine q_goto rfl ?_
    exact q_retv rfl rfl (⟨rfl, by rw [if_pos (by omega)], rfl, rfl, rfl⟩)
theorem e_ca_6 {d n sl : Nat} {φ : FH} {A B made sv svm st : Nat} {fP : Nat → XV} (hP : x_pop φ A B made sv svm st fP) {lik : Nat → Nat} (hL : x_row φ A lik) {a b : Nat} (ha : a < 2147483648) (hb : b < 2147483648) : x_f x_P (d + 1) 114 [(6, 7, 0), (0, 6, 0), (2, a, 0), (11, 0, 0), (0, 6, 0), (2, b, 0), (11, 0, 0), (11, 0, 0)] φ n sl (x_r φ n sl (0, if (a = b ∧ a ≠ b) then 1 else 0, 0)) := by
  have hmade : made ≤ 40 := hP.2.2.2.2.2.2.2.2.2.2.2.2.2.1
  have hla := hL.2 a
  have hlb := hL.2 b
  refine x_f_of rfl ?_
  refine q_load (p2 := 1) rfl rfl rfl rfl ?_
  refine q_const (p2 := 2) rfl rfl ?_
  refine q_icmp_s (p2 := 3) rfl (by decide) (by omega) (by omega) rfl (fun _ => ?_) (fun hb => absurd (show ¬ (6 = 1) by omega) hb)
  refine q_load (p2 := 11) rfl rfl rfl rfl ?_
  refine q_const (p2 := 12) rfl rfl ?_
  refine q_icmp_s (p2 := 13) rfl (by decide) (by omega) (by omega) rfl (fun _ => ?_) (fun hb => absurd (show ¬ (6 = 2) by omega) hb)
  refine q_load (p2 := 21) rfl rfl rfl rfl ?_
  refine q_load (p2 := 22) rfl rfl rfl rfl ?_
  refine q_icmp_s (p2 := 23) rfl (by decide) (by omega) (by omega) rfl (fun _ => ?_) (fun hb => absurd (show 6 = 6 by omega) hb)
  refine q_load (p2 := 26) rfl rfl rfl rfl ?_
  refine q_switch (tgt := 103) rfl (by decide) rfl ?_
  refine q_load (p2 := 104) rfl rfl rfl rfl ?_
  refine q_load (p2 := 105) rfl rfl rfl rfl ?_
  refine q_lcif (p2 := 107) rfl rfl (by decide) (by omega) (by omega) rfl (fun hb1 => ?_) (fun hb1 => ?_)
  · have hb1 : ¬ (a = b) := hb1
    refine q_const (p2 := 115) rfl rfl ?_
    exact q_retv rfl rfl (⟨rfl, by rw [if_neg (by omega)], rfl, rfl, rfl⟩)
  · have hb1 : ¬ (¬ (a = b)) := hb1
    refine q_load (p2 := 108) rfl rfl rfl rfl ?_
    refine q_if0_s (p2 := 109) rfl (by decide) (by omega) rfl (fun hb => absurd hb (show ¬ (6 = 0) by omega)) (fun _ => ?_)
    refine q_load (p2 := 110) rfl rfl rfl rfl ?_
    refine q_const (p2 := 111) rfl rfl ?_
    refine q_icmp_s (p2 := 112) rfl (by decide) (by omega) (by omega) rfl (fun _ => ?_) (fun hb => absurd (show 6 = 6 by omega) hb)
    refine q_const (p2 := 115) rfl rfl ?_
    exact q_retv rfl rfl (⟨rfl, by rw [if_neg (by omega)], rfl, rfl, rfl⟩)
theorem e_ca_ne {d n sl : Nat} {φ : FH} {A B made sv svm st : Nat} {fP : Nat → XV} (hP : x_pop φ A B made sv svm st fP) {lik : Nat → Nat} (hL : x_row φ A lik) {a b : Nat} (ha : a < 2147483648) (hb : b < 2147483648) {kA kB : Nat} (hA : kA < 7 ∧ kA ≠ 2) (hB : kB < 7 ∧ kB ≠ 2) (hne : kA ≠ kB) : x_f x_P (d + 1) 114 [(6, 7, 0), (0, kA, 0), (2, a, 0), (11, 0, 0), (0, kB, 0), (2, b, 0), (11, 0, 0), (11, 0, 0)] φ n sl (x_r φ n sl (0, 0, 0)) := by
  have hmade : made ≤ 40 := hP.2.2.2.2.2.2.2.2.2.2.2.2.2.1
  have hla := hL.2 a
  have hlb := hL.2 b
  refine x_f_of rfl ?_
  refine q_load (p2 := 1) rfl rfl rfl rfl ?_
  refine q_const (p2 := 2) rfl rfl ?_
  refine q_icmp_s (p2 := 3) rfl (by decide) (by omega) (by omega) rfl (fun hb1 => ?_) (fun hb1 => ?_)
  · have hb1 : ¬ (kA = 1) := hb1
    refine q_load (p2 := 11) rfl rfl rfl rfl ?_
    refine q_const (p2 := 12) rfl rfl ?_
    refine q_icmp_s (p2 := 13) rfl (by decide) (by omega) (by omega) rfl (fun _ => ?_) (fun hb => absurd (show ¬ (kA = 2) by omega) hb)
    refine q_load (p2 := 21) rfl rfl rfl rfl ?_
    refine q_load (p2 := 22) rfl rfl rfl rfl ?_
    refine q_icmp_s (p2 := 23) rfl (by decide) (by omega) (by omega) rfl (fun hb => absurd hb (show ¬ (kA = kB) by omega)) (fun _ => ?_)
    refine q_const (p2 := 24) rfl rfl ?_
    exact q_retv rfl rfl (⟨rfl, rfl, rfl, rfl, rfl⟩)
  · have hb1 : ¬ (¬ (kA = 1)) := hb1
    refine q_load (p2 := 4) rfl rfl rfl rfl ?_
    refine q_const (p2 := 5) rfl rfl ?_
    refine q_icmp_s (p2 := 6) rfl (by decide) (by omega) (by omega) rfl (fun _ => ?_) (fun hb => absurd (show ¬ (kB = 2) by omega) hb)
    refine q_load (p2 := 11) rfl rfl rfl rfl ?_
    refine q_const (p2 := 12) rfl rfl ?_
    refine q_icmp_s (p2 := 13) rfl (by decide) (by omega) (by omega) rfl (fun _ => ?_) (fun hb => absurd (show ¬ (kA = 2) by omega) hb)
    refine q_load (p2 := 21) rfl rfl rfl rfl ?_
    refine q_load (p2 := 22) rfl rfl rfl rfl ?_
    refine q_icmp_s (p2 := 23) rfl (by decide) (by omega) (by omega) rfl (fun hb => absurd hb (show ¬ (kA = kB) by omega)) (fun _ => ?_)
    refine q_const (p2 := 24) rfl rfl ?_
    exact q_retv rfl rfl (⟨rfl, rfl, rfl, rfl, rfl⟩)
theorem x_r_if {φ : FH} {n sl a : Nat} {p q : Prop} [Decidable p] [Decidable q] {P : List (List XI)} {d M : Nat} {loc : List XV} (h : x_f P d M loc φ n sl (x_r φ n sl (0, if p then 1 else 0, a))) (e : p ↔ q) : x_f P d M loc φ n sl (x_r φ n sl (0, if q then 1 else 0, a)) := by
  by_cases hp : p
  · rw [if_pos (e.mp hp)]; rw [if_pos hp] at h; exact h
  · rw [if_neg (fun z => hp (e.mpr z))]; rw [if_neg hp] at h; exact h
theorem x_r_no {φ : FH} {n sl a : Nat} {q : Prop} [Decidable q] {P : List (List XI)} {d M : Nat} {loc : List XV} (h : x_f P d M loc φ n sl (x_r φ n sl (0, 0, a))) (e : ¬ q) : x_f P d M loc φ n sl (x_r φ n sl (0, if q then 1 else 0, a)) := by
  rw [if_neg e]
  exact h
theorem e_cellsAlike {d n sl : Nat} {φ : FH} {A B made sv svm st : Nat} {fP : Nat → XV} (hP : x_pop φ A B made sv svm st fP) {lik : Nat → Nat} (hL : x_row φ A lik) {a b : Nat} (ha : a < 2147483648) (hb : b < 2147483648) {kA kB : Nat} (hA : kA < 7 ∧ kA ≠ 2) (hB : kB < 7 ∧ kB ≠ 2) : x_f x_P (d + 1) 114 [(6, 7, 0), (0, kA, 0), (2, a, 0), (11, 0, 0), (0, kB, 0), (2, b, 0), (11, 0, 0), (11, 0, 0)] φ n sl (x_r φ n sl (0, if x_ca lik made kA a kB b then 1 else 0, 0)) := by
  by_cases hne : kA = kB
  · subst hne
    have h7 : kA = 0 ∨ kA = 1 ∨ kA = 3 ∨ kA = 4 ∨ kA = 5 ∨ kA = 6 := by omega
    rcases h7 with rfl | rfl | rfl | rfl | rfl | rfl
    · exact x_r_if (e_ca_0 hP hL ha hb) (by omega)
    · exact x_r_if (e_ca_1 hP hL ha hb) (by omega)
    · exact x_r_if (e_ca_3 hP hL ha hb) (by omega)
    · exact x_r_if (e_ca_4 hP hL ha hb) (by omega)
    · exact x_r_if (e_ca_5 hP hL ha hb) (by omega)
    · exact x_r_if (e_ca_6 hP hL ha hb) (by omega)
  · exact x_r_no (e_ca_ne hP hL ha hb hA hB hne) (fun z => hne z.1)
/-- the first place that is not used and alike: whether there is one, and what is used then -/
def x_gJ (q : Nat → Prop) [DecidablePred q] : Nat → Nat → Nat → Nat × Nat
  | 0, _, u => (0, u)
  | k + 1, j, u => if u >>> j &&& 1 = 0 ∧ q j then (1, u ||| 1 <<< j) else x_gJ q k (j + 1) u
/-- whether each place finds one -/
def x_gI (q : Nat → Nat → Prop) [∀ i j, Decidable (q i j)] (len : Nat) : Nat → Nat → Nat → Nat
  | 0, _, _ => 1
  | k + 1, i, u => if (x_gJ (q i) len 0 u).1 = 1 then x_gI q len k (i + 1) (x_gJ (q i) len 0 u).2 else 0
theorem x_or24 {u j : Nat} (hu : u < 16777216) (hj : j < 24) : u ||| 1 <<< j < 16777216 := by
  have h1 : 1 <<< j < 2 ^ 24 := by rw [Nat.one_shiftLeft]; exact Nat.pow_lt_pow_right (by decide) hj
  exact Nat.or_lt_two_pow (n := 24) hu h1
theorem x_shl24 {j : Nat} (hj : j < 24) : 1 <<< j < 16777216 := by
  rw [Nat.one_shiftLeft]
  exact Nat.pow_lt_pow_right (n := 24) (by decide) hj
theorem x_gJ_lt {q : Nat → Prop} [DecidablePred q] (k : Nat) : ∀ (j u : Nat), j + k ≤ 24 → u < 16777216 → (x_gJ q k j u).2 < 16777216 := by
  induction k with
  | zero => intro j u _ hu; exact hu
  | succ k ih =>
    intro j u hj hu
    unfold x_gJ
    split
    · exact x_or24 hu (by omega)
    · exact ih _ _ (by omega) hu
theorem e_alike_j {d n sl : Nat} {φ : FH} {A B made sv svm st : Nat} {fP : Nat → XV} (hP : x_pop φ A B made sv svm st fP) {lik : Nat → Nat} (hL : x_row φ A lik) {v w c c2 : Nat} {L L2 : List Nat} {fV fW gc gc2 : Nat → XV} (hV : φ v = some (0, 10, 7, fV)) (hg : x_vg fV 6 0 3 1 5 0 (6, c, 0)) (hc : φ c = some (6, 0, L.length, gc)) (hgc : ∀ i, i < L.length → gc i = (2, L.getD i 0, 0)) (hLL : ∀ i, L.getD i 0 < 2147483648) (hl : L.length ≤ 24) (hW : φ w = some (0, 10, 7, fW)) (hgw : x_vg fW 6 0 3 1 5 0 (6, c2, 0)) (hc2 : φ c2 = some (6, 0, L2.length, gc2)) (hgc2 : ∀ i, i < L2.length → gc2 i = (2, L2.getD i 0, 0)) (hLL2 : ∀ i, L2.getD i 0 < 2147483648) (hl2 : L2.length ≤ 24) (hLe : L.length = L2.length) {i u : Nat} (hi : i < L.length) (hu : u < 16777216) {Post : FP} (k : Nat) : ∀ (j : Nat), j + k = L2.length → (kk : ∀ q : Nat, x_n x_P (d + 1) xc_247 138 [] [(6, 7, 0), (6, v, 0), (6, w, 0), (0, L.length, 0), (0, 0, 0), (0, (x_gJ (fun j => x_kn lik made (L.getD i 0) (L2.getD j 0)) (k) (j) (u)).2, 0), (0, i, 0), (0, (x_gJ (fun j => x_kn lik made (L.getD i 0) (L2.getD j 0)) (k) (j) (u)).1, 0), (0, q, 0)] φ n sl Post) → x_n x_P (d + 1) xc_247 91 [] [(6, 7, 0), (6, v, 0), (6, w, 0), (0, L.length, 0), (0, 0, 0), (0, u, 0), (0, i, 0), (0, 0, 0), (0, j, 0)] φ n sl Post := by
  have hmade := x_pop_made hP
  induction k with
  | zero =>
    intro j hj kk
    have hj : L2.length = j := by omega
    subst hj
    unfold x_gJ at kk
    refine q_load (p2 := 92) rfl rfl rfl rfl ?_
    refine q_load (p2 := 93) rfl rfl rfl rfl ?_
    refine q_icmp_s (p2 := 94) rfl (by decide) (by omega) (by omega) rfl (fun _ => ?_) (fun hb => absurd (show ¬ (L2.length < L.length) by omega) hb)
    exact kk _
  | succ k ih =>
    intro j hj kk
    have hs1 : u >>> j &&& 1 ≤ 1 := Nat.and_le_right
    have hs2 : u >>> j ≤ u := Nat.shiftRight_le _ _
    have hs3 := x_shl24 (j := j) (by omega)
    unfold x_gJ at kk
    refine q_load (p2 := 92) rfl rfl rfl rfl ?_
    refine q_load (p2 := 93) rfl rfl rfl rfl ?_
    refine q_icmp_s (p2 := 94) rfl (by decide) (by omega) (by omega) rfl (fun hb => absurd hb (show ¬ (¬ (j < L.length)) by omega)) (fun _ => ?_)
    refine q_load (p2 := 95) rfl rfl rfl rfl ?_
    refine q_if0_s (p2 := 96) rfl (by decide) (by omega) rfl (fun hb => absurd hb (show ¬ (¬ (0 = 0)) by omega)) (fun _ => ?_)
    refine q_load (p2 := 97) rfl rfl rfl rfl ?_
    refine q_if0_s (p2 := 98) rfl (by decide) (by omega) rfl (fun _ => ?_) (fun hb => absurd (show 0 = 0 by omega) hb)
    refine q_load (p2 := 102) rfl rfl rfl rfl ?_
    refine q_load (p2 := 103) rfl rfl rfl rfl ?_
    refine q_ishr (p2 := 104) rfl (by omega) (by omega) rfl ?_
    refine q_const (p2 := 105) rfl rfl ?_
    refine q_iand (p2 := 106) rfl (by omega) rfl ?_
    refine q_if0_s (p2 := 107) rfl (by decide) (by omega) rfl (fun hb1 => ?_) (fun hb1 => ?_)
    · have hb1 : ¬ (((u >>> j) &&& 1) = 0) := hb1
      refine q_const (p2 := 125) rfl rfl ?_
      refine q_store (p2 := 126) rfl rfl rfl rfl rfl ?_
      refine q_load (p2 := 127) rfl rfl rfl rfl ?_
      refine q_load (p2 := 128) rfl rfl rfl rfl ?_
      refine q_if0_s (p2 := 129) rfl (by decide) (by omega) rfl (fun _ => ?_) (fun hb => absurd (show 0 = 0 by omega) hb)
      refine q_const (p2 := 134) rfl rfl ?_
      refine q_ior (p2 := 135) rfl ⟨by omega, by omega⟩ rfl ?_
      refine q_store (p2 := 136) rfl rfl rfl rfl rfl ?_
      refine q_iinc (z := j + 1) (p2 := 137) rfl rfl (Nat.mod_eq_of_lt (by omega)) rfl rfl ?_
      refine q_goto rfl ?_
      rw [if_neg (fun z => hb1 z.1)] at kk
      have e0 : u ||| 0 = u := Nat.or_zero u
      rw [e0]
      exact ih (j + 1) (by omega) kk
    · have hb1 : ¬ (¬ (((u >>> j) &&& 1) = 0)) := hb1
      refine q_load (p2 := 108) rfl rfl rfl rfl ?_
      refine q_load (p2 := 109) rfl rfl rfl rfl ?_
      refine q_getv (p2 := 110) rfl hV (by decide) hg.2.2.2.2.1 rfl ?_
      refine q_load (p2 := 111) rfl rfl rfl rfl ?_
      refine q_getv (p2 := 112) rfl hV (by decide) hg.2.2.2.2.2.2 rfl ?_
      refine q_load (p2 := 113) rfl rfl rfl rfl ?_
      refine q_aldv (v := (2, (L.getD (i) 0), 0)) (p2 := 114) rfl hc (by omega) (by omega) (hgc (i) (by omega)) rfl ?_
      refine q_load (p2 := 115) rfl rfl rfl rfl ?_
      refine q_getv (p2 := 116) rfl hW (by decide) hgw.2.2.2.2.1 rfl ?_
      refine q_load (p2 := 117) rfl rfl rfl rfl ?_
      refine q_getv (p2 := 118) rfl hW (by decide) hgw.2.2.2.2.2.2 rfl ?_
      refine q_load (p2 := 119) rfl rfl rfl rfl ?_
      refine q_aldv (v := (2, (L2.getD (j) 0), 0)) (p2 := 120) rfl hc2 (by omega) (by omega) (hgc2 (j) (by omega)) rfl ?_
      refine q_callr (xs := [(2, (L2.getD (j) 0), 0), (0, 5, 0), (2, (L.getD (i) 0), 0), (0, 5, 0), (6, 7, 0)]) (p2 := 121) rfl rfl rfl rfl (x_rcv_s 7 hP.1) rfl (e_ca_5 hP hL (hLL i) (hLL2 j)) (Nat.le_refl _) (Nat.le_refl _) rfl ?_
      by_cases hb2 : x_kn lik made (L.getD i 0) (L2.getD j 0)
      · rw [if_pos hb2]
        refine q_if0_s (p2 := 122) rfl (by decide) (by omega) rfl (fun hb => absurd hb (show ¬ (1 = 0) by omega)) (fun _ => ?_)
        refine q_const (p2 := 123) rfl rfl ?_
        refine q_goto rfl ?_
        refine q_store (p2 := 126) rfl rfl rfl rfl rfl ?_
        refine q_load (p2 := 127) rfl rfl rfl rfl ?_
        refine q_load (p2 := 128) rfl rfl rfl rfl ?_
        refine q_if0_s (p2 := 129) rfl (by decide) (by omega) rfl (fun hb => absurd hb (show ¬ (1 = 0) by omega)) (fun _ => ?_)
        refine q_const (p2 := 130) rfl rfl ?_
        refine q_load (p2 := 131) rfl rfl rfl rfl ?_
        refine q_ishl (z := 0) (p2 := 132) rfl (by omega) (by omega) rfl ?_
        refine q_goto rfl ?_
        refine q_ior (p2 := 135) rfl ⟨by omega, by omega⟩ rfl ?_
        refine q_store (p2 := 136) rfl rfl rfl rfl rfl ?_
        refine q_iinc (z := j + 1) (p2 := 137) rfl rfl (Nat.mod_eq_of_lt (by omega)) rfl rfl ?_
        refine q_goto rfl ?_
        refine q_load (p2 := 92) rfl rfl rfl rfl ?_
        refine q_load (p2 := 93) rfl rfl rfl rfl ?_
        refine q_icmp_s (p2 := 94) rfl (by decide) (by omega) (by omega) rfl (fun hb3 => ?_) (fun hb3 => ?_)
        · have hb3 : ¬ (j + 1 < L.length) := hb3
          have hb0 : u >>> j &&& 1 = 0 := by omega
          rw [if_pos ⟨hb0, hb2⟩] at kk
          exact kk _
        · have hb3 : ¬ (¬ (j + 1 < L.length)) := hb3
          refine q_load (p2 := 95) rfl rfl rfl rfl ?_
          refine q_if0_s (p2 := 96) rfl (by decide) (by omega) rfl (fun _ => ?_) (fun hb => absurd (show ¬ (1 = 0) by omega) hb)
          have hb0 : u >>> j &&& 1 = 0 := by omega
          rw [if_pos ⟨hb0, hb2⟩] at kk
          exact kk _
      · rw [if_neg hb2]
        refine q_if0_s (p2 := 122) rfl (by decide) (by omega) rfl (fun _ => ?_) (fun hb => absurd (show 0 = 0 by omega) hb)
        refine q_const (p2 := 125) rfl rfl ?_
        refine q_store (p2 := 126) rfl rfl rfl rfl rfl ?_
        refine q_load (p2 := 127) rfl rfl rfl rfl ?_
        refine q_load (p2 := 128) rfl rfl rfl rfl ?_
        refine q_if0_s (p2 := 129) rfl (by decide) (by omega) rfl (fun _ => ?_) (fun hb => absurd (show 0 = 0 by omega) hb)
        refine q_const (p2 := 134) rfl rfl ?_
        refine q_ior (p2 := 135) rfl ⟨by omega, by omega⟩ rfl ?_
        refine q_store (p2 := 136) rfl rfl rfl rfl rfl ?_
        refine q_iinc (z := j + 1) (p2 := 137) rfl rfl (Nat.mod_eq_of_lt (by omega)) rfl rfl ?_
        refine q_goto rfl ?_
        rw [if_neg (fun z => hb2 z.2)] at kk
        have e0 : u ||| 0 = u := Nat.or_zero u
        rw [e0]
        exact ih (j + 1) (by omega) kk
theorem x_gJ_01 {q : Nat → Prop} [DecidablePred q] (k : Nat) : ∀ (j u : Nat), (x_gJ q k j u).1 ≤ 1 := by
  induction k with
  | zero => intro j u; exact Nat.zero_le 1
  | succ k ih =>
    intro j u
    unfold x_gJ
    split
    · exact Nat.le_refl 1
    · exact ih _ _
theorem e_alike_i {d n sl : Nat} {φ : FH} {A B made sv svm st : Nat} {fP : Nat → XV} (hP : x_pop φ A B made sv svm st fP) {lik : Nat → Nat} (hL : x_row φ A lik) {v w c c2 : Nat} {L L2 : List Nat} {fV fW gc gc2 : Nat → XV} (hV : φ v = some (0, 10, 7, fV)) (hg : x_vg fV 6 0 3 1 5 0 (6, c, 0)) (hc : φ c = some (6, 0, L.length, gc)) (hgc : ∀ i, i < L.length → gc i = (2, L.getD i 0, 0)) (hLL : ∀ i, L.getD i 0 < 2147483648) (hl : L.length ≤ 24) (hW : φ w = some (0, 10, 7, fW)) (hgw : x_vg fW 6 0 3 1 5 0 (6, c2, 0)) (hc2 : φ c2 = some (6, 0, L2.length, gc2)) (hgc2 : ∀ i, i < L2.length → gc2 i = (2, L2.getD i 0, 0)) (hLL2 : ∀ i, L2.getD i 0 < 2147483648) (hl2 : L2.length ≤ 24) (hLe : L.length = L2.length) (k : Nat) : ∀ (i u : Nat) {q1 q2 : XV}, i + k = L.length → u < 16777216 → x_n x_P (d + 1) xc_247 72 [] [(6, 7, 0), (6, v, 0), (6, w, 0), (0, L.length, 0), (0, 0, 0), (0, u, 0), (0, i, 0), q1, q2] φ n sl (x_r φ n sl (0, x_gI (fun i j => x_kn lik made (L.getD i 0) (L2.getD j 0)) L2.length (k) (i) (u), 0)) := by
  induction k with
  | zero =>
    intro i u q1 q2 hi hu
    have hi : L.length = i := by omega
    subst hi
    unfold x_gI
    refine q_load (p2 := 73) rfl rfl rfl rfl ?_
    refine q_load (p2 := 74) rfl rfl rfl rfl ?_
    refine q_icmp_s (p2 := 75) rfl (by decide) (by omega) (by omega) rfl (fun _ => ?_) (fun hb => absurd (show ¬ (L.length < L.length) by omega) hb)
    refine q_const (p2 := 145) rfl rfl ?_
    exact q_retv rfl rfl (⟨rfl, rfl, rfl, rfl, rfl⟩)
  | succ k ih =>
    intro i u q1 q2 hi hu
    refine q_load (p2 := 73) rfl rfl rfl rfl ?_
    refine q_load (p2 := 74) rfl rfl rfl rfl ?_
    refine q_icmp_s (p2 := 75) rfl (by decide) (by omega) (by omega) rfl (fun hb => absurd hb (show ¬ (¬ (i < L.length)) by omega)) (fun _ => ?_)
    refine q_load (p2 := 76) rfl rfl rfl rfl ?_
    refine q_if0_s (p2 := 77) rfl (by decide) (by omega) rfl (fun _ => ?_) (fun hb => absurd (show 0 = 0 by omega) hb)
    refine q_const (p2 := 84) rfl rfl ?_
    refine q_store (p2 := 85) rfl rfl rfl rfl rfl ?_
    refine q_load (p2 := 86) rfl rfl rfl rfl ?_
    refine q_if0_s (p2 := 87) rfl (by decide) (by omega) rfl (fun _ => ?_) (fun hb => absurd (show 0 = 0 by omega) hb)
    refine q_const (p2 := 90) rfl rfl ?_
    refine q_store (p2 := 91) rfl rfl rfl rfl rfl ?_
    refine e_alike_j hP hL hV hg hc hgc hLL hl hW hgw hc2 hgc2 hLL2 hl2 hLe (by omega) hu L2.length 0 (by omega) (fun q9 => ?_)
    have hgl := x_gJ_lt (q := fun j => x_kn lik made (L.getD i 0) (L2.getD j 0)) L2.length 0 u (by omega) hu
    unfold x_gI
    by_cases hf : (x_gJ (fun j => x_kn lik made (L.getD i 0) (L2.getD j 0)) L2.length 0 u).1 = 1
    · rw [if_pos hf, hf]
      refine q_load (p2 := 139) rfl rfl rfl rfl ?_
      refine q_if0_s (p2 := 140) rfl (by decide) (by omega) rfl (fun _ => ?_) (fun hb => absurd (show ¬ (1 = 0) by omega) hb)
      refine q_iinc (z := i + 1) (p2 := 143) rfl rfl (Nat.mod_eq_of_lt (by omega)) rfl rfl ?_
      refine q_goto rfl ?_
      exact ih (i + 1) _ (by omega) hgl
    · rw [if_neg hf]
      have hf0 := x_gJ_01 (q := fun j => x_kn lik made (L.getD i 0) (L2.getD j 0)) L2.length 0 u
      rw [show (x_gJ (fun j => x_kn lik made (L.getD i 0) (L2.getD j 0)) L2.length 0 u).1 = 0 by omega]
      refine q_load (p2 := 139) rfl rfl rfl rfl ?_
      refine q_if0_s (p2 := 140) rfl (by decide) (by omega) rfl (fun hb => absurd hb (show ¬ (¬ (0 = 0)) by omega)) (fun _ => ?_)
      refine q_const (p2 := 141) rfl rfl ?_
      exact q_retv rfl rfl (⟨rfl, rfl, rfl, rfl, rfl⟩)
theorem e_alike_sets {d n sl : Nat} {φ : FH} {A B made sv svm st : Nat} {fP : Nat → XV} (hP : x_pop φ A B made sv svm st fP) {lik : Nat → Nat} (hL : x_row φ A lik) {v w c c2 : Nat} {L L2 : List Nat} {fV fW gc gc2 : Nat → XV} (hV : φ v = some (0, 10, 7, fV)) (hg : x_vg fV 6 0 3 1 5 0 (6, c, 0)) (hc : φ c = some (6, 0, L.length, gc)) (hgc : ∀ i, i < L.length → gc i = (2, L.getD i 0, 0)) (hLL : ∀ i, L.getD i 0 < 2147483648) (hl : L.length ≤ 24) (hW : φ w = some (0, 10, 7, fW)) (hgw : x_vg fW 6 0 3 1 5 0 (6, c2, 0)) (hc2 : φ c2 = some (6, 0, L2.length, gc2)) (hgc2 : ∀ i, i < L2.length → gc2 i = (2, L2.getD i 0, 0)) (hLL2 : ∀ i, L2.getD i 0 < 2147483648) (hl2 : L2.length ≤ 24) : x_f x_P (d + 2) 247 [(6, 7, 0), (6, v, 0), (6, w, 0), (11, 0, 0), (11, 0, 0), (11, 0, 0), (11, 0, 0), (11, 0, 0), (11, 0, 0)] φ n sl (x_r φ n sl (0, if L.length = L2.length then x_gI (fun i j => x_kn lik made (L.getD i 0) (L2.getD j 0)) L2.length (L.length) (0) (0) else 0, 0)) := by
  refine x_f_of rfl ?_
  refine q_load (p2 := 1) rfl rfl rfl rfl ?_
  refine q_getv (p2 := 2) rfl hV (by decide) hg.1 rfl ?_
  refine q_const (p2 := 3) rfl rfl ?_
  refine q_icmp_s (p2 := 4) rfl (by decide) (by omega) (by omega) rfl (fun hb => absurd hb (show ¬ (¬ (6 = 6)) by omega)) (fun _ => ?_)
  refine q_load (p2 := 5) rfl rfl rfl rfl ?_
  refine q_getv (p2 := 6) rfl hW (by decide) hgw.1 rfl ?_
  refine q_const (p2 := 7) rfl rfl ?_
  refine q_icmp_s (p2 := 8) rfl (by decide) (by omega) (by omega) rfl (fun _ => ?_) (fun hb => absurd (show 6 = 6 by omega) hb)
  refine q_load (p2 := 30) rfl rfl rfl rfl ?_
  refine q_getv (p2 := 31) rfl hV (by decide) hg.2.2.2.2.2.2 rfl ?_
  refine q_alen (p2 := 32) rfl hc rfl (by omega) rfl ?_
  refine q_store (p2 := 33) rfl rfl rfl rfl rfl ?_
  refine q_load (p2 := 34) rfl rfl rfl rfl ?_
  refine q_getv (p2 := 35) rfl hV (by decide) hg.2.2.1 rfl ?_
  refine q_if0_s (p2 := 36) rfl (by decide) (by omega) rfl (fun hb => absurd hb (show ¬ (3 = 0) by omega)) (fun _ => ?_)
  refine q_load (p2 := 37) rfl rfl rfl rfl ?_
  refine q_getv (p2 := 38) rfl hV (by decide) hg.2.2.1 rfl ?_
  refine q_const (p2 := 39) rfl rfl ?_
  refine q_icmp_s (p2 := 40) rfl (by decide) (by omega) (by omega) rfl (fun _ => ?_) (fun hb => absurd (show ¬ (3 = 1) by omega) hb)
  refine q_const (p2 := 43) rfl rfl ?_
  refine q_store (p2 := 44) rfl rfl rfl rfl rfl ?_
  refine q_load (p2 := 45) rfl rfl rfl rfl ?_
  refine q_getv (p2 := 46) rfl hV (by decide) hg.2.2.1 rfl ?_
  refine q_load (p2 := 47) rfl rfl rfl rfl ?_
  refine q_getv (p2 := 48) rfl hW (by decide) hgw.2.2.1 rfl ?_
  refine q_icmp_s (p2 := 49) rfl (by decide) (by omega) (by omega) rfl (fun hb => absurd hb (show ¬ (¬ (3 = 3)) by omega)) (fun _ => ?_)
  refine q_load (p2 := 50) rfl rfl rfl rfl ?_
  refine q_load (p2 := 51) rfl rfl rfl rfl ?_
  refine q_getv (p2 := 52) rfl hW (by decide) hgw.2.2.2.2.2.2 rfl ?_
  refine q_alen (p2 := 53) rfl hc2 rfl (by omega) rfl ?_
  refine q_icmp_s (p2 := 54) rfl (by decide) (by omega) (by omega) rfl (fun hb1 => ?_) (fun hb1 => ?_)
  · have hb1 : ¬ (L.length = L2.length) := hb1
    refine q_const (p2 := 67) rfl rfl ?_
    exact q_retv rfl rfl (⟨rfl, by rw [if_neg (by omega)], rfl, rfl, rfl⟩)
  · have hb1 : ¬ (¬ (L.length = L2.length)) := hb1
    refine q_load (p2 := 55) rfl rfl rfl rfl ?_
    refine q_if0_s (p2 := 56) rfl (by decide) (by omega) rfl (fun _ => ?_) (fun hb => absurd (show 0 = 0 by omega) hb)
    refine q_const (p2 := 69) rfl rfl ?_
    refine q_store (p2 := 70) rfl rfl rfl rfl rfl ?_
    refine q_const (p2 := 71) rfl rfl ?_
    refine q_store (p2 := 72) rfl rfl rfl rfl rfl ?_
    rw [if_pos (by omega)]
    exact e_alike_i hP hL hV hg hc hgc hLL hl hW hgw hc2 hgc2 hLL2 hl2 (by omega) L.length 0 0 (by omega) (by decide)
end FPOP13
