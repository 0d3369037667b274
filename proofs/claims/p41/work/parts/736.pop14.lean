section FPOP14
theorem e_alike_s {d n sl : Nat} {φ : FH} {A B made sv svm st : Nat} {fP : Nat → XV} (hP : x_pop φ A B made sv svm st fP) {lik : Nat → Nat} (hL : x_row φ A lik) {v w kA kB ba bb s1 l1 la1 h1 s2 l2 la2 h2 : Nat} {c1 c2 : XV} {fV fW : Nat → XV} (hV : φ v = some (0, 10, 7, fV)) (hg : x_vg fV kA ba s1 l1 la1 h1 c1) (hW : φ w = some (0, 10, 7, fW)) (hgw : x_vg fW kB bb s2 l2 la2 h2 c2) (hA : kA < 7 ∧ kA ≠ 2) (hB : kB < 7 ∧ kB ≠ 2) (ha : ba < 2147483648) (hb : bb < 2147483648) (hn6 : ¬ (kA = 6 ∧ kB = 6)) : x_f x_P (d + 2) 247 [(6, 7, 0), (6, v, 0), (6, w, 0), (11, 0, 0), (11, 0, 0), (11, 0, 0), (11, 0, 0), (11, 0, 0), (11, 0, 0)] φ n sl (x_r φ n sl (0, if (kA = 0 ∧ kB = 0) ∨ x_ca lik made kA ba kB bb then 1 else 0, 0)) := by
  refine x_f_of rfl ?_
  refine q_load (p2 := 1) rfl rfl rfl rfl ?_
  refine q_getv (p2 := 2) rfl hV (by decide) hg.1 rfl ?_
  refine q_const (p2 := 3) rfl rfl ?_
  refine q_icmp_s (p2 := 4) rfl (by decide) (by omega) (by omega) rfl (fun hb1 => ?_) (fun hb1 => ?_)
  · have hb1 : ¬ (kA = 6) := hb1
    refine q_load (p2 := 9) rfl rfl rfl rfl ?_
    refine q_getv (p2 := 10) rfl hV (by decide) hg.1 rfl ?_
    refine q_if0_s (p2 := 11) rfl (by decide) (by omega) rfl (fun hb2 => ?_) (fun hb2 => ?_)
    · have hb2 : ¬ (kA = 0) := hb2
      refine q_load (p2 := 15) rfl rfl rfl rfl ?_
      refine q_load (p2 := 16) rfl rfl rfl rfl ?_
      refine q_getv (p2 := 17) rfl hV (by decide) hg.1 rfl ?_
      refine q_load (p2 := 18) rfl rfl rfl rfl ?_
      refine q_getv (p2 := 19) rfl hV (by decide) hg.2.1 rfl ?_
      refine q_load (p2 := 20) rfl rfl rfl rfl ?_
      refine q_getv (p2 := 21) rfl hW (by decide) hgw.1 rfl ?_
      refine q_load (p2 := 22) rfl rfl rfl rfl ?_
      refine q_getv (p2 := 23) rfl hW (by decide) hgw.2.1 rfl ?_
      refine q_callr (xs := [(2, bb, 0), (0, kB, 0), (2, ba, 0), (0, kA, 0), (6, 7, 0)]) (p2 := 24) rfl rfl rfl rfl (x_rcv_s 7 hP.1) rfl (e_cellsAlike hP hL ha hb hA hB) (Nat.le_refl _) (Nat.le_refl _) rfl ?_
      by_cases hb3 : x_ca lik made kA ba kB bb
      · rw [if_pos hb3]
        refine q_if0_s (p2 := 25) rfl (by decide) (by omega) rfl (fun hb => absurd hb (show ¬ (1 = 0) by omega)) (fun _ => ?_)
        refine q_const (p2 := 26) rfl rfl ?_
        refine q_goto rfl ?_
        exact q_retv rfl rfl (⟨rfl, by rw [if_pos (Or.inr hb3)], rfl, rfl, rfl⟩)
      · rw [if_neg hb3]
        refine q_if0_s (p2 := 25) rfl (by decide) (by omega) rfl (fun _ => ?_) (fun hb => absurd (show 0 = 0 by omega) hb)
        refine q_const (p2 := 28) rfl rfl ?_
        exact q_retv rfl rfl (⟨rfl, by rw [if_neg (fun z => z.elim (fun y => by omega) hb3)], rfl, rfl, rfl⟩)
    · have hb2 : ¬ (¬ (kA = 0)) := hb2
      refine q_load (p2 := 12) rfl rfl rfl rfl ?_
      refine q_getv (p2 := 13) rfl hW (by decide) hgw.1 rfl ?_
      refine q_if0_s (p2 := 14) rfl (by decide) (by omega) rfl (fun hb4 => ?_) (fun hb4 => ?_)
      · have hb4 : kB = 0 := hb4
        refine q_const (p2 := 26) rfl rfl ?_
        refine q_goto rfl ?_
        exact q_retv rfl rfl (⟨rfl, by rw [if_pos (Or.inl (by omega))], rfl, rfl, rfl⟩)
      · have hb4 : ¬ (kB = 0) := hb4
        refine q_load (p2 := 15) rfl rfl rfl rfl ?_
        refine q_load (p2 := 16) rfl rfl rfl rfl ?_
        refine q_getv (p2 := 17) rfl hV (by decide) hg.1 rfl ?_
        refine q_load (p2 := 18) rfl rfl rfl rfl ?_
        refine q_getv (p2 := 19) rfl hV (by decide) hg.2.1 rfl ?_
        refine q_load (p2 := 20) rfl rfl rfl rfl ?_
        refine q_getv (p2 := 21) rfl hW (by decide) hgw.1 rfl ?_
        refine q_load (p2 := 22) rfl rfl rfl rfl ?_
        refine q_getv (p2 := 23) rfl hW (by decide) hgw.2.1 rfl ?_
        refine q_callr (xs := [(2, bb, 0), (0, kB, 0), (2, ba, 0), (0, kA, 0), (6, 7, 0)]) (p2 := 24) rfl rfl rfl rfl (x_rcv_s 7 hP.1) rfl (e_cellsAlike hP hL ha hb hA hB) (Nat.le_refl _) (Nat.le_refl _) rfl ?_
        by_cases hb5 : x_ca lik made kA ba kB bb
        · rw [if_pos hb5]
          refine q_if0_s (p2 := 25) rfl (by decide) (by omega) rfl (fun hb => absurd hb (show ¬ (1 = 0) by omega)) (fun _ => ?_)
          refine q_const (p2 := 26) rfl rfl ?_
          refine q_goto rfl ?_
          exact q_retv rfl rfl (⟨rfl, by rw [if_pos (Or.inr hb5)], rfl, rfl, rfl⟩)
        · rw [if_neg hb5]
          refine q_if0_s (p2 := 25) rfl (by decide) (by omega) rfl (fun _ => ?_) (fun hb => absurd (show 0 = 0 by omega) hb)
          refine q_const (p2 := 28) rfl rfl ?_
          exact q_retv rfl rfl (⟨rfl, by rw [if_neg (fun z => z.elim (fun y => by omega) hb5)], rfl, rfl, rfl⟩)
  · have hb1 : ¬ (¬ (kA = 6)) := hb1
    refine q_load (p2 := 5) rfl rfl rfl rfl ?_
    refine q_getv (p2 := 6) rfl hW (by decide) hgw.1 rfl ?_
    refine q_const (p2 := 7) rfl rfl ?_
    refine q_icmp_s (p2 := 8) rfl (by decide) (by omega) (by omega) rfl (fun hb6 => ?_) (fun hb6 => ?_)
    · have hb6 : kB = 6 := hb6
      exact absurd ⟨by omega, by omega⟩ hn6
    · have hb6 : ¬ (kB = 6) := hb6
      refine q_load (p2 := 9) rfl rfl rfl rfl ?_
      refine q_getv (p2 := 10) rfl hV (by decide) hg.1 rfl ?_
      refine q_if0_s (p2 := 11) rfl (by decide) (by omega) rfl (fun hb7 => ?_) (fun hb7 => ?_)
      · have hb7 : ¬ (kA = 0) := hb7
        refine q_load (p2 := 15) rfl rfl rfl rfl ?_
        refine q_load (p2 := 16) rfl rfl rfl rfl ?_
        refine q_getv (p2 := 17) rfl hV (by decide) hg.1 rfl ?_
        refine q_load (p2 := 18) rfl rfl rfl rfl ?_
        refine q_getv (p2 := 19) rfl hV (by decide) hg.2.1 rfl ?_
        refine q_load (p2 := 20) rfl rfl rfl rfl ?_
        refine q_getv (p2 := 21) rfl hW (by decide) hgw.1 rfl ?_
        refine q_load (p2 := 22) rfl rfl rfl rfl ?_
        refine q_getv (p2 := 23) rfl hW (by decide) hgw.2.1 rfl ?_
        refine q_callr (xs := [(2, bb, 0), (0, kB, 0), (2, ba, 0), (0, kA, 0), (6, 7, 0)]) (p2 := 24) rfl rfl rfl rfl (x_rcv_s 7 hP.1) rfl (e_cellsAlike hP hL ha hb hA hB) (Nat.le_refl _) (Nat.le_refl _) rfl ?_
        by_cases hb8 : x_ca lik made kA ba kB bb
        · rw [if_pos hb8]
          refine q_if0_s (p2 := 25) rfl (by decide) (by omega) rfl (fun hb => absurd hb (show ¬ (1 = 0) by omega)) (fun _ => ?_)
          refine q_const (p2 := 26) rfl rfl ?_
          refine q_goto rfl ?_
          exact q_retv rfl rfl (⟨rfl, by rw [if_pos (Or.inr hb8)], rfl, rfl, rfl⟩)
        · rw [if_neg hb8]
          refine q_if0_s (p2 := 25) rfl (by decide) (by omega) rfl (fun _ => ?_) (fun hb => absurd (show 0 = 0 by omega) hb)
          refine q_const (p2 := 28) rfl rfl ?_
          exact q_retv rfl rfl (⟨rfl, by rw [if_neg (fun z => z.elim (fun y => by omega) hb8)], rfl, rfl, rfl⟩)
      · have hb7 : ¬ (¬ (kA = 0)) := hb7
        refine q_load (p2 := 12) rfl rfl rfl rfl ?_
        refine q_getv (p2 := 13) rfl hW (by decide) hgw.1 rfl ?_
        refine q_if0_s (p2 := 14) rfl (by decide) (by omega) rfl (fun hb9 => ?_) (fun hb9 => ?_)
        · have hb9 : kB = 0 := hb9
          refine q_const (p2 := 26) rfl rfl ?_
          refine q_goto rfl ?_
          exact q_retv rfl rfl (⟨rfl, by rw [if_pos (Or.inl (by omega))], rfl, rfl, rfl⟩)
        · have hb9 : ¬ (kB = 0) := hb9
          refine q_load (p2 := 15) rfl rfl rfl rfl ?_
          refine q_load (p2 := 16) rfl rfl rfl rfl ?_
          refine q_getv (p2 := 17) rfl hV (by decide) hg.1 rfl ?_
          refine q_load (p2 := 18) rfl rfl rfl rfl ?_
          refine q_getv (p2 := 19) rfl hV (by decide) hg.2.1 rfl ?_
          refine q_load (p2 := 20) rfl rfl rfl rfl ?_
          refine q_getv (p2 := 21) rfl hW (by decide) hgw.1 rfl ?_
          refine q_load (p2 := 22) rfl rfl rfl rfl ?_
          refine q_getv (p2 := 23) rfl hW (by decide) hgw.2.1 rfl ?_
          refine q_callr (xs := [(2, bb, 0), (0, kB, 0), (2, ba, 0), (0, kA, 0), (6, 7, 0)]) (p2 := 24) rfl rfl rfl rfl (x_rcv_s 7 hP.1) rfl (e_cellsAlike hP hL ha hb hA hB) (Nat.le_refl _) (Nat.le_refl _) rfl ?_
          by_cases hb10 : x_ca lik made kA ba kB bb
          · rw [if_pos hb10]
            refine q_if0_s (p2 := 25) rfl (by decide) (by omega) rfl (fun hb => absurd hb (show ¬ (1 = 0) by omega)) (fun _ => ?_)
            refine q_const (p2 := 26) rfl rfl ?_
            refine q_goto rfl ?_
            exact q_retv rfl rfl (⟨rfl, by rw [if_pos (Or.inr hb10)], rfl, rfl, rfl⟩)
          · rw [if_neg hb10]
            refine q_if0_s (p2 := 25) rfl (by decide) (by omega) rfl (fun _ => ?_) (fun hb => absurd (show 0 = 0 by omega) hb)
            refine q_const (p2 := 28) rfl rfl ?_
            exact q_retv rfl rfl (⟨rfl, by rw [if_neg (fun z => z.elim (fun y => by omega) hb10)], rfl, rfl, rfl⟩)
abbrev x_lkw (lik : Nat → Nat) (made : Nat) (m m2 : MV) : Prop :=
  ((m.1 = 6 ∧ m2.1 = 6) ∧ (m.2.2.2.2.length = m2.2.2.2.2.length ∧ x_gI (fun i j => x_kn lik made (m.2.2.2.2.getD i 0) (m2.2.2.2.2.getD j 0)) m2.2.2.2.2.length m.2.2.2.2.length 0 0 = 1)) ∨ (¬ (m.1 = 6 ∧ m2.1 = 6) ∧ ((m.1 = 0 ∧ m2.1 = 0) ∨ x_ca lik made m.1 m.2.1 m2.1 m2.2.1))
def x_lkb (lik : Nat → Nat) (made : Nat) (m m2 : MV) : Bool := decide (x_lkw lik made m m2)
abbrev x_lk (lik : Nat → Nat) (made : Nat) (m m2 : MV) : Prop := x_lkb lik made m m2 = true
theorem x_gI_01 {q : Nat → Nat → Prop} [∀ i j, Decidable (q i j)] {len : Nat} (k : Nat) : ∀ (i u : Nat), x_gI q len k i u ≤ 1 := by
  induction k with
  | zero => intro i u; exact Nat.le_refl 1
  | succ k ih =>
    intro i u
    unfold x_gI
    split
    · exact ih _ _
    · exact Nat.zero_le 1
/-- a Value of the model: its cell's fields -/
theorem x_mv_g {φ : FH} {v : Nat} {m : MV} (h : x_mv φ v m) : ∃ f s l la ho c, φ v = some (0, 10, 7, f) ∧ x_vg f m.1 m.2.1 s l la ho c ∧ m.1 < 7 := by
  rcases h.2.2.2 with ⟨a1, -, -, -, f, a5, a6⟩ | ⟨a1, a2, -, -, -, f, c, g, -, a7, a8, -⟩
  · exact ⟨f, _, _, _, _, _, a5, a6, by omega⟩
  · exact ⟨f, _, _, _, _, _, a7, by rw [a1, a2]; exact a8, by omega⟩
/-- what the population may hold -/
def x_pv2 (m : MV) : Prop := x_pv m ∧ m.1 ≠ 2
theorem e_alike_p {d n sl : Nat} {φ : FH} {A B made sv svm st : Nat} {fP : Nat → XV} (hP : x_pop φ A B made sv svm st fP) {lik : Nat → Nat} (hL : x_row φ A lik) {v w : Nat} {m m2 : MV} (hv : x_mv φ v m) (hw : x_mv φ w m2) (p1 : x_pv2 m) (p2 : x_pv2 m2) : x_f x_P (d + 2) 247 [(6, 7, 0), (6, v, 0), (6, w, 0), (11, 0, 0), (11, 0, 0), (11, 0, 0), (11, 0, 0), (11, 0, 0), (11, 0, 0)] φ n sl (x_r φ n sl (0, if x_lkw lik made m m2 then 1 else 0, 0)) := by
  by_cases h6 : m.1 = 6 ∧ m2.1 = 6
  · obtain ⟨-, -, b3, b4⟩ := hv
    obtain ⟨-, -, d3, d4⟩ := hw
    rcases b4 with ⟨a1, -⟩ | ⟨a1, a2, a3, a4, a5, f, c, g, a6, a7, a8, a9, a10⟩
    · omega
    rcases d4 with ⟨e1, -⟩ | ⟨e1, e2, e3, e4, e5, f2, c2, g2, e6, e7, e8, e9, e10⟩
    · omega
    obtain ⟨q1, q2⟩ := p1.1 a1
    obtain ⟨q3, q4⟩ := p2.1 e1
    rw [q1, q2] at a8
    rw [q3, q4] at e8
    refine x_f_mono (e_alike_sets hP hL a7 a8 a9 a10 b3 a5 e7 e8 e9 e10 d3 e5) (fun u w φ2 n2 sl2 q => ?_)
    obtain ⟨r1, r2, r3⟩ := q
    refine ⟨r1, r2.trans ?_, r3⟩
    have h01 := x_gI_01 (q := fun i j => x_kn lik made (m.2.2.2.2.getD i 0) (m2.2.2.2.2.getD j 0)) (len := m2.2.2.2.2.length) m.2.2.2.2.length 0 0
    by_cases hl : m.2.2.2.2.length = m2.2.2.2.2.length
    · rw [if_pos hl]
      by_cases hg : x_gI (fun i j => x_kn lik made (m.2.2.2.2.getD i 0) (m2.2.2.2.2.getD j 0)) m2.2.2.2.2.length m.2.2.2.2.length 0 0 = 1
      · rw [if_pos (Or.inl ⟨h6, hl, hg⟩), hg]
      · rw [if_neg (fun z => Or.elim z (fun y => hg y.2.2) (fun y => y.1 h6)), show x_gI (fun i j => x_kn lik made (m.2.2.2.2.getD i 0) (m2.2.2.2.2.getD j 0)) m2.2.2.2.2.length m.2.2.2.2.length 0 0 = 0 by omega]
    · rw [if_neg hl, if_neg (fun z => Or.elim z (fun y => hl y.2.1) (fun y => y.1 h6))]
  · obtain ⟨f, _, _, _, _, _, b1, b2, b3⟩ := x_mv_g hv
    obtain ⟨f2, _, _, _, _, _, c1, c2, c3⟩ := x_mv_g hw
    refine x_r_if (e_alike_s hP hL b1 b2 c1 c2 ⟨b3, p1.2⟩ ⟨c3, p2.2⟩ hv.2.1 hw.2.1 h6) ⟨fun z => Or.inr ⟨h6, z⟩, fun z => Or.elim z (fun y => absurd y.1 h6) (fun y => y.2)⟩
theorem e_alike {d n sl : Nat} {φ : FH} {A B made sv svm st : Nat} {fP : Nat → XV} (hP : x_pop φ A B made sv svm st fP) {lik : Nat → Nat} (hL : x_row φ A lik) {v w : Nat} {m m2 : MV} (hv : x_mv φ v m) (hw : x_mv φ w m2) (p1 : x_pv2 m) (p2 : x_pv2 m2) : x_f x_P (d + 2) 247 [(6, 7, 0), (6, v, 0), (6, w, 0), (11, 0, 0), (11, 0, 0), (11, 0, 0), (11, 0, 0), (11, 0, 0), (11, 0, 0)] φ n sl (x_r φ n sl (0, if x_lk lik made m m2 then 1 else 0, 0)) :=
  x_r_if (e_alike_p hP hL hv hw p1 p2) ⟨fun z => decide_eq_true z, fun z => of_decide_eq_true z⟩
/-- alike in all explicit attributes -/
abbrev x_hA (lik : Nat → Nat) (made : Nat) (hm : Nat → MV) (x y : Nat) : Prop := x_lk lik made (hm (x * 40 + 0)) (hm (y * 40 + 0)) ∧ x_lk lik made (hm (x * 40 + 1)) (hm (y * 40 + 1)) ∧ x_lk lik made (hm (x * 40 + 3)) (hm (y * 40 + 3))
theorem e_holdsAlike {d n sl : Nat} {φ : FH} {A B made sv svm st : Nat} {fP : Nat → XV} (hP : x_pop φ A B made sv svm st fP) {lik : Nat → Nat} (hL : x_row φ A lik) {held : Nat → Nat} (hH : x_held φ 227 held) {hm : Nat → MV} (hM : ∀ i, i < 1600 → x_mv φ (held i) (hm i)) (hpv : ∀ i, x_pv2 (hm i)) (hSc : x_sch φ) {x y : Nat} (hx : x < 40) (hy : y < 40) : x_f x_P (d + 3) 178 [(6, 7, 0), (0, x, 0), (0, y, 0), (11, 0, 0)] φ n sl (x_r φ n sl (0, if x_hA lik made hm x y then 1 else 0, 0)) := by
  obtain ⟨fS, hs237⟩ := hSc.1
  refine x_f_of rfl ?_
  refine q_const (p2 := 1) rfl rfl ?_
  refine q_store (p2 := 2) rfl rfl rfl rfl rfl ?_
  refine q_load (p2 := 3) rfl rfl rfl rfl ?_
  refine q_load (p2 := 4) rfl rfl rfl rfl ?_
  refine q_getv (p2 := 5) rfl hP.1 (by decide) hP.2.1 rfl ?_
  refine q_getv (p2 := 6) rfl hs237.1 (by decide) hs237.2.2.2.1 rfl ?_
  refine q_const (p2 := 7) rfl rfl ?_
  refine q_aldv (v := (0, 5, 0)) (p2 := 8) rfl (x_sc_246 hSc) (by omega) (by omega) rfl rfl ?_
  refine q_icmp_s (p2 := 9) rfl (by decide) (by omega) (by omega) rfl (fun hb => absurd hb (show ¬ (¬ (0 < 5)) by omega)) (fun _ => ?_)
  refine q_load (p2 := 10) rfl rfl rfl rfl ?_
  refine q_getv (p2 := 11) rfl hP.1 (by decide) hP.2.1 rfl ?_
  refine q_load (p2 := 12) rfl rfl rfl rfl ?_
  refine q_callr (xs := [(0, 0, 0), (6, 237, 0)]) (p2 := 13) rfl rfl rfl rfl (x_rcv_s 237 hs237.1) rfl (e_isExplicit_0 hSc) (Nat.le_refl _) (Nat.le_refl _) rfl ?_
  refine q_if0_s (p2 := 14) rfl (by decide) (by omega) rfl (fun hb => absurd hb (show ¬ (1 = 0) by omega)) (fun _ => ?_)
  refine q_load (p2 := 15) rfl rfl rfl rfl ?_
  refine q_load (p2 := 16) rfl rfl rfl rfl ?_
  refine q_load (p2 := 17) rfl rfl rfl rfl ?_
  refine q_load (p2 := 18) rfl rfl rfl rfl ?_
  refine q_callr (xs := [(0, 0, 0), (0, x, 0), (6, 7, 0)]) (p2 := 19) rfl rfl rfl rfl (x_rcv_s 7 hP.1) rfl (e_heldByP hP hH (by omega) (by omega)) (Nat.le_refl _) (Nat.le_refl _) rfl ?_
  refine q_load (p2 := 20) rfl rfl rfl rfl ?_
  refine q_load (p2 := 21) rfl rfl rfl rfl ?_
  refine q_load (p2 := 22) rfl rfl rfl rfl ?_
  refine q_callr (xs := [(0, 0, 0), (0, y, 0), (6, 7, 0)]) (p2 := 23) rfl rfl rfl rfl (x_rcv_s 7 hP.1) rfl (e_heldByP hP hH (by omega) (by omega)) (Nat.le_refl _) (Nat.le_refl _) rfl ?_
  refine q_callr (xs := [(6, (held (y * 40 + 0)), 0), (6, (held (x * 40 + 0)), 0), (6, 7, 0)]) (p2 := 24) rfl rfl rfl rfl (x_rcv_s 7 hP.1) rfl (e_alike hP hL (hM (x * 40 + 0) (by omega)) (hM (y * 40 + 0) (by omega)) (hpv _) (hpv _)) (Nat.le_refl _) (Nat.le_refl _) rfl ?_
  by_cases hb1 : x_lk lik made (hm (x * 40 + 0)) (hm (y * 40 + 0))
  · rw [if_pos hb1]
    refine q_if0_s (p2 := 25) rfl (by decide) (by omega) rfl (fun _ => ?_) (fun hb => absurd (show ¬ (1 = 0) by omega) hb)
    refine q_iinc (z := 1) (p2 := 28) rfl rfl (Nat.mod_eq_of_lt (by omega)) rfl rfl ?_
    refine q_goto rfl ?_
    refine q_load (p2 := 3) rfl rfl rfl rfl ?_
    refine q_load (p2 := 4) rfl rfl rfl rfl ?_
    refine q_getv (p2 := 5) rfl hP.1 (by decide) hP.2.1 rfl ?_
    refine q_getv (p2 := 6) rfl hs237.1 (by decide) hs237.2.2.2.1 rfl ?_
    refine q_const (p2 := 7) rfl rfl ?_
    refine q_aldv (v := (0, 5, 0)) (p2 := 8) rfl (x_sc_246 hSc) (by omega) (by omega) rfl rfl ?_
    refine q_icmp_s (p2 := 9) rfl (by decide) (by omega) (by omega) rfl (fun hb => absurd hb (show ¬ (¬ (1 < 5)) by omega)) (fun _ => ?_)
    refine q_load (p2 := 10) rfl rfl rfl rfl ?_
    refine q_getv (p2 := 11) rfl hP.1 (by decide) hP.2.1 rfl ?_
    refine q_load (p2 := 12) rfl rfl rfl rfl ?_
    refine q_callr (xs := [(0, 1, 0), (6, 237, 0)]) (p2 := 13) rfl rfl rfl rfl (x_rcv_s 237 hs237.1) rfl (e_isExplicit_1 hSc) (Nat.le_refl _) (Nat.le_refl _) rfl ?_
    refine q_if0_s (p2 := 14) rfl (by decide) (by omega) rfl (fun hb => absurd hb (show ¬ (1 = 0) by omega)) (fun _ => ?_)
    refine q_load (p2 := 15) rfl rfl rfl rfl ?_
    refine q_load (p2 := 16) rfl rfl rfl rfl ?_
    refine q_load (p2 := 17) rfl rfl rfl rfl ?_
    refine q_load (p2 := 18) rfl rfl rfl rfl ?_
    refine q_callr (xs := [(0, 1, 0), (0, x, 0), (6, 7, 0)]) (p2 := 19) rfl rfl rfl rfl (x_rcv_s 7 hP.1) rfl (e_heldByP hP hH (by omega) (by omega)) (Nat.le_refl _) (Nat.le_refl _) rfl ?_
    refine q_load (p2 := 20) rfl rfl rfl rfl ?_
    refine q_load (p2 := 21) rfl rfl rfl rfl ?_
    refine q_load (p2 := 22) rfl rfl rfl rfl ?_
    refine q_callr (xs := [(0, 1, 0), (0, y, 0), (6, 7, 0)]) (p2 := 23) rfl rfl rfl rfl (x_rcv_s 7 hP.1) rfl (e_heldByP hP hH (by omega) (by omega)) (Nat.le_refl _) (Nat.le_refl _) rfl ?_
    refine q_callr (xs := [(6, (held (y * 40 + 1)), 0), (6, (held (x * 40 + 1)), 0), (6, 7, 0)]) (p2 := 24) rfl rfl rfl rfl (x_rcv_s 7 hP.1) rfl (e_alike hP hL (hM (x * 40 + 1) (by omega)) (hM (y * 40 + 1) (by omega)) (hpv _) (hpv _)) (Nat.le_refl _) (Nat.le_refl _) rfl ?_
    by_cases hb2 : x_lk lik made (hm (x * 40 + 1)) (hm (y * 40 + 1))
    · rw [if_pos hb2]
      refine q_if0_s (p2 := 25) rfl (by decide) (by omega) rfl (fun _ => ?_) (fun hb => absurd (show ¬ (1 = 0) by omega) hb)
      refine q_iinc (z := 2) (p2 := 28) rfl rfl (Nat.mod_eq_of_lt (by omega)) rfl rfl ?_
      refine q_goto rfl ?_
      refine q_load (p2 := 3) rfl rfl rfl rfl ?_
      refine q_load (p2 := 4) rfl rfl rfl rfl ?_
      refine q_getv (p2 := 5) rfl hP.1 (by decide) hP.2.1 rfl ?_
      refine q_getv (p2 := 6) rfl hs237.1 (by decide) hs237.2.2.2.1 rfl ?_
      refine q_const (p2 := 7) rfl rfl ?_
      refine q_aldv (v := (0, 5, 0)) (p2 := 8) rfl (x_sc_246 hSc) (by omega) (by omega) rfl rfl ?_
      refine q_icmp_s (p2 := 9) rfl (by decide) (by omega) (by omega) rfl (fun hb => absurd hb (show ¬ (¬ (2 < 5)) by omega)) (fun _ => ?_)
      refine q_load (p2 := 10) rfl rfl rfl rfl ?_
      refine q_getv (p2 := 11) rfl hP.1 (by decide) hP.2.1 rfl ?_
      refine q_load (p2 := 12) rfl rfl rfl rfl ?_
      refine q_callr (xs := [(0, 2, 0), (6, 237, 0)]) (p2 := 13) rfl rfl rfl rfl (x_rcv_s 237 hs237.1) rfl (e_isExplicit_2 hSc) (Nat.le_refl _) (Nat.le_refl _) rfl ?_
      refine q_if0_s (p2 := 14) rfl (by decide) (by omega) rfl (fun _ => ?_) (fun hb => absurd (show 0 = 0 by omega) hb)
      refine q_iinc (z := 3) (p2 := 28) rfl rfl (Nat.mod_eq_of_lt (by omega)) rfl rfl ?_
      refine q_goto rfl ?_
      refine q_load (p2 := 3) rfl rfl rfl rfl ?_
      refine q_load (p2 := 4) rfl rfl rfl rfl ?_
      refine q_getv (p2 := 5) rfl hP.1 (by decide) hP.2.1 rfl ?_
      refine q_getv (p2 := 6) rfl hs237.1 (by decide) hs237.2.2.2.1 rfl ?_
      refine q_const (p2 := 7) rfl rfl ?_
      refine q_aldv (v := (0, 5, 0)) (p2 := 8) rfl (x_sc_246 hSc) (by omega) (by omega) rfl rfl ?_
      refine q_icmp_s (p2 := 9) rfl (by decide) (by omega) (by omega) rfl (fun hb => absurd hb (show ¬ (¬ (3 < 5)) by omega)) (fun _ => ?_)
      refine q_load (p2 := 10) rfl rfl rfl rfl ?_
      refine q_getv (p2 := 11) rfl hP.1 (by decide) hP.2.1 rfl ?_
      refine q_load (p2 := 12) rfl rfl rfl rfl ?_
      refine q_callr (xs := [(0, 3, 0), (6, 237, 0)]) (p2 := 13) rfl rfl rfl rfl (x_rcv_s 237 hs237.1) rfl (e_isExplicit_3 hSc) (Nat.le_refl _) (Nat.le_refl _) rfl ?_
      refine q_if0_s (p2 := 14) rfl (by decide) (by omega) rfl (fun hb => absurd hb (show ¬ (1 = 0) by omega)) (fun _ => ?_)
      refine q_load (p2 := 15) rfl rfl rfl rfl ?_
      refine q_load (p2 := 16) rfl rfl rfl rfl ?_
      refine q_load (p2 := 17) rfl rfl rfl rfl ?_
      refine q_load (p2 := 18) rfl rfl rfl rfl ?_
      refine q_callr (xs := [(0, 3, 0), (0, x, 0), (6, 7, 0)]) (p2 := 19) rfl rfl rfl rfl (x_rcv_s 7 hP.1) rfl (e_heldByP hP hH (by omega) (by omega)) (Nat.le_refl _) (Nat.le_refl _) rfl ?_
      refine q_load (p2 := 20) rfl rfl rfl rfl ?_
      refine q_load (p2 := 21) rfl rfl rfl rfl ?_
      refine q_load (p2 := 22) rfl rfl rfl rfl ?_
      refine q_callr (xs := [(0, 3, 0), (0, y, 0), (6, 7, 0)]) (p2 := 23) rfl rfl rfl rfl (x_rcv_s 7 hP.1) rfl (e_heldByP hP hH (by omega) (by omega)) (Nat.le_refl _) (Nat.le_refl _) rfl ?_
      refine q_callr (xs := [(6, (held (y * 40 + 3)), 0), (6, (held (x * 40 + 3)), 0), (6, 7, 0)]) (p2 := 24) rfl rfl rfl rfl (x_rcv_s 7 hP.1) rfl (e_alike hP hL (hM (x * 40 + 3) (by omega)) (hM (y * 40 + 3) (by omega)) (hpv _) (hpv _)) (Nat.le_refl _) (Nat.le_refl _) rfl ?_
      by_cases hb3 : x_lk lik made (hm (x * 40 + 3)) (hm (y * 40 + 3))
      · rw [if_pos hb3]
        refine q_if0_s (p2 := 25) rfl (by decide) (by omega) rfl (fun _ => ?_) (fun hb => absurd (show ¬ (1 = 0) by omega) hb)
        refine q_iinc (z := 4) (p2 := 28) rfl rfl (Nat.mod_eq_of_lt (by omega)) rfl rfl ?_
        refine q_goto rfl ?_
        refine q_load (p2 := 3) rfl rfl rfl rfl ?_
        refine q_load (p2 := 4) rfl rfl rfl rfl ?_
        refine q_getv (p2 := 5) rfl hP.1 (by decide) hP.2.1 rfl ?_
        refine q_getv (p2 := 6) rfl hs237.1 (by decide) hs237.2.2.2.1 rfl ?_
        refine q_const (p2 := 7) rfl rfl ?_
        refine q_aldv (v := (0, 5, 0)) (p2 := 8) rfl (x_sc_246 hSc) (by omega) (by omega) rfl rfl ?_
        refine q_icmp_s (p2 := 9) rfl (by decide) (by omega) (by omega) rfl (fun hb => absurd hb (show ¬ (¬ (4 < 5)) by omega)) (fun _ => ?_)
        refine q_load (p2 := 10) rfl rfl rfl rfl ?_
        refine q_getv (p2 := 11) rfl hP.1 (by decide) hP.2.1 rfl ?_
        refine q_load (p2 := 12) rfl rfl rfl rfl ?_
        refine q_callr (xs := [(0, 4, 0), (6, 237, 0)]) (p2 := 13) rfl rfl rfl rfl (x_rcv_s 237 hs237.1) rfl (e_isExplicit_4 hSc) (Nat.le_refl _) (Nat.le_refl _) rfl ?_
        refine q_if0_s (p2 := 14) rfl (by decide) (by omega) rfl (fun _ => ?_) (fun hb => absurd (show 0 = 0 by omega) hb)
        refine q_iinc (z := 5) (p2 := 28) rfl rfl (Nat.mod_eq_of_lt (by omega)) rfl rfl ?_
        refine q_goto rfl ?_
        refine q_load (p2 := 3) rfl rfl rfl rfl ?_
        refine q_load (p2 := 4) rfl rfl rfl rfl ?_
        refine q_getv (p2 := 5) rfl hP.1 (by decide) hP.2.1 rfl ?_
        refine q_getv (p2 := 6) rfl hs237.1 (by decide) hs237.2.2.2.1 rfl ?_
        refine q_const (p2 := 7) rfl rfl ?_
        refine q_aldv (v := (0, 5, 0)) (p2 := 8) rfl (x_sc_246 hSc) (by omega) (by omega) rfl rfl ?_
        refine q_icmp_s (p2 := 9) rfl (by decide) (by omega) (by omega) rfl (fun _ => ?_) (fun hb => absurd (show ¬ (5 < 5) by omega) hb)
        refine q_const (p2 := 30) rfl rfl ?_
        exact q_retv rfl rfl (⟨rfl, by rw [if_pos ⟨hb1, hb2, hb3⟩], rfl, rfl, rfl⟩)
      · rw [if_neg hb3]
        refine q_if0_s (p2 := 25) rfl (by decide) (by omega) rfl (fun hb => absurd hb (show ¬ (¬ (0 = 0)) by omega)) (fun _ => ?_)
        refine q_const (p2 := 26) rfl rfl ?_
        exact q_retv rfl rfl (⟨rfl, by rw [if_neg (fun z => hb3 z.2.2)], rfl, rfl, rfl⟩)
    · rw [if_neg hb2]
      refine q_if0_s (p2 := 25) rfl (by decide) (by omega) rfl (fun hb => absurd hb (show ¬ (¬ (0 = 0)) by omega)) (fun _ => ?_)
      refine q_const (p2 := 26) rfl rfl ?_
      exact q_retv rfl rfl (⟨rfl, by rw [if_neg (fun z => hb2 z.2.1)], rfl, rfl, rfl⟩)
  · rw [if_neg hb1]
    refine q_if0_s (p2 := 25) rfl (by decide) (by omega) rfl (fun hb => absurd hb (show ¬ (¬ (0 = 0)) by omega)) (fun _ => ?_)
    refine q_const (p2 := 26) rfl rfl ?_
    exact q_retv rfl rfl (⟨rfl, by rw [if_neg (fun z => hb1 z.1)], rfl, rfl, rfl⟩)
end FPOP14
