section FPOP4
/-- a value of the model: kind, bits, sort, lane, places -/
abbrev MV : Type := Nat × Nat × Nat × Nat × List Nat
def x_mvS (φ : FH) (v : Nat) (m : MV) : Prop := m.1 < 6 ∧ m.2.2.1 = 0 ∧ m.2.2.2.1 = 0 ∧ m.2.2.2.2 = [] ∧ ∃ f, φ v = some (0, 10, 7, f) ∧ x_vg f m.1 m.2.1 0 0 0 0 (12, 0, 0)
def x_mvA (φ : FH) (v : Nat) (m : MV) : Prop := m.1 = 6 ∧ m.2.1 = 0 ∧ m.2.2.1 ≤ 3 ∧ m.2.2.2.1 ≤ 5 ∧ m.2.2.2.2.length ≤ 24 ∧ ∃ f c g, 486 ≤ c ∧ φ v = some (0, 10, 7, f) ∧ x_vg f 6 0 m.2.2.1 1 m.2.2.2.1 0 (6, c, 0) ∧ φ c = some (6, 0, m.2.2.2.2.length, g) ∧ ∀ i, i < m.2.2.2.2.length → g i = (2, m.2.2.2.2.getD i 0, 0)
/-- the Value at v is m -/
def x_mv (φ : FH) (v : Nat) (m : MV) : Prop := (v = 225 ∨ 486 ≤ v) ∧ m.2.1 < 2147483648 ∧ (∀ i, m.2.2.2.2.getD i 0 < 2147483648) ∧ (x_mvS φ v m ∨ x_mvA φ v m)
/-- what is left alone keeps its value -/
theorem x_mv_at {φ φ1 : FH} {v : Nat} {m : MV} (h : x_mv φ v m) (e : ∀ j, j = 225 ∨ 486 ≤ j → φ j ≠ none → φ1 j = φ j) : x_mv φ1 v m := by
  obtain ⟨h1, h2, h3, h4⟩ := h
  refine ⟨h1, h2, h3, ?_⟩
  rcases h4 with ⟨a1, a2, a3, a4, f, a5, a6⟩ | ⟨a1, a2, a3, a4, a5, f, c, g, a6, a7, a8, a9, a10⟩
  · exact Or.inl ⟨a1, a2, a3, a4, f, by rw [e v h1 (by rw [a5]; exact Option.some_ne_none _)]; exact a5, a6⟩
  · exact Or.inr ⟨a1, a2, a3, a4, a5, f, c, g, a6, by rw [e v h1 (by rw [a7]; exact Option.some_ne_none _)]; exact a7, a8, by rw [e c (Or.inr a6) (by rw [a9]; exact Option.some_ne_none _)]; exact a9, a10⟩
theorem x_mv_obj {φ : FH} {v : Nat} {m : MV} (h : x_mv φ v m) : ∃ f, φ v = some (0, 10, 7, f) := by
  rcases h.2.2.2 with ⟨-, -, -, -, f, a5, -⟩ | ⟨-, -, -, -, -, f, c, g, -, a7, -⟩
  · exact ⟨f, a5⟩
  · exact ⟨f, a7⟩
/-- whether a value is x or has it in a place -/
def m_holds (m : MV) (x : Nat) : Prop := if m.1 = 5 then m.2.1 = x else m.2.2.2.1 = 5 ∧ x ∈ m.2.2.2.2
theorem x_mts {L : List Nat} {i x : Nat} (hi : i < L.length) : x ∈ L.take (i + 1) ↔ x ∈ L.take i ∨ L.getD i 0 = x := by
  rw [List.take_add_one, List.getElem?_eq_getElem hi, List.mem_append, List.getD_eq_getElem?_getD, List.getElem?_eq_getElem hi]
  show _ ∨ x ∈ [L[i]] ↔ _ ∨ L[i] = x
  rw [List.mem_singleton]
  exact or_congr Iff.rfl ⟨fun h => h.symm, fun h => h.symm⟩
theorem x_fd_1 {L : List Nat} {i x fd : Nat} (hi : i < L.length) (hfd : fd = if x ∈ L.take i then 1 else 0) (h : fd ≠ 0 ∨ L.getD i 0 = x) : 1 = if x ∈ L.take (i + 1) then 1 else 0 := by
  rw [if_pos]
  rw [x_mts hi]
  rcases h with h | h
  · left
    by_cases hm : x ∈ L.take i
    · exact hm
    · rw [if_neg hm] at hfd; exact absurd hfd h
  · exact Or.inr h
theorem x_fd_0 {L : List Nat} {i x fd : Nat} (hi : i < L.length) (hfd : fd = if x ∈ L.take i then 1 else 0) (h : fd = 0 ∧ L.getD i 0 ≠ x) : 0 = if x ∈ L.take (i + 1) then 1 else 0 := by
  rw [if_neg]
  rw [x_mts hi]
  rintro (q | q)
  · rw [if_pos q] at hfd; omega
  · exact h.2 q
theorem e_isHolding_loop {d n sl : Nat} {φ : FH} {v so c x : Nat} {L : List Nat} {fV g : Nat → XV} (hV : φ v = some (0, 10, 7, fV)) (hg : x_vg fV 6 0 so 1 5 0 (6, c, 0)) (hc : φ c = some (6, 0, L.length, g)) (hgc : ∀ i, i < L.length → g i = (2, L.getD i 0, 0)) (hL : ∀ i, L.getD i 0 < 2147483648) (hl : L.length ≤ 24) (hx : x < 2147483648) (k : Nat) : ∀ (i fd : Nat), i + k = L.length → (fd = if x ∈ L.take i then 1 else 0) → x_n x_P (d + 1) xc_119 18 [] [(6, v, 0), (0, x, 0), (0, fd, 0), (0, i, 0)] φ n sl (x_r φ n sl (0, if x ∈ L then 1 else 0, 0)) := by
  induction k with
  | zero =>
    intro i fd hik hfd
    have hi : i = L.length := by omega
    subst hi
    rw [List.take_length] at hfd
    subst hfd
    refine q_load (p2 := 19) rfl rfl rfl rfl ?_
    refine q_load (p2 := 20) rfl rfl rfl rfl ?_
    refine q_getv (p2 := 21) rfl hV (by decide) hg.2.2.2.2.2.2 rfl ?_
    refine q_alen (p2 := 22) rfl hc rfl (by omega) rfl ?_
    refine q_icmp_s (p2 := 23) rfl (by decide) (by omega) (by omega) rfl (fun _ => ?_) (fun hb => absurd (show ¬ (L.length < L.length) by omega) hb)
    refine q_load (p2 := 48) rfl rfl rfl rfl ?_
    by_cases hb1 : x ∈ L
    · rw [if_pos hb1]
      exact q_retv rfl rfl (⟨rfl, rfl, rfl, rfl, rfl⟩)
    · rw [if_neg hb1]
      exact q_retv rfl rfl (⟨rfl, rfl, rfl, rfl, rfl⟩)
  | succ k ih =>
    intro i fd hik hfd
    have hLi := hL i
    have hf1 : fd ≤ 1 := by rw [hfd]; split <;> omega
    refine q_load (p2 := 19) rfl rfl rfl rfl ?_
    refine q_load (p2 := 20) rfl rfl rfl rfl ?_
    refine q_getv (p2 := 21) rfl hV (by decide) hg.2.2.2.2.2.2 rfl ?_
    refine q_alen (p2 := 22) rfl hc rfl (by omega) rfl ?_
    refine q_icmp_s (p2 := 23) rfl (by decide) (by omega) (by omega) rfl (fun hb => absurd hb (show ¬ (¬ (i < L.length)) by omega)) (fun _ => ?_)
    refine q_load (p2 := 24) rfl rfl rfl rfl ?_
    refine q_getv (p2 := 25) rfl hV (by decide) hg.2.2.2.2.1 rfl ?_
    refine q_const (p2 := 26) rfl rfl ?_
    refine q_icmp_s (p2 := 27) rfl (by decide) (by omega) (by omega) rfl (fun hb => absurd hb (show ¬ (¬ (5 = 5)) by omega)) (fun _ => ?_)
    refine q_load (p2 := 28) rfl rfl rfl rfl ?_
    refine q_if0_s (p2 := 29) rfl (by decide) (by omega) rfl (fun hb1 => ?_) (fun hb1 => ?_)
    · have hb1 : ¬ (fd = 0) := hb1
      refine q_const (p2 := 42) rfl rfl ?_
      refine q_goto rfl ?_
      refine q_store (p2 := 45) rfl rfl rfl rfl rfl ?_
      refine q_iinc (z := i + 1) (p2 := 46) rfl rfl (Nat.mod_eq_of_lt (by omega)) rfl rfl ?_
      refine q_goto rfl ?_
      exact ih (i + 1) 1 (by omega) (x_fd_1 (by omega) hfd (by omega))
    · have hb1 : ¬ (¬ (fd = 0)) := hb1
      refine q_load (p2 := 30) rfl rfl rfl rfl ?_
      refine q_getv (p2 := 31) rfl hV (by decide) hg.2.2.2.2.2.2 rfl ?_
      refine q_load (p2 := 32) rfl rfl rfl rfl ?_
      refine q_aldv (v := (2, (L.getD (i) 0), 0)) (p2 := 33) rfl hc (by omega) (by omega) (hgc (i) (by omega)) rfl ?_
      refine q_load (p2 := 34) rfl rfl rfl rfl ?_
      refine q_i2l (p2 := 35) rfl (by omega) rfl ?_
      refine q_lcif (p2 := 37) rfl rfl (by decide) (by omega) (by omega) rfl (fun hb2 => ?_) (fun hb2 => ?_)
      · have hb2 : ¬ ((L.getD (i) 0) = x) := hb2
        refine q_const (p2 := 44) rfl rfl ?_
        refine q_store (p2 := 45) rfl rfl rfl rfl rfl ?_
        refine q_iinc (z := i + 1) (p2 := 46) rfl rfl (Nat.mod_eq_of_lt (by omega)) rfl rfl ?_
        refine q_goto rfl ?_
        exact ih (i + 1) 0 (by omega) (x_fd_0 (by omega) hfd (by omega))
      · have hb2 : ¬ (¬ ((L.getD (i) 0) = x)) := hb2
        refine q_load (p2 := 38) rfl rfl rfl rfl ?_
        refine q_load (p2 := 39) rfl rfl rfl rfl ?_
        refine q_callr (xs := [(0, i, 0), (6, v, 0)]) (p2 := 40) rfl rfl rfl rfl (x_rcv_s v hV) rfl (e_isHole hV hg (i := i) (by omega)) (Nat.le_refl _) (Nat.le_refl _) rfl ?_
        refine q_if0_s (p2 := 41) rfl (by decide) (by omega) rfl (fun hb => absurd hb (show ¬ (¬ (0 = 0)) by omega)) (fun _ => ?_)
        refine q_const (p2 := 42) rfl rfl ?_
        refine q_goto rfl ?_
        refine q_store (p2 := 45) rfl rfl rfl rfl rfl ?_
        refine q_iinc (z := i + 1) (p2 := 46) rfl rfl (Nat.mod_eq_of_lt (by omega)) rfl rfl ?_
        refine q_goto rfl ?_
        exact ih (i + 1) 1 (by omega) (x_fd_1 (by omega) hfd (by omega))
theorem e_isHolding_a {d n sl : Nat} {φ : FH} {v so c x : Nat} {L : List Nat} {fV g : Nat → XV} (hV : φ v = some (0, 10, 7, fV)) (hg : x_vg fV 6 0 so 1 5 0 (6, c, 0)) (hc : φ c = some (6, 0, L.length, g)) (hgc : ∀ i, i < L.length → g i = (2, L.getD i 0, 0)) (hL : ∀ i, L.getD i 0 < 2147483648) (hl : L.length ≤ 24) (hx : x < 2147483648) : x_f x_P (d + 2) 119 [(6, v, 0), (0, x, 0), (11, 0, 0), (11, 0, 0)] φ n sl (x_r φ n sl (0, if x ∈ L then 1 else 0, 0)) := by
  refine x_f_of rfl ?_
  refine q_load (p2 := 1) rfl rfl rfl rfl ?_
  refine q_getv (p2 := 2) rfl hV (by decide) hg.1 rfl ?_
  refine q_const (p2 := 3) rfl rfl ?_
  refine q_icmp_s (p2 := 4) rfl (by decide) (by omega) (by omega) rfl (fun _ => ?_) (fun hb => absurd (show ¬ (6 = 5) by omega) hb)
  refine q_const (p2 := 15) rfl rfl ?_
  refine q_store (p2 := 16) rfl rfl rfl rfl rfl ?_
  refine q_const (p2 := 17) rfl rfl ?_
  refine q_store (p2 := 18) rfl rfl rfl rfl rfl ?_
  exact e_isHolding_loop hV hg hc hgc hL hl hx L.length 0 0 (by omega) (by rw [List.take_zero, if_neg List.not_mem_nil])
theorem e_isHolding_o {d n sl : Nat} {φ : FH} {v so la c x len : Nat} {fV g : Nat → XV} (hV : φ v = some (0, 10, 7, fV)) (hg : x_vg fV 6 0 so 1 la 0 (6, c, 0)) (hc : φ c = some (6, 0, len, g)) (hla : la < 5) (hl : len ≤ 24) (hx : x < 2147483648) : x_f x_P (d + 2) 119 [(6, v, 0), (0, x, 0), (11, 0, 0), (11, 0, 0)] φ n sl (x_r φ n sl (0, 0, 0)) := by
  refine x_f_of rfl ?_
  refine q_load (p2 := 1) rfl rfl rfl rfl ?_
  refine q_getv (p2 := 2) rfl hV (by decide) hg.1 rfl ?_
  refine q_const (p2 := 3) rfl rfl ?_
  refine q_icmp_s (p2 := 4) rfl (by decide) (by omega) (by omega) rfl (fun _ => ?_) (fun hb => absurd (show ¬ (6 = 5) by omega) hb)
  refine q_const (p2 := 15) rfl rfl ?_
  refine q_store (p2 := 16) rfl rfl rfl rfl rfl ?_
  refine q_const (p2 := 17) rfl rfl ?_
  refine q_store (p2 := 18) rfl rfl rfl rfl rfl ?_
  refine q_load (p2 := 19) rfl rfl rfl rfl ?_
  refine q_load (p2 := 20) rfl rfl rfl rfl ?_
  refine q_getv (p2 := 21) rfl hV (by decide) hg.2.2.2.2.2.2 rfl ?_
  refine q_alen (p2 := 22) rfl hc rfl (by omega) rfl ?_
  refine q_icmp_s (p2 := 23) rfl (by decide) (by omega) (by omega) rfl (fun hb1 => ?_) (fun hb1 => ?_)
  · have hb1 : ¬ (0 < len) := hb1
    refine q_load (p2 := 48) rfl rfl rfl rfl ?_
    exact q_retv rfl rfl (⟨rfl, rfl, rfl, rfl, rfl⟩)
  · have hb1 : ¬ (¬ (0 < len)) := hb1
    refine q_load (p2 := 24) rfl rfl rfl rfl ?_
    refine q_getv (p2 := 25) rfl hV (by decide) hg.2.2.2.2.1 rfl ?_
    refine q_const (p2 := 26) rfl rfl ?_
    refine q_icmp_s (p2 := 27) rfl (by decide) (by omega) (by omega) rfl (fun _ => ?_) (fun hb => absurd (show ¬ (la = 5) by omega) hb)
    refine q_load (p2 := 48) rfl rfl rfl rfl ?_
    exact q_retv rfl rfl (⟨rfl, rfl, rfl, rfl, rfl⟩)
theorem e_isHolding_s {d n sl : Nat} {φ : FH} {v k b x : Nat} {fV : Nat → XV} (hV : φ v = some (0, 10, 7, fV)) (hg : x_vg fV k b 0 0 0 0 (12, 0, 0)) (hk : k < 6) (hb : b < 2147483648) (hx : x < 2147483648) : x_f x_P (d + 2) 119 [(6, v, 0), (0, x, 0), (11, 0, 0), (11, 0, 0)] φ n sl (x_r φ n sl (0, if k = 5 ∧ b = x then 1 else 0, 0)) := by
  refine x_f_of rfl ?_
  refine q_load (p2 := 1) rfl rfl rfl rfl ?_
  refine q_getv (p2 := 2) rfl hV (by decide) hg.1 rfl ?_
  refine q_const (p2 := 3) rfl rfl ?_
  refine q_icmp_s (p2 := 4) rfl (by decide) (by omega) (by omega) rfl (fun hb1 => ?_) (fun hb1 => ?_)
  · have hb1 : ¬ (k = 5) := hb1
    refine q_const (p2 := 15) rfl rfl ?_
    refine q_store (p2 := 16) rfl rfl rfl rfl rfl ?_
    refine q_const (p2 := 17) rfl rfl ?_
    refine q_store (p2 := 18) rfl rfl rfl rfl rfl ?_
    refine q_load (p2 := 19) rfl rfl rfl rfl ?_
    refine q_load (p2 := 20) rfl rfl rfl rfl ?_
    refine q_getv (p2 := 21) rfl hV (by decide) hg.2.2.2.2.2.2 rfl ?_
    refine q_alenN (p2 := 22) rfl rfl ?_
    refine q_icmp_s (p2 := 23) rfl (by decide) (by omega) (by omega) rfl (fun _ => ?_) (fun hb => absurd (show ¬ (0 < 0) by omega) hb)
    refine q_load (p2 := 48) rfl rfl rfl rfl ?_
    exact q_retv rfl rfl (⟨rfl, by rw [if_neg (by omega)], rfl, rfl, rfl⟩)
  · have hb1 : ¬ (¬ (k = 5)) := hb1
    refine q_load (p2 := 5) rfl rfl rfl rfl ?_
    refine q_getv (p2 := 6) rfl hV (by decide) hg.2.1 rfl ?_
    refine q_load (p2 := 7) rfl rfl rfl rfl ?_
    refine q_i2l (p2 := 8) rfl (by omega) rfl ?_
    refine q_lcif (p2 := 10) rfl rfl (by decide) (by omega) (by omega) rfl (fun hb2 => ?_) (fun hb2 => ?_)
    · have hb2 : ¬ (b = x) := hb2
      refine q_const (p2 := 13) rfl rfl ?_
      exact q_retv rfl rfl (⟨rfl, by rw [if_neg (by omega)], rfl, rfl, rfl⟩)
    · have hb2 : ¬ (¬ (b = x)) := hb2
      refine q_const (p2 := 11) rfl rfl ?_
      refine q_goto rfl ?_
      exact q_retv rfl rfl (⟨rfl, by rw [if_pos (by omega)], rfl, rfl, rfl⟩)
theorem e_isHolding {d n sl : Nat} {φ : FH} {v x : Nat} {m : MV} (hm : x_mv φ v m) (hx : x < 2147483648) : x_f x_P (d + 2) 119 [(6, v, 0), (0, x, 0), (11, 0, 0), (11, 0, 0)] φ n sl (x_r φ n sl (0, if (m.1 = 5 ∧ m.2.1 = x) ∨ (m.1 ≠ 5 ∧ m.2.2.2.1 = 5 ∧ x ∈ m.2.2.2.2) then 1 else 0, 0)) := by
  obtain ⟨h1, h2, h3, h4⟩ := hm
  rcases h4 with ⟨a1, a2, a3, a4, f, a5, a6⟩ | ⟨a1, a2, a3, a4, a5, f, c, g, a6, a7, a8, a9, a10⟩
  · refine x_f_mono (e_isHolding_s a5 a6 a1 h2 hx) (fun u w φ2 n2 sl2 q => ?_)
    obtain ⟨q1, q2, q3⟩ := q
    refine ⟨q1, q2.trans ?_, q3⟩
    rw [a3, a4]
    by_cases hh : m.1 = 5 ∧ m.2.1 = x
    · rw [if_pos hh, if_pos (Or.inl hh)]
    · rw [if_neg hh, if_neg (by rintro (z | z); exact hh z; exact List.not_mem_nil z.2.2)]
  · by_cases hla : m.2.2.2.1 = 5
    · rw [hla] at a8
      refine x_f_mono (e_isHolding_a a7 a8 a9 a10 h3 a5 hx) (fun u w φ2 n2 sl2 q => ?_)
      obtain ⟨q1, q2, q3⟩ := q
      refine ⟨q1, q2.trans ?_, q3⟩
      by_cases hh : x ∈ m.2.2.2.2
      · rw [if_pos hh, if_pos (Or.inr ⟨by omega, hla, hh⟩)]
      · rw [if_neg hh, if_neg (by rintro (z | z); omega; exact hh z.2.2)]
    · refine x_f_mono (e_isHolding_o a7 a8 a9 (by omega) a5 hx) (fun u w φ2 n2 sl2 q => ?_)
      obtain ⟨q1, q2, q3⟩ := q
      refine ⟨q1, q2.trans ?_, q3⟩
      rw [if_neg (by rintro (z | z); omega; exact hla z.2.1)]
end FPOP4
