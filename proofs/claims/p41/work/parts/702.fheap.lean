section FHEAP
/-- a cell, its places as a function: kind, class, how many, what -/
abbrev FC : Type := Nat × Nat × Nat × (Nat → XV)
abbrev FH : Type := Nat → Option FC
def x_c (q : Option FC) (c : Option XC) : Prop := match q, c with
  | none, none => True
  | some q, some c => c.1 = q.1 ∧ c.2.1 = q.2.1 ∧ x_glen c.2.2 = q.2.2.1 ∧ ∀ i, i < q.2.2.1 → x_gget c.2.2 i = some (q.2.2.2 i)
  | _, _ => False
/-- n cells, as φ says -/
def x_h (φ : FH) (n : Nat) (h : XH) : Prop := h.length = (n + 31) / 32 ∧ (∀ i r, h[i]? = some r → r.length = min 32 (n - 32 * i)) ∧ ∀ k, x_c (φ k) (x_hget h k)
def x_up (φ : FH) (k : Nat) (c : FC) : FH := fun j => if j = k then some c else φ j
def x_fu (f : Nat → XV) (k : Nat) (v : XV) : Nat → XV := fun j => if j = k then v else f j
theorem x_up_eq {φ : FH} {k : Nat} {c : FC} : x_up φ k c k = some c := if_pos rfl
theorem x_up_ne {φ : FH} {k j : Nat} {c : FC} (h : j ≠ k) : x_up φ k c j = φ j := if_neg h
theorem x_fu_eq {f : Nat → XV} {k : Nat} {v : XV} : x_fu f k v k = v := if_pos rfl
theorem x_fu_ne {f : Nat → XV} {k j : Nat} {v : XV} (h : j ≠ k) : x_fu f k v j = f j := if_neg h
theorem x_h_get {φ : FH} {n k : Nat} {h : XH} {q : FC} (hh : x_h φ n h) (e : φ k = some q) : ∃ g, x_hget h k = some (q.1, q.2.1, g) ∧ x_glen g = q.2.2.1 ∧ ∀ i, i < q.2.2.1 → x_gget g i = some (q.2.2.2 i) := by
  have h3 := hh.2.2 k
  rw [e] at h3
  cases hg : x_hget h k with
  | none => rw [hg] at h3; exact h3.elim
  | some c =>
    rw [hg] at h3
    obtain ⟨e1, e2, e3, e4⟩ := h3
    exact ⟨c.2.2, by rw [← e1, ← e2], e3, e4⟩
theorem x_h_lt {φ : FH} {n k : Nat} {h : XH} {c : XC} (hh : x_h φ n h) (e : x_hget h k = some c) : k < n := by
  obtain ⟨r, h1, h2⟩ := x_hget_some e
  have h3 := hh.2.1 _ _ h1
  have h4 := (List.getElem?_eq_some_iff.mp h2).1
  omega
theorem x_h_row {φ : FH} {n i : Nat} {h : XH} (hh : x_h φ n h) (hi : 32 * i < n) : ∃ r, h[i]? = some r := by
  have h1 := hh.1
  exact ⟨_, List.getElem?_eq_getElem (by omega)⟩
theorem x_h_set {φ : FH} {n k : Nat} {h : XH} {q q0 : FC} {g : XG} (hh : x_h φ n h) (e : φ k = some q0) (hl : x_glen g = q.2.2.1) (hg : ∀ i, i < q.2.2.1 → x_gget g i = some (q.2.2.2 i)) : ∃ h2, x_hset h k (q.1, q.2.1, g) = some h2 ∧ x_h (x_up φ k q) n h2 := by
  obtain ⟨g0, e0, -, -⟩ := x_h_get hh e
  obtain ⟨r, h1, h2⟩ := x_hget_some e0
  have hs : x_hset h k (q.1, q.2.1, g) = some (h.set (k / 32) (r.set (k % 32) (q.1, q.2.1, g))) := by
    show x_bind (x_nth h (k / 32)) _ = _
    rw [x_nth_eq, h1]
    show some (x_upd h (k / 32) (x_upd r (k % 32) (q.1, q.2.1, g))) = _
    rw [x_upd_eq, x_upd_eq]
  refine ⟨_, hs, ?_, fun i r2 hr2 => ?_, fun j => ?_⟩
  · rw [List.length_set]; exact hh.1
  · rw [List.getElem?_set] at hr2
    by_cases hi : k / 32 = i
    · rw [if_pos hi] at hr2
      have hlt := (List.getElem?_eq_some_iff.mp h1).1
      rw [if_pos (by omega)] at hr2
      rw [← Option.some.inj hr2, List.length_set, ← hi]
      exact hh.2.1 _ _ h1
    · rw [if_neg hi] at hr2
      exact hh.2.1 _ _ hr2
  · rw [x_hget_hset e0 hs j]
    by_cases hj : j = k
    · rw [if_pos hj, hj, x_up_eq]
      exact ⟨rfl, rfl, hl, hg⟩
    · rw [if_neg hj, x_up_ne hj]
      exact hh.2.2 j
theorem x_h_push {φ : FH} {n : Nat} {h : XH} {q : FC} {g : XG} (hh : x_h φ n h) (hl : x_glen g = q.2.2.1) (hg : ∀ i, i < q.2.2.1 → x_gget g i = some (q.2.2.2 i)) : ∃ h2, x_hpush h n (q.1, q.2.1, g) = some h2 ∧ x_h (x_up φ n q) (n + 1) h2 := by
  have hlt : ∀ k c0, x_hget h k = some c0 → k < n := fun k c0 e => x_h_lt hh e
  have key : ∃ h2, x_hpush h n (q.1, q.2.1, g) = some h2 ∧ h2.length = (n + 1 + 31) / 32 ∧ ∀ i r, h2[i]? = some r → r.length = min 32 (n + 1 - 32 * i) := by
    have h1 := hh.1
    by_cases h0 : n % 32 = 0
    · refine ⟨h ++ [[(q.1, q.2.1, g)]], ?_, by rw [List.length_append]; show h.length + 1 = _; omega, fun i r hr => ?_⟩
      · show x_if (Nat.beq (Nat.mod n 32) 0) (x_if (Nat.beq (x_len h) (Nat.div n 32)) (some (h ++ [[(q.1, q.2.1, g)]])) none) _ = _
        have e1 : Nat.beq (Nat.mod n 32) 0 = true := by show Nat.beq (n % 32) 0 = true; rw [h0]; rfl
        have e2 : Nat.beq (x_len h) (Nat.div n 32) = true := by rw [x_len_eq, h1]; show Nat.beq ((n + 31) / 32) (n / 32) = true; rw [show (n + 31) / 32 = n / 32 by omega, Nat.beq_refl]
        rw [e1, x_if_true, e2, x_if_true]
      · by_cases hi : i < h.length
        · rw [List.getElem?_append_left hi] at hr
          have := hh.2.1 _ _ hr
          omega
        · rw [List.getElem?_append_right (by omega)] at hr
          have hi2 : i - h.length < 1 := (List.getElem?_eq_some_iff.mp hr).1
          rw [show i - h.length = 0 by omega] at hr
          rw [← Option.some.inj hr]
          show 1 = _
          omega
    · obtain ⟨r, hr⟩ := x_h_row hh (i := n / 32) (by omega)
      have hrl := hh.2.1 _ _ hr
      refine ⟨h.set (n / 32) (r ++ [(q.1, q.2.1, g)]), ?_, by rw [List.length_set]; omega, fun i r2 hr2 => ?_⟩
      · show x_if (Nat.beq (Nat.mod n 32) 0) _ (x_bind (x_nth h (Nat.div n 32)) (fun r => x_if (Nat.beq (x_len r) (Nat.mod n 32)) (some (x_upd h (Nat.div n 32) (r ++ [(q.1, q.2.1, g)]))) none)) = _
        have e1 : Nat.beq (Nat.mod n 32) 0 = false := by
          cases hb : Nat.beq (Nat.mod n 32) 0 with
          | true => exact absurd (x_beq hb) h0
          | false => rfl
        rw [e1, x_if_false, x_nth_eq, show h[Nat.div n 32]? = some r from hr]
        show x_if (Nat.beq (x_len r) (Nat.mod n 32)) (some (x_upd h (Nat.div n 32) (r ++ [(q.1, q.2.1, g)]))) none = _
        have e2 : Nat.beq (x_len r) (Nat.mod n 32) = true := by rw [x_len_eq, hrl]; show Nat.beq (min 32 (n - 32 * (n / 32))) (n % 32) = true; rw [show min 32 (n - 32 * (n / 32)) = n % 32 by omega, Nat.beq_refl]
        rw [e2, x_if_true, x_upd_eq]; rfl
      · rw [List.getElem?_set] at hr2
        by_cases hi : n / 32 = i
        · rw [if_pos hi, if_pos (by omega)] at hr2
          rw [← Option.some.inj hr2, List.length_append, hrl, ← hi]
          show min 32 (n - 32 * (n / 32)) + 1 = _
          omega
        · rw [if_neg hi] at hr2
          have hil := (List.getElem?_eq_some_iff.mp hr2).1
          have := hh.2.1 _ _ hr2
          omega
  obtain ⟨h2, e1, e2, e3⟩ := key
  refine ⟨h2, e1, e2, e3, fun j => ?_⟩
  rw [x_hget_hpush e1 j hlt]
  by_cases hj : j = n
  · rw [if_pos hj, hj, x_up_eq]
    exact ⟨rfl, rfl, hl, hg⟩
  · rw [if_neg hj, x_up_ne hj]
    exact hh.2.2 j
theorem x_h_n {φ : FH} {n k : Nat} {h : XH} {q : FC} (hh : x_h φ n h) (e : φ k = some q) : k < n := by
  obtain ⟨g, e0, -⟩ := x_h_get hh e
  exact x_h_lt hh e0
end FHEAP
