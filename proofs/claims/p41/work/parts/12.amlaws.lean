section AMLAWS
theorem x_if_true {α : Type} (x y : α) : x_if true x y = x := rfl
theorem x_if_false {α : Type} (x y : α) : x_if false x y = y := rfl
theorem x_if_eq {α : Type} (b : Bool) (x y : α) : x_if b x y = if b = true then x else y := by cases b <;> rfl
theorem x_force_eq {α : Type} (n : Nat) (k : Nat → α) : x_force n k = k n := by cases n <;> rfl
theorem x_nth_eq {α : Type} (l : List α) : ∀ i, x_nth l i = l[i]? := by
  induction l with
  | nil => intro i; rfl
  | cons a t ih =>
    intro i
    cases i with
    | zero => rfl
    | succ m => rw [List.getElem?_cons_succ]; exact ih m
theorem x_upd_eq {α : Type} (l : List α) : ∀ i x, x_upd l i x = l.set i x := by
  induction l with
  | nil => intro i x; rfl
  | cons a t ih =>
    intro i x
    cases i with
    | zero => rfl
    | succ m => exact congrArg (a :: ·) (ih m x)
theorem x_len_eq {α : Type} (l : List α) : x_len l = l.length := by
  induction l with
  | nil => rfl
  | cons a t ih => exact congrArg Nat.succ ih
theorem x_bind_some {α β : Type} {o : Option α} {k : α → Option β} {r : β} (h : x_bind o k = some r) : ∃ a, o = some a ∧ k a = some r := by
  cases o with
  | none => cases h
  | some a => exact ⟨a, rfl, h⟩
theorem x_if_some {α : Type} {b : Bool} {x y : Option α} {r : α} (h : x_if b x y = some r) : (b = true ∧ x = some r) ∨ (b = false ∧ y = some r) := by
  cases b
  · exact Or.inr ⟨rfl, h⟩
  · exact Or.inl ⟨rfl, h⟩
theorem x_if_n {α : Type} {b : Bool} {x : Option α} {r : α} (h : x_if b x none = some r) : b = true ∧ x = some r := by
  cases b
  · cases h
  · exact ⟨rfl, h⟩
theorem x_if_n' {α : Type} {b : Bool} {x : Option α} {r : α} (h : x_if b none x = some r) : b = false ∧ x = some r := by
  cases b
  · exact ⟨rfl, h⟩
  · cases h
theorem x_orec {α β : Type} {o : Option α} {k : α → Option β} {r : β} (h : Option.rec (motive := fun _ => Option β) none k o = some r) : ∃ a, o = some a ∧ k a = some r := x_bind_some (o := o) h
theorem x_lrec {α β : Type} {l : List α} {k : α → List α → Option β} {r : β} (h : List.rec (motive := fun _ => Option β) none (fun a t _ => k a t) l = some r) : ∃ a t, l = a :: t ∧ k a t = some r := by
  cases l with
  | nil => cases h
  | cons a t => exact ⟨a, t, rfl, h⟩
theorem x_beq {a b : Nat} (h : Nat.beq a b = true) : a = b := Nat.eq_of_beq_eq_true h
theorem x_ble {a b : Nat} (h : Nat.ble a b = true) : a ≤ b := Nat.le_of_ble_eq_true h
theorem x_nble {a b : Nat} (h : Nat.ble a b = false) : b < a := by
  rcases Nat.lt_or_ge b a with q | q
  · exact q
  · rw [Nat.ble_eq_true_of_le q] at h; cases h
theorem x_veq_eq {a b : XV} (h : x_veq a b = true) : a = b := by
  obtain ⟨a1, a2, a3⟩ := a
  obtain ⟨b1, b2, b3⟩ := b
  unfold x_veq at h
  cases h1 : Nat.beq a1 b1 with
  | false => rw [show Nat.beq (a1, a2, a3).1 (b1, b2, b3).1 = false from h1] at h; cases h
  | true =>
    rw [show Nat.beq (a1, a2, a3).1 (b1, b2, b3).1 = true from h1, x_if_true] at h
    cases h2 : Nat.beq a2 b2 with
    | false => rw [show Nat.beq (a1, a2, a3).2.1 (b1, b2, b3).2.1 = false from h2] at h; cases h
    | true =>
      rw [show Nat.beq (a1, a2, a3).2.1 (b1, b2, b3).2.1 = true from h2, x_if_true] at h
      have h3 : Nat.beq a3 b3 = true := h
      rw [x_beq h1, x_beq h2, x_beq h3]
/-! places -/
theorem x_gget_nil (i : Nat) : x_gget [] i = none := rfl
theorem x_gget_cons (s : Nat × XV) (t : XG) (i : Nat) : x_gget (s :: t) i = if i < s.1 then some s.2 else x_gget t (i - s.1) := by
  show x_if (Nat.ble (Nat.succ i) s.1) (some s.2) (x_gget t (Nat.sub i s.1)) = _
  by_cases h : i < s.1
  · rw [if_pos h, Nat.ble_eq_true_of_le h]; rfl
  · rw [if_neg h]
    cases hb : Nat.ble (Nat.succ i) s.1 with
    | true => exact absurd (x_ble hb) h
    | false => rfl
theorem x_glen_cons (s : Nat × XV) (t : XG) : x_glen (s :: t) = s.1 + x_glen t := rfl
theorem x_gget_gcons (n : Nat) (v : XV) (r : XG) (i : Nat) : x_gget (x_gcons n v r) i = x_gget ((n, v) :: r) i := by
  unfold x_gcons
  cases hn : Nat.beq n 0 with
  | true =>
    rw [x_if_true, x_gget_cons]
    have h0 : n = 0 := x_beq hn
    subst h0
    rw [if_neg (Nat.not_lt_zero i), Nat.sub_zero]
  | false =>
    rw [x_if_false]
    cases r with
    | nil => rfl
    | cons s t =>
      show x_gget (x_if (x_veq v s.2) (x_force (Nat.add n s.1) (fun m => (m, v) :: t)) ((n, v) :: s :: t)) i = _
      cases hv : x_veq v s.2 with
      | false => rfl
      | true =>
        rw [x_if_true, x_force_eq, x_gget_cons, x_gget_cons, x_gget_cons, ← x_veq_eq hv]
        show (if i < n + s.1 then some v else x_gget t (i - (n + s.1))) = if i < n then some v else if i - n < s.1 then some v else x_gget t (i - n - s.1)
        by_cases h1 : i < n
        · rw [if_pos h1, if_pos (by omega)]
        · rw [if_neg h1]
          by_cases h2 : i - n < s.1
          · rw [if_pos h2, if_pos (by omega)]
          · rw [if_neg h2, if_neg (by omega), show i - (n + s.1) = i - n - s.1 by omega]
theorem x_glen_gcons (n : Nat) (v : XV) (r : XG) : x_glen (x_gcons n v r) = n + x_glen r := by
  unfold x_gcons
  cases hn : Nat.beq n 0 with
  | true => rw [x_if_true, show n = 0 from x_beq hn, Nat.zero_add]
  | false =>
    rw [x_if_false]
    cases r with
    | nil => rfl
    | cons s t =>
      show x_glen (x_if (x_veq v s.2) (x_force (Nat.add n s.1) (fun m => (m, v) :: t)) ((n, v) :: s :: t)) = _
      cases hv : x_veq v s.2 with
      | false => rfl
      | true => rw [x_if_true, x_force_eq, x_glen_cons, x_glen_cons]; show n + s.1 + x_glen t = _; omega
theorem x_gset_cons (s : Nat × XV) (t : XG) (i : Nat) (x : XV) : x_gset (s :: t) i x = if i < s.1 then x_gcons i s.2 (x_gcons 1 x (x_gcons (s.1 - 1 - i) s.2 t)) else x_gcons s.1 s.2 (x_gset t (i - s.1) x) := by
  show x_if (Nat.ble (Nat.succ i) s.1) (x_gcons i s.2 (x_gcons 1 x (x_force (Nat.sub (Nat.sub s.1 1) i) (fun q => x_gcons q s.2 t)))) (x_gcons s.1 s.2 (x_gset t (Nat.sub i s.1) x)) = _
  rw [x_force_eq]
  by_cases h : i < s.1
  · rw [if_pos h, Nat.ble_eq_true_of_le h]; rfl
  · rw [if_neg h]
    cases hb : Nat.ble (Nat.succ i) s.1 with
    | true => exact absurd (x_ble hb) h
    | false => rfl
theorem x_glen_gset (g : XG) : ∀ i x, x_glen (x_gset g i x) = x_glen g := by
  induction g with
  | nil => intro i x; rfl
  | cons s t ih =>
    intro i x
    rw [x_gset_cons]
    by_cases h : i < s.1
    · rw [if_pos h, x_glen_gcons, x_glen_gcons, x_glen_gcons, x_glen_cons]; omega
    · rw [if_neg h, x_glen_gcons, ih, x_glen_cons]
theorem x_gget_lt (g : XG) : ∀ i, i < x_glen g → ∃ v, x_gget g i = some v := by
  induction g with
  | nil => intro i h; exact absurd h (Nat.not_lt_zero i)
  | cons s t ih =>
    intro i h
    rw [x_gget_cons]
    by_cases h1 : i < s.1
    · rw [if_pos h1]; exact ⟨_, rfl⟩
    · rw [if_neg h1]
      rw [x_glen_cons] at h
      exact ih _ (by omega)
theorem x_gget_in (g : XG) : ∀ {i v}, x_gget g i = some v → i < x_glen g := by
  induction g with
  | nil => intro i v h; cases h
  | cons s t ih =>
    intro i v h
    rw [x_gget_cons] at h
    rw [x_glen_cons]
    by_cases h1 : i < s.1
    · omega
    · rw [if_neg h1] at h
      have := ih h
      omega
theorem x_gget_gset (g : XG) : ∀ i x j, i < x_glen g → x_gget (x_gset g i x) j = if j = i then some x else x_gget g j := by
  induction g with
  | nil => intro i x j h; exact absurd h (Nat.not_lt_zero i)
  | cons s t ih =>
    intro i x j h
    rw [x_glen_cons] at h
    rw [x_gset_cons]
    by_cases h1 : i < s.1
    · rw [if_pos h1, x_gget_gcons, x_gget_cons, x_gget_gcons, x_gget_cons, x_gget_gcons, x_gget_cons, x_gget_cons]
      show (if j < i then some s.2 else if j - i < 1 then some x else if j - i - 1 < s.1 - 1 - i then some s.2 else x_gget t (j - i - 1 - (s.1 - 1 - i))) = if j = i then some x else if j < s.1 then some s.2 else x_gget t (j - s.1)
      by_cases h2 : j < i
      · rw [if_pos h2, if_neg (by omega), if_pos (by omega)]
      · rw [if_neg h2]
        by_cases h3 : j = i
        · rw [if_pos (by omega), if_pos h3]
        · rw [if_neg (by omega), if_neg h3]
          by_cases h4 : j < s.1
          · rw [if_pos (by omega), if_pos h4]
          · rw [if_neg (by omega), if_neg h4, show j - i - 1 - (s.1 - 1 - i) = j - s.1 by omega]
    · rw [if_neg h1, x_gget_gcons, x_gget_cons, x_gget_cons, ih _ x _ (by omega)]
      show (if j < s.1 then some s.2 else if j - s.1 = i - s.1 then some x else x_gget t (j - s.1)) = if j = i then some x else if j < s.1 then some s.2 else x_gget t (j - s.1)
      by_cases h2 : j < s.1
      · rw [if_pos h2, if_neg (by omega), if_pos h2]
      · rw [if_neg h2, if_neg h2]
        by_cases h3 : j = i
        · rw [if_pos (by omega), if_pos h3]
        · rw [if_neg (by omega), if_neg h3]
/-! cells -/
theorem x_hget_some {h : XH} {k : Nat} {c : XC} (e : x_hget h k = some c) : ∃ r, h[k / 32]? = some r ∧ r[k % 32]? = some c := by
  obtain ⟨r, h1, h2⟩ := x_bind_some e
  rw [x_nth_eq] at h1 h2
  exact ⟨r, h1, h2⟩
theorem x_hget_of {h : XH} {k : Nat} {c : XC} {r : List XC} (h1 : h[k / 32]? = some r) (h2 : r[k % 32]? = some c) : x_hget h k = some c := by
  show x_bind (x_nth h (k / 32)) _ = _
  rw [x_nth_eq, h1]
  show x_nth r (k % 32) = _
  rw [x_nth_eq, h2]
theorem x_hget_hset {h h2 : XH} {k : Nat} {c c0 : XC} (e0 : x_hget h k = some c0) (e : x_hset h k c = some h2) (j : Nat) : x_hget h2 j = if j = k then some c else x_hget h j := by
  obtain ⟨r, r1, r2⟩ := x_hget_some e0
  obtain ⟨r', q1, q2⟩ := x_bind_some e
  rw [x_nth_eq] at q1
  have q3 : some r = some r' := r1.symm.trans q1
  cases q3
  cases q2
  have hk : k / 32 < h.length := (List.getElem?_eq_some_iff.mp r1).1
  have hm : k % 32 < r.length := (List.getElem?_eq_some_iff.mp r2).1
  show x_bind (x_nth (x_upd h (k / 32) (x_upd r (k % 32) c)) (j / 32)) (fun r => x_nth r (j % 32)) = if j = k then some c else x_bind (x_nth h (j / 32)) (fun r => x_nth r (j % 32))
  rw [x_upd_eq, x_upd_eq, x_nth_eq, x_nth_eq, List.getElem?_set]
  by_cases h1 : k / 32 = j / 32
  · rw [if_pos h1, if_pos (by omega), ← h1, r1]
    show x_nth (r.set (k % 32) c) (j % 32) = if j = k then some c else x_nth r (j % 32)
    rw [x_nth_eq, x_nth_eq, List.getElem?_set]
    by_cases h2 : k % 32 = j % 32
    · rw [if_pos h2, if_pos (by omega), if_pos (by omega)]
    · rw [if_neg h2, if_neg (fun e => h2 (by rw [e]))]
  · rw [if_neg h1, if_neg (fun e => h1 (by rw [e]))]
theorem x_hget_hpush {h h2 : XH} {n : Nat} {c : XC} (e : x_hpush h n c = some h2) (j : Nat) (hn : ∀ k c0, x_hget h k = some c0 → k < n) : x_hget h2 j = if j = n then some c else x_hget h j := by
  unfold x_hpush at e
  rcases x_if_some e with ⟨b, e⟩ | ⟨b, e⟩
  · obtain ⟨b2, e⟩ := x_if_n e
    cases e
    have hm : n % 32 = 0 := x_beq b
    have hl : h.length = n / 32 := by rw [← x_len_eq]; exact x_beq b2
    show x_bind (x_nth (h ++ [[c]]) (j / 32)) (fun r => x_nth r (j % 32)) = if j = n then some c else x_bind (x_nth h (j / 32)) (fun r => x_nth r (j % 32))
    rw [x_nth_eq, x_nth_eq]
    by_cases h1 : j / 32 < h.length
    · rw [List.getElem?_append_left h1, if_neg (by omega)]
    · rw [List.getElem?_append_right (by omega), List.getElem?_eq_none (by omega : h.length ≤ j / 32)]
      by_cases h3 : j / 32 = h.length
      · rw [h3, Nat.sub_self]
        show x_nth [c] (j % 32) = _
        rw [x_nth_eq]
        by_cases h4 : j = n
        · rw [if_pos h4, show j % 32 = 0 by omega]; rfl
        · rw [if_neg h4, show j % 32 = (j % 32 - 1) + 1 by omega]; rfl
      · rw [if_neg (by omega), List.getElem?_eq_none (by show 1 ≤ _; omega)]
        
  · obtain ⟨r, r1, e⟩ := x_bind_some e
    obtain ⟨b2, e⟩ := x_if_n e
    cases e
    rw [x_nth_eq] at r1
    have hl : r.length = n % 32 := by rw [← x_len_eq]; exact x_beq b2
    have hk : n / 32 < h.length := (List.getElem?_eq_some_iff.mp r1).1
    show x_bind (x_nth (x_upd h (n / 32) (r ++ [c])) (j / 32)) (fun r => x_nth r (j % 32)) = if j = n then some c else x_bind (x_nth h (j / 32)) (fun r => x_nth r (j % 32))
    rw [x_upd_eq, x_nth_eq, x_nth_eq, List.getElem?_set]
    by_cases h1 : n / 32 = j / 32
    · rw [if_pos h1, if_pos hk, ← h1, show h[n / 32]? = some r from r1]
      show x_nth (r ++ [c]) (j % 32) = if j = n then some c else x_nth r (j % 32)
      rw [x_nth_eq, x_nth_eq]
      by_cases h2 : j % 32 < r.length
      · rw [List.getElem?_append_left h2, if_neg (by omega)]
      · rw [List.getElem?_append_right (by omega), List.getElem?_eq_none (by omega : r.length ≤ j % 32)]
        by_cases h4 : j = n
        · rw [if_pos h4, show j % 32 - r.length = 0 by omega]; rfl
        · rw [if_neg h4, List.getElem?_eq_none (by show 1 ≤ _; omega)]
    · rw [if_neg h1, if_neg (fun e => h1 (by rw [e]))]
end AMLAWS
