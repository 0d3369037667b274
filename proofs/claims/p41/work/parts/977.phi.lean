section FPHI
set_option maxRecDepth 100000
noncomputable def x_rl (g : XG) : Nat → Nat := fun i => ((x_gget g i).getD (0, 0, 0)).2.1
def x_cc (q : FC) (c : XC) : Prop := c.1 = q.1 ∧ c.2.1 = q.2.1 ∧ x_glen c.2.2 = q.2.2.1 ∧ ∀ i, i < q.2.2.1 → x_gget c.2.2 i = some (q.2.2.2 i)
def x_tagb (t : Nat) : XG → Bool
  | [] => true
  | s :: g => (Nat.beq s.2.1 t && Nat.beq s.2.2.2 0) && x_tagb t g
def x_maxb (B : Nat) : XG → Bool
  | [] => true
  | s :: g => Nat.ble (Nat.succ s.2.2.1) B && x_maxb B g
theorem x_ggetC (s : Nat × XV) (g : XG) (i : Nat) : x_gget (s :: g) i = if i < s.1 then some s.2 else x_gget g (i - s.1) := by
  show x_if (Nat.ble (Nat.succ i) s.1) (some s.2) (x_gget g (Nat.sub i s.1)) = _
  rw [x_if_eq]
  by_cases h : i < s.1
  · rw [if_pos h, if_pos (Nat.ble_eq.mpr h)]
  · rw [if_neg h, if_neg (fun z => h (Nat.ble_eq.mp z))]; rfl
theorem x_gget_tag {t : Nat} : ∀ {g : XG}, x_tagb t g = true → ∀ i, i < x_glen g → ∃ a, x_gget g i = some (t, a, 0)
  | [], _, i, hi => absurd hi (Nat.not_lt_zero _)
  | s :: g, ht, i, hi => by
    have h1 := Bool.and_eq_true_iff.mp (show ((Nat.beq s.2.1 t && Nat.beq s.2.2.2 0) && x_tagb t g) = true from ht)
    have h2 := Bool.and_eq_true_iff.mp h1.1
    rw [x_ggetC]
    by_cases h : i < s.1
    · rw [if_pos h]
      exact ⟨s.2.2.1, by rw [show s.2 = (s.2.1, s.2.2.1, s.2.2.2) from rfl, Nat.eq_of_beq_eq_true h2.1, Nat.eq_of_beq_eq_true h2.2]⟩
    · rw [if_neg h]
      have hi : i < s.1 + x_glen g := hi
      exact x_gget_tag h1.2 _ (by omega)
theorem zcc_a {k c n t : Nat} {g : XG} (hn : x_glen g = n) (ht : x_tagb t g = true) : x_cc (k, c, n, fun i => (t, x_rl g i, 0)) (k, c, g) := by
  refine ⟨rfl, rfl, hn, fun i hi => ?_⟩
  obtain ⟨a, ha⟩ := x_gget_tag ht i (by rw [hn]; exact hi)
  show x_gget g i = some (t, x_rl g i, 0)
  unfold x_rl
  rw [ha]; rfl
theorem x_rl_lt {B : Nat} (hB : 0 < B) : ∀ {g : XG}, x_maxb B g = true → ∀ i, x_rl g i < B
  | [], _, i => hB
  | s :: g, hm, i => by
    have h1 := Bool.and_eq_true_iff.mp (show (Nat.ble (Nat.succ s.2.2.1) B && x_maxb B g) = true from hm)
    have hr := x_rl_lt hB h1.2 (i - s.1)
    unfold x_rl at hr ⊢
    rw [x_ggetC]
    by_cases h : i < s.1
    · rw [if_pos h]; exact Nat.ble_eq.mp h1.1
    · rw [if_neg h]; exact hr
theorem x_rl_one {n t v i : Nat} (h : i < n) : x_rl [(n, t, v, 0)] i = v := by
  unfold x_rl
  rw [x_ggetC, if_pos h]; rfl
def x_all2 {α β : Type} (R : α → β → Prop) : List α → List β → Prop
  | [], [] => True
  | a :: s, b :: t => R a b ∧ x_all2 R s t
  | _, _ => False
theorem x_all2_nil {α β : Type} {R : α → β → Prop} : x_all2 R [] [] := trivial
theorem x_all2_cons {α β : Type} {R : α → β → Prop} {a : α} {b : β} {s : List α} {t : List β} (h : R a b) (g : x_all2 R s t) : x_all2 R (a :: s) (b :: t) := ⟨h, g⟩
theorem x_all2_get {α β : Type} {R : α → β → Prop} : ∀ {s : List α} {t : List β}, x_all2 R s t → ∀ i : Nat, (s[i]? = none ∧ t[i]? = none) ∨ ∃ x y, s[i]? = some x ∧ t[i]? = some y ∧ R x y
  | [], [], _, i => Or.inl ⟨rfl, rfl⟩
  | a :: s, b :: t, h, 0 => Or.inr ⟨a, b, rfl, rfl, h.1⟩
  | a :: s, b :: t, h, i + 1 => x_all2_get (show x_all2 R s t from h.2) i
  | [], _ :: _, h, _ => h.elim
  | _ :: _, [], h, _ => h.elim
def x_phi (R : List (List FC)) : FH := fun k => (R[k / 32]?).bind (fun r => r[k % 32]?)
theorem x_h_of {R : List (List FC)} {h : XH} {n : Nat} (h1 : h.length = (n + 31) / 32) (h2 : (List.range h.length).all (fun i => (h.getD i []).length == min 32 (n - 32 * i)) = true) (h3 : x_all2 (x_all2 x_cc) R h) : x_h (x_phi R) n h := by
  refine ⟨h1, fun i r hr => ?_, fun k => ?_⟩
  · obtain ⟨hi, -⟩ := List.getElem?_eq_some_iff.mp hr
    have q := eq_of_beq (List.all_eq_true.mp h2 i (List.mem_range.mpr hi))
    rw [List.getD_eq_getElem?_getD, hr] at q
    exact q
  · show x_c ((R[k / 32]?).bind (fun r => r[k % 32]?)) (x_bind (x_nth h (k / 32)) (fun r => x_nth r (k % 32)))
    rw [x_nth_eq]
    rcases x_all2_get h3 (k / 32) with ⟨e1, e2⟩ | ⟨r, r2, e1, e2, e3⟩
    · rw [e1, e2]; exact trivial
    · rw [e1, e2]
      show x_c (r[k % 32]?) (x_nth r2 (k % 32))
      rw [x_nth_eq]
      rcases x_all2_get e3 (k % 32) with ⟨f1, f2⟩ | ⟨q, c, f1, f2, f3⟩
      · rw [f1, f2]; exact trivial
      · rw [f1, f2]; exact f3
end FPHI
