section FRULES
/-- what is wanted at an end: how it ended, its value, the cells, how many, their slots -/
abbrev FP : Type := Nat → XV → FH → Nat → Nat → Prop
def x_end (Post : FP) (r : Nat × XV × XH × Nat × Nat) : Prop := ∃ φ, x_h φ r.2.2.2.1 r.2.2.1 ∧ Post r.1 r.2.1 φ r.2.2.2.1 r.2.2.2.2
/-- from this point on the method ends so -/
def x_n (P : List (List XI)) (d : Nat) (code : List XI) (pc : Nat) (stk loc : List XV) (φ : FH) (n sl : Nat) (Post : FP) : Prop :=
  ∀ h, x_h φ n h → ∃ r, x_end Post r ∧ ∃ f F0, ∀ F, F0 ≤ F → x_run (x_dep P F d) f code pc stk loc h n sl = some r
/-- a call of method M ends so -/
def x_f (P : List (List XI)) (d M : Nat) (loc : List XV) (φ : FH) (n sl : Nat) (Post : FP) : Prop :=
  ∀ h, x_h φ n h → ∃ r, x_end Post r ∧ ∃ F0, ∀ F, F0 ≤ F → x_dep P F d M loc h n sl = some r
theorem x_f_of {P : List (List XI)} {d M : Nat} {cd : List XI} {loc : List XV} {φ : FH} {n sl : Nat} {Post : FP} (hc : x_nth P M = some cd) (kk : x_n P d cd 0 [] loc φ n sl Post) : x_f P (d + 1) M loc φ n sl Post := by
  intro h hh
  obtain ⟨r, h1, f, F0, h2⟩ := kk h hh
  refine ⟨r, h1, max f F0, fun F hF => ?_⟩
  show x_bind (x_nth P M) (fun cd => x_run (x_dep P F d) F cd 0 [] loc h n sl) = some r
  rw [hc]
  exact x_run_mono (Nat.le_trans (Nat.le_max_left _ _) hF) _ _ _ _ _ _ _ r (h2 F (Nat.le_trans (Nat.le_max_right _ _) hF))
theorem x_f_mono {P : List (List XI)} {d M : Nat} {loc : List XV} {φ : FH} {n sl : Nat} {Post Post' : FP} (kk : x_f P d M loc φ n sl Post) (hp : ∀ t v φ n sl, Post t v φ n sl → Post' t v φ n sl) : x_f P d M loc φ n sl Post' := by
  intro h hh
  obtain ⟨r, ⟨φ2, h1, h2⟩, h3⟩ := kk h hh
  exact ⟨r, ⟨φ2, h1, hp _ _ _ _ _ h2⟩, h3⟩
theorem x_n_mono {P : List (List XI)} {d pc : Nat} {code : List XI} {stk loc : List XV} {φ : FH} {n sl : Nat} {Post Post' : FP} (kk : x_n P d code pc stk loc φ n sl Post) (hp : ∀ t v φ n sl, Post t v φ n sl → Post' t v φ n sl) : x_n P d code pc stk loc φ n sl Post' := by
  intro h hh
  obtain ⟨r, ⟨φ2, h1, h2⟩, h3⟩ := kk h hh
  exact ⟨r, ⟨φ2, h1, hp _ _ _ _ _ h2⟩, h3⟩
section
variable {P : List (List XI)} {d pc p2 n sl : Nat} {code : List XI} {stk t loc : List XV} {φ : FH} {Post : FP}
theorem x_run_op {K : XK} {f : Nat} {i : XI} {g : XO} {h : XH} (hc : x_nth code pc = some i) (ho : x_nth x_ops i.1 = some g) : x_run K (f + 1) code pc stk loc h n sl = g K (x_run K f) code i pc stk loc h n sl := by
  show Option.rec (motive := fun _ => XR) none (fun i => Option.rec (motive := fun _ => XR) none (fun g => g K (x_run K f) code i pc stk loc h n sl) (x_nth x_ops i.1)) (x_nth code pc) = _
  rw [hc]
  show Option.rec (motive := fun _ => XR) none (fun g => g K (x_run K f) code i pc stk loc h n sl) (x_nth x_ops i.1) = _
  rw [ho]
/-- a step that leaves the cells -/
theorem x_n_go {stk2 loc2 : List XV} (hs : ∀ (K : XK) (f : Nat) (h : XH), x_h φ n h → x_run K (f + 1) code pc stk loc h n sl = x_run K f code p2 stk2 loc2 h n sl) (kk : x_n P d code p2 stk2 loc2 φ n sl Post) : x_n P d code pc stk loc φ n sl Post := by
  intro h hh
  obtain ⟨r, h1, f, F0, h2⟩ := kk h hh
  exact ⟨r, h1, f + 1, F0, fun F hF => by rw [hs _ _ h hh]; exact h2 F hF⟩
/-- a step that changes the cells -/
theorem x_n_goh {stk2 loc2 : List XV} {φ2 : FH} {n2 sl2 : Nat} (hs : ∀ h, x_h φ n h → ∃ h2, x_h φ2 n2 h2 ∧ ∀ (K : XK) (f : Nat), x_run K (f + 1) code pc stk loc h n sl = x_run K f code p2 stk2 loc2 h2 n2 sl2) (kk : x_n P d code p2 stk2 loc2 φ2 n2 sl2 Post) : x_n P d code pc stk loc φ n sl Post := by
  intro h hh
  obtain ⟨h2, g1, g2⟩ := hs h hh
  obtain ⟨r, h1, f, F0, h3⟩ := kk h2 g1
  exact ⟨r, h1, f + 1, F0, fun F hF => by rw [g2]; exact h3 F hF⟩
theorem q_load {a b : Nat} {tb : List (Nat × Nat)} {v : XV} (hc : x_nth code pc = some (0, a, b, tb)) (hv : x_nth loc a = some v) (hk : Nat.beq (x_kd v.1) b = true) (hp : pc + 1 = p2) (kk : x_n P d code p2 (v :: t) loc φ n sl Post) : x_n P d code pc t loc φ n sl Post := by
  subst hp
  refine x_n_go (fun K f h _ => (x_run_op hc rfl).trans ?_) kk
  show x_bind (x_nth loc a) _ = _
  rw [hv]
  show x_if (Nat.beq (x_kd v.1) b) (x_force (pc + 1) _) none = _
  rw [hk, x_if_true, x_force_eq]
theorem q_getf {a b k len : Nat} {tb : List (Nat × Nat)} {f : Nat → XV} (hc : x_nth code pc = some (1, a, b, tb)) (hg : φ k = some (0, a, len, f)) (hb : b < len) (hp : pc + 1 = p2) (kk : x_n P d code p2 (f b :: t) loc φ n sl Post) : x_n P d code pc ((6, k, 0) :: t) loc φ n sl Post := by
  subst hp
  refine x_n_go (fun K f' h hh => (x_run_op hc rfl).trans ?_) kk
  obtain ⟨g, e1, e2, e3⟩ := x_h_get hh hg
  show Option.rec (motive := fun _ => XR) none (fun c => x_if (Nat.beq c.1 0) (x_if (Nat.beq c.2.1 a) (Option.rec (motive := fun _ => XR) none (fun v => x_force (pc + 1) _) (x_gget c.2.2 b)) none) none) (x_hget h k) = _
  rw [e1]
  show x_if (Nat.beq a a) (Option.rec (motive := fun _ => XR) none (fun v => x_force (pc + 1) _) (x_gget g b)) none = _
  rw [Nat.beq_refl, x_if_true, e3 b hb]
  show x_force (pc + 1) _ = _
  rw [x_force_eq]
theorem q_const {a b : Nat} {tb : List (Nat × Nat)} (hc : x_nth code pc = some (2, a, b, tb)) (hp : pc + 1 = p2) (kk : x_n P d code p2 ((a, b, 0) :: t) loc φ n sl Post) : x_n P d code pc t loc φ n sl Post := by
  subst hp
  refine x_n_go (fun K f h _ => (x_run_op hc rfl).trans ?_) kk
  show x_force (pc + 1) _ = _
  rw [x_force_eq]
/-- an int, moved by 2^31 -/
def x_m (x : Nat) : Nat := (x + 2147483648) % 4294967296
def x_ml (x : Nat) : Nat := (x + 9223372036854775808) % 18446744073709551616
theorem x_mmL (a b : Nat) : Nat.mod (Nat.add a b) 18446744073709551616 = (a + b) % 18446744073709551616 := rfl
theorem xe_rng (x : XV) : x_rng x = x_if (Nat.beq x.1 0) (x_force (Nat.mod (Nat.add x.2.1 2147483648) 4294967296) (fun s => some (s, s))) (x_if (Nat.beq x.1 1) (some x.2) none) := rfl
theorem xe_rngL (x : XV) : x_rngL x = x_if (Nat.beq x.1 2) (x_force (Nat.mod (Nat.add x.2.1 9223372036854775808) 18446744073709551616) (fun s => some (s, s))) (x_if (Nat.beq x.1 3) (some x.2) none) := rfl
theorem x_rng_i (x : Nat) : x_rng (0, x, 0) = some (x_m x, x_m x) := by
  rw [xe_rng]
  dsimp only
  rw [Nat.beq_refl, x_if_true, x_force_eq, x_mm]
  unfold x_m
  rfl
theorem x_rngL_l (x : Nat) : x_rngL (2, x, 0) = some (x_ml x, x_ml x) := by
  rw [xe_rngL]
  dsimp only
  rw [Nat.beq_refl, x_if_true, x_force_eq, x_mmL]
  unfold x_ml
  rfl
theorem x_bind_s {α β : Type} (a : α) (k : α → Option β) : x_bind (some a) k = k a := rfl
theorem xe_I (n : Nat) (k : XV → XR) : x_I n k = k (0, n % 4294967296, 0) := by
  show x_force (Nat.mod n 4294967296) (fun r => k (0, r, 0)) = _
  rw [x_force_eq]; rfl
theorem xe_L (n : Nat) (k : XV → XR) : x_L n k = k (2, n % 18446744073709551616, 0) := by
  show x_force (Nat.mod n 18446744073709551616) (fun r => k (2, r, 0)) = _
  rw [x_force_eq]; rfl
section
variable {K : XK} {ih : XF} {i : XI} {h : XH} {x y : XV}
theorem xe_icmp : xo_icmp K ih code i pc (y :: x :: t) loc h n sl = x_goif (x_bind (x_rng x) (fun a => x_bind (x_rng y) (fun b => x_cmp i.2.1 a b))) i.2.2.1 pc (fun p => ih code p t loc h n sl) := rfl
theorem xe_if0 : xo_if0 K ih code i pc (x :: t) loc h n sl = x_goif (x_bind (x_rng x) (fun a => x_cmp i.2.1 a (2147483648, 2147483648))) i.2.2.1 pc (fun p => ih code p t loc h n sl) := rfl
theorem xe_iinc : xo_iinc K ih code i pc t loc h n sl = x_bind (x_nth loc i.2.1) (fun v => x_if (Nat.beq v.1 0) (x_I (v.2.1 + i.2.2.1) (fun w => x_force (Nat.succ pc) (fun p => ih code p t (x_upd (x_clean loc i.2.1) i.2.1 w) h n sl))) none) := rfl
theorem xe_alen : xo_alen K ih code i pc (x :: t) loc h n sl = x_if (Nat.beq x.1 6) (x_bind (x_hget h x.2.1) (fun c => x_if (Nat.beq c.1 0) none (x_I (x_glen c.2.2) (fun w => x_force (Nat.succ pc) (fun p => ih code p (w :: t) loc h n sl)))))
      (x_if (Nat.beq x.1 12) (x_force (Nat.succ pc) (fun p => ih code p ((0, 0, 0) :: t) loc h n sl)) none) := rfl
theorem xe_iop : xo_iop K ih code i pc (y :: x :: t) loc h n sl = x_if (Nat.beq x.1 0) (x_if (Nat.beq y.1 0) (x_bind (x_iop i.2.1 x.2.1 y.2.1) (fun r => x_I r (fun w => x_force (Nat.succ pc) (fun p => ih code p (w :: t) loc h n sl)))) none) none := rfl
theorem xe_lop : xo_lop K ih code i pc (y :: x :: t) loc h n sl = x_if (Nat.beq x.1 2) (x_if (Nat.beq y.1 (x_if (Nat.beq i.2.1 6) 0 2)) (x_bind (x_lop i.2.1 x.2.1 y.2.1) (fun r => x_L r (fun w => x_force (Nat.succ pc) (fun p => ih code p (w :: t) loc h n sl)))) none) none := rfl
theorem xe_i2l : xo_i2l K ih code i pc (x :: t) loc h n sl = x_if (Nat.beq x.1 0) (x_force (x.2.1 % 4294967296) (fun y => x_force (y + (x_if (x_sgn y) 18446744069414584320 0)) (fun q => x_force (Nat.succ pc) (fun p => ih code p ((2, q, 0) :: t) loc h n sl)))) none := rfl
theorem xe_l2i : xo_l2i K ih code i pc (x :: t) loc h n sl = x_if (Nat.beq x.1 2) (x_I x.2.1 (fun w => x_force (Nat.succ pc) (fun p => ih code p (w :: t) loc h n sl))) none := rfl
theorem xe_lcmp : xo_lcmp K ih code i pc (y :: x :: t) loc h n sl = x_bind (x_rngL x) (fun a => x_bind (x_rngL y) (fun b => x_bind (x_if (Nat.ble (Nat.succ a.2) b.1) (some 4294967295) (x_if (Nat.ble (Nat.succ b.2) a.1) (some 1) (x_bind (x_eq a b) (fun q => x_if q (some 0) none)))) (fun r => x_force (Nat.succ pc) (fun p => ih code p ((0, r, 0) :: t) loc h n sl)))) := rfl
theorem xe_imm : xo_imm K ih code i pc (y :: x :: t) loc h n sl = x_if (Nat.beq x.1 0) (x_if (Nat.beq y.1 0) (x_if (Nat.ble (x_cats t) 8) (x_force (x_if (x_if (Nat.beq i.2.1 0) (Nat.ble (Nat.succ (Nat.mod (Nat.add y.2.1 2147483648) 4294967296)) (Nat.mod (Nat.add x.2.1 2147483648) 4294967296)) (Nat.ble (Nat.succ (Nat.mod (Nat.add x.2.1 2147483648) 4294967296)) (Nat.mod (Nat.add y.2.1 2147483648) 4294967296))) y.2.1 x.2.1)
      (fun w => x_force (Nat.succ pc) (fun p => ih code p ((0, w, 0) :: t) loc h n sl))) none) none) none := rfl
end
/-- what a comparison asks -/
def x_cq (c a b : Nat) : Prop := match c with
  | 0 => a = b
  | 1 => ¬ a = b
  | 2 => a < b
  | 3 => ¬ a < b
  | 4 => b < a
  | _ => ¬ b < a
theorem x_lt_pt (a b : Nat) : (a < b → x_lt (a, a) (b, b) = some true) ∧ (¬ a < b → x_lt (a, a) (b, b) = some false) := by
  constructor
  · intro h
    show x_if (Nat.ble (a + 1) b) (some true) _ = _
    rw [Nat.ble_eq_true_of_le h, x_if_true]
  · intro h
    show x_if (Nat.ble (a + 1) b) (some true) (x_if (Nat.ble b a) (some false) none) = _
    have e : Nat.ble (a + 1) b = false := by
      cases hb : Nat.ble (a + 1) b with
      | true => exact absurd (x_ble hb) h
      | false => rfl
    rw [e, x_if_false, Nat.ble_eq_true_of_le (Nat.le_of_not_lt h), x_if_true]
theorem x_eq_pt (a b : Nat) : (a = b → x_eq (a, a) (b, b) = some true) ∧ (¬ a = b → x_eq (a, a) (b, b) = some false) := by
  have nb : ∀ x y : Nat, ¬ x + 1 ≤ y → Nat.ble (x + 1) y = false := by
    intro x y h
    cases hb : Nat.ble (x + 1) y with
    | true => exact absurd (x_ble hb) h
    | false => rfl
  constructor
  · intro h
    subst h
    show x_if (Nat.ble (a + 1) a) (some false) (x_if (Nat.ble (a + 1) a) (some false) (x_if (Nat.beq a a) (x_if (Nat.beq a a) (some (Nat.beq a a)) none) none)) = _
    rw [nb a a (by omega), x_if_false, x_if_false, Nat.beq_refl, x_if_true, x_if_true]
  · intro h
    show x_if (Nat.ble (a + 1) b) (some false) (x_if (Nat.ble (b + 1) a) (some false) _) = _
    rcases Nat.lt_or_ge a b with q | q
    · rw [Nat.ble_eq_true_of_le q, x_if_true]
    · rw [nb a b (by omega), x_if_false, Nat.ble_eq_true_of_le (show b + 1 ≤ a by omega), x_if_true]
theorem x_cmp_pt {c a b : Nat} (hc : c < 6) : (x_cq c a b → x_cmp c (a, a) (b, b) = some true) ∧ (¬ x_cq c a b → x_cmp c (a, a) (b, b) = some false) := by
  obtain ⟨l1, l2⟩ := x_lt_pt a b
  obtain ⟨l3, l4⟩ := x_lt_pt b a
  obtain ⟨e1, e2⟩ := x_eq_pt a b
  match c, hc with
  | 0, _ => exact ⟨e1, e2⟩
  | 1, _ => exact ⟨fun h => by show x_not (x_eq (a, a) (b, b)) = _; rw [e2 h]; rfl, fun h => by show x_not (x_eq (a, a) (b, b)) = _; rw [e1 (Classical.not_not.mp h)]; rfl⟩
  | 2, _ => exact ⟨l1, l2⟩
  | 3, _ => exact ⟨fun h => by show x_not (x_lt (a, a) (b, b)) = _; rw [l2 h]; rfl, fun h => by show x_not (x_lt (a, a) (b, b)) = _; rw [l1 (Classical.not_not.mp h)]; rfl⟩
  | 4, _ => exact ⟨l3, l4⟩
  | 5, _ => exact ⟨fun h => by show x_not (x_lt (b, b) (a, a)) = _; rw [l4 h]; rfl, fun h => by show x_not (x_lt (b, b) (a, a)) = _; rw [l3 (Classical.not_not.mp h)]; rfl⟩
theorem x_goif_t {tgt : Nat} {k : Nat → XR} : x_goif (some true) tgt pc k = k tgt := by
  show x_force tgt k = _
  rw [x_force_eq]
theorem x_goif_f {tgt : Nat} {k : Nat → XR} : x_goif (some false) tgt pc k = k (pc + 1) := by
  show x_force (pc + 1) k = _
  rw [x_force_eq]
theorem q_icmp {a tgt x y : Nat} {tb : List (Nat × Nat)} (hc : x_nth code pc = some (3, a, tgt, tb)) (ha : a < 6) (hp : pc + 1 = p2) (kt : x_cq a (x_m x) (x_m y) → x_n P d code tgt t loc φ n sl Post) (kf : ¬ x_cq a (x_m x) (x_m y) → x_n P d code p2 t loc φ n sl Post) : x_n P d code pc ((0, y, 0) :: (0, x, 0) :: t) loc φ n sl Post := by
  subst hp
  obtain ⟨h1, h2⟩ := x_cmp_pt (a := x_m x) (b := x_m y) ha
  by_cases hq : x_cq a (x_m x) (x_m y)
  · refine x_n_go (fun K f h _ => (x_run_op hc rfl).trans ?_) (kt hq)
    rw [xe_icmp, x_rng_i, x_rng_i, x_bind_s, x_bind_s]
    dsimp only
    rw [h1 hq, x_goif_t]
  · refine x_n_go (fun K f h _ => (x_run_op hc rfl).trans ?_) (kf hq)
    rw [xe_icmp, x_rng_i, x_rng_i, x_bind_s, x_bind_s]
    dsimp only
    rw [h2 hq, x_goif_f]
theorem q_if0 {a tgt x : Nat} {tb : List (Nat × Nat)} (hc : x_nth code pc = some (4, a, tgt, tb)) (ha : a < 6) (hp : pc + 1 = p2) (kt : x_cq a (x_m x) 2147483648 → x_n P d code tgt t loc φ n sl Post) (kf : ¬ x_cq a (x_m x) 2147483648 → x_n P d code p2 t loc φ n sl Post) : x_n P d code pc ((0, x, 0) :: t) loc φ n sl Post := by
  subst hp
  obtain ⟨h1, h2⟩ := x_cmp_pt (a := x_m x) (b := 2147483648) ha
  by_cases hq : x_cq a (x_m x) 2147483648
  · refine x_n_go (fun K f h _ => (x_run_op hc rfl).trans ?_) (kt hq)
    rw [xe_if0, x_rng_i, x_bind_s]
    dsimp only
    rw [h1 hq, x_goif_t]
  · refine x_n_go (fun K f h _ => (x_run_op hc rfl).trans ?_) (kf hq)
    rw [xe_if0, x_rng_i, x_bind_s]
    dsimp only
    rw [h2 hq, x_goif_f]
theorem q_goto {a b : Nat} {tb : List (Nat × Nat)} (hc : x_nth code pc = some (5, a, b, tb)) (kk : x_n P d code a t loc φ n sl Post) : x_n P d code pc t loc φ n sl Post := by
  refine x_n_go (fun K f h _ => (x_run_op hc rfl).trans ?_) kk
  show x_force a _ = _
  rw [x_force_eq]
theorem q_iinc {a b x : Nat} {tb : List (Nat × Nat)} {loc2 : List XV} {z : Nat} (hc : x_nth code pc = some (6, a, b, tb)) (hv : x_nth loc a = some (0, x, 0)) (hz : (x + b) % 4294967296 = z) (hl : x_upd (x_clean loc a) a (0, z, 0) = loc2) (hp : pc + 1 = p2) (kk : x_n P d code p2 t loc2 φ n sl Post) : x_n P d code pc t loc φ n sl Post := by
  subst hp hl hz
  refine x_n_go (fun K f h _ => (x_run_op hc rfl).trans ?_) kk
  rw [xe_iinc]
  dsimp only
  rw [hv, x_bind_s]
  dsimp only
  rw [Nat.beq_refl, x_if_true, xe_I, x_force_eq]
theorem q_store {a b : Nat} {tb : List (Nat × Nat)} {v : XV} {loc2 : List XV} (hc : x_nth code pc = some (7, a, b, tb)) (hk : Nat.beq (x_kd v.1) b = true) (hln : Nat.ble (a + 1) (x_len loc) = true) (hl : x_upd (x_clean loc a) a v = loc2) (hp : pc + 1 = p2) (kk : x_n P d code p2 t loc2 φ n sl Post) : x_n P d code pc (v :: t) loc φ n sl Post := by
  subst hp hl
  refine x_n_go (fun K f h _ => (x_run_op hc rfl).trans ?_) kk
  show x_if (Nat.beq (x_kd v.1) b) (x_if (Nat.ble (a + 1) (x_len loc)) (x_force (pc + 1) _) none) none = _
  rw [hk, x_if_true, hln, x_if_true, x_force_eq]
theorem q_store2 {a b : Nat} {tb : List (Nat × Nat)} {v : XV} {loc2 : List XV} (hc : x_nth code pc = some (21, a, b, tb)) (hk : Nat.beq (x_kd v.1) b = true) (hln : Nat.ble (a + 1 + 1) (x_len loc) = true) (hl : x_upd (x_upd (x_clean loc a) a v) (a + 1) (11, 0, 0) = loc2) (hp : pc + 1 = p2) (kk : x_n P d code p2 t loc2 φ n sl Post) : x_n P d code pc (v :: t) loc φ n sl Post := by
  subst hp hl
  refine x_n_go (fun K f h _ => (x_run_op hc rfl).trans ?_) kk
  show x_if (Nat.beq (x_kd v.1) b) (x_if (Nat.ble (a + 1 + 1) (x_len loc)) (x_force (pc + 1) _) none) none = _
  rw [hk, x_if_true, hln, x_if_true, x_force_eq]
theorem x_sgn_f {j : Nat} (h : j < 2147483648) : x_sgn j = false := by
  show Nat.ble 2147483648 j = false
  cases hb : Nat.ble 2147483648 j with
  | true => have := x_ble hb; omega
  | false => rfl
theorem q_ald {a b k j c len : Nat} {tb : List (Nat × Nat)} {f : Nat → XV} (hc : x_nth code pc = some (16, a, b, tb)) (hg : φ k = some (a, c, len, f)) (hj : j < len) (h31 : j < 2147483648) (hp : pc + 1 = p2) (kk : x_n P d code p2 (f j :: t) loc φ n sl Post) : x_n P d code pc ((0, j, 0) :: (6, k, 0) :: t) loc φ n sl Post := by
  subst hp
  refine x_n_go (fun K f' h hh => (x_run_op hc rfl).trans ?_) kk
  obtain ⟨g, e1, e2, e3⟩ := x_h_get hh hg
  show x_if (x_sgn j) none (x_bind (x_hget h k) (fun c => x_if (Nat.beq c.1 a) (x_bind (x_gget c.2.2 j) (fun v => x_force (pc + 1) _)) none)) = _
  rw [x_sgn_f h31, x_if_false, e1]
  show x_if (Nat.beq a a) (x_bind (x_gget g j) (fun v => x_force (pc + 1) _)) none = _
  rw [Nat.beq_refl, x_if_true, e3 j hj]
  show x_force (pc + 1) _ = _
  rw [x_force_eq]
theorem q_alen {a b k c len c1 : Nat} {tb : List (Nat × Nat)} {f : Nat → XV} (hc : x_nth code pc = some (9, a, b, tb)) (hg : φ k = some (c1, c, len, f)) (h0 : Nat.beq c1 0 = false) (h31 : len < 4294967296) (hp : pc + 1 = p2) (kk : x_n P d code p2 ((0, len, 0) :: t) loc φ n sl Post) : x_n P d code pc ((6, k, 0) :: t) loc φ n sl Post := by
  subst hp
  refine x_n_go (fun K f' h hh => (x_run_op hc rfl).trans ?_) kk
  obtain ⟨g, e1, e2, e3⟩ := x_h_get hh hg
  have e2 : x_glen g = len := e2
  rw [xe_alen]
  dsimp only
  rw [Nat.beq_refl, x_if_true, e1, x_bind_s]
  dsimp only
  rw [h0, x_if_false, xe_I, x_force_eq, e2, Nat.mod_eq_of_lt h31]
theorem q_alenN {a b : Nat} {tb : List (Nat × Nat)} (hc : x_nth code pc = some (9, a, b, tb)) (hp : pc + 1 = p2) (kk : x_n P d code p2 ((0, 0, 0) :: t) loc φ n sl Post) : x_n P d code pc ((12, 0, 0) :: t) loc φ n sl Post := by
  subst hp
  refine x_n_go (fun K f' h hh => (x_run_op hc rfl).trans ?_) kk
  rw [xe_alen]
  dsimp only
  rw [show Nat.beq 12 6 = false from rfl, x_if_false, Nat.beq_refl, x_if_true, x_force_eq]
theorem x_gs_len {g : XG} {b : Nat} {v : XV} : x_glen (x_gset g b v) = x_glen g := x_glen_gset g b v
theorem q_putf {a b k len : Nat} {tb : List (Nat × Nat)} {f : Nat → XV} {v : XV} (hc : x_nth code pc = some (10, a, b, tb)) (hg : φ k = some (0, a, len, f)) (hb : b < len) (hf : x_fitv (x_hd tb) v = true) (hp : pc + 1 = p2) (kk : x_n P d code p2 t loc (x_up φ k (0, a, len, x_fu f b v)) n sl Post) : x_n P d code pc (v :: (6, k, 0) :: t) loc φ n sl Post := by
  subst hp
  refine x_n_goh (fun h hh => ?_) kk
  obtain ⟨g, e1, e2, e3⟩ := x_h_get hh hg
  have e2 : x_glen g = len := e2
  obtain ⟨h2, s1, s2⟩ := x_h_set (q := (0, a, len, x_fu f b v)) (g := x_gset g b v) hh hg (by rw [x_gs_len]; exact e2) (fun i hi => by
    rw [x_gget_gset _ _ _ _ (by rw [e2]; exact hb)]
    show (if i = b then some v else x_gget g i) = some (if i = b then v else f i)
    by_cases h9 : i = b
    · rw [if_pos h9, if_pos h9]
    · rw [if_neg h9, if_neg h9]; exact e3 i hi)
  refine ⟨h2, s2, fun K f' => (x_run_op hc rfl).trans ?_⟩
  show x_if (x_fitv (x_hd tb) v) (x_bind (x_hget h k) (fun c => x_if (Nat.beq c.1 0) (x_if (Nat.beq c.2.1 a) (x_bind (x_gget c.2.2 b) (fun _ => x_bind (x_hset h k (0, c.2.1, x_gset c.2.2 b v)) (fun h2 => x_force (pc + 1) _))) none) none)) none = _
  rw [hf, x_if_true, e1]
  show x_if (Nat.beq a a) (x_bind (x_gget g b) (fun _ => x_bind (x_hset h k (0, a, x_gset g b v)) (fun h2 => x_force (pc + 1) _))) none = _
  rw [Nat.beq_refl, x_if_true, e3 b hb]
  show x_bind (x_hset h k (0, a, x_gset g b v)) (fun h2 => x_force (pc + 1) _) = _
  rw [s1]
  show x_force (pc + 1) _ = _
  rw [x_force_eq]
/-- what a row of kind t holds of a value: itself -/
def x_nv (t : Nat) (v w : XV) : Prop := ∀ k : XV → XR, x_nar t v k = k w
theorem x_nv_same {t : Nat} {v : XV} (h : Nat.beq (x_kd v.1) (x_akd t) = true) (ht : (t = 1 ∨ 6 ≤ t)) : x_nv t v v := by
  intro k
  show x_if (Nat.beq (x_kd v.1) (x_akd t)) (x_if (x_if (Nat.beq t 1) true (Nat.ble 6 t)) (k v) _) none = _
  rw [h, x_if_true]
  rcases ht with rfl | ht
  · rfl
  · have : x_if (Nat.beq t 1) true (Nat.ble 6 t) = true := by
      rw [Nat.ble_eq_true_of_le ht]
      cases Nat.beq t 1 <;> rfl
    rw [this, x_if_true]
theorem q_ast {a b k j c len : Nat} {tb : List (Nat × Nat)} {f : Nat → XV} {v w : XV} (hc : x_nth code pc = some (8, a, b, tb)) (hg : φ k = some (a, c, len, f)) (hj : j < len) (h31 : j < 2147483648) (hok : ∀ h, x_h φ n h → x_if (Nat.beq a 8) (x_okref h v c) true = true) (hw : x_nv a v w) (hp : pc + 1 = p2) (kk : x_n P d code p2 t loc (x_up φ k (a, c, len, x_fu f j w)) n sl Post) : x_n P d code pc (v :: (0, j, 0) :: (6, k, 0) :: t) loc φ n sl Post := by
  subst hp
  refine x_n_goh (fun h hh => ?_) kk
  obtain ⟨g, e1, e2, e3⟩ := x_h_get hh hg
  have e2 : x_glen g = len := e2
  obtain ⟨h2, s1, s2⟩ := x_h_set (q := (a, c, len, x_fu f j w)) (g := x_gset g j w) hh hg (by rw [x_gs_len]; exact e2) (fun i hi => by
    rw [x_gget_gset _ _ _ _ (by rw [e2]; exact hj)]
    show (if i = j then some w else x_gget g i) = some (if i = j then w else f i)
    by_cases h9 : i = j
    · rw [if_pos h9, if_pos h9]
    · rw [if_neg h9, if_neg h9]; exact e3 i hi)
  refine ⟨h2, s2, fun K f' => (x_run_op hc rfl).trans ?_⟩
  show x_if (x_sgn j) none (x_bind (x_hget h k) (fun c => x_if (Nat.beq c.1 a) (x_if (Nat.ble (j + 1) (x_glen c.2.2)) (x_if (x_if (Nat.beq c.1 8) (x_okref h v c.2.1) true) (x_nar c.1 v (fun w => x_bind (x_hset h k (c.1, c.2.1, x_gset c.2.2 j w)) (fun h2 => x_force (pc + 1) _))) none) none) none)) = _
  rw [x_sgn_f h31, x_if_false, e1]
  show x_if (Nat.beq a a) (x_if (Nat.ble (j + 1) (x_glen g)) (x_if (x_if (Nat.beq a 8) (x_okref h v c) true) (x_nar a v (fun w => x_bind (x_hset h k (a, c, x_gset g j w)) (fun h2 => x_force (pc + 1) _))) none) none) none = _
  rw [Nat.beq_refl, x_if_true, e2, Nat.ble_eq_true_of_le hj, x_if_true, hok h hh, x_if_true, hw]
  show x_bind (x_hset h k (a, c, x_gset g j w)) (fun h2 => x_force (pc + 1) _) = _
  rw [s1]
  show x_force (pc + 1) _ = _
  rw [x_force_eq]
theorem q_ret {a b : Nat} {tb : List (Nat × Nat)} (hc : x_nth code pc = some (12, a, b, tb)) (hq : Post 0 (5, 0, 0) φ n sl) : x_n P d code pc [] loc φ n sl Post := by
  intro h hh
  exact ⟨(0, (5, 0, 0), h, n, sl), ⟨φ, hh, hq⟩, 1, 0, fun F _ => (x_run_op hc rfl).trans rfl⟩
theorem q_retv {a b : Nat} {tb : List (Nat × Nat)} {v : XV} (hc : x_nth code pc = some (13, a, b, tb)) (hf : x_fitv a v = true) (hq : Post 1 v φ n sl) : x_n P d code pc [v] loc φ n sl Post := by
  intro h hh
  refine ⟨(1, v, h, n, sl), ⟨φ, hh, hq⟩, 1, 0, fun F _ => (x_run_op hc rfl).trans ?_⟩
  show x_if (x_fitv a v) (some (1, v, h, n, sl)) none = _
  rw [hf, x_if_true]
theorem q_dup {a b : Nat} {tb : List (Nat × Nat)} {v : XV} (hc : x_nth code pc = some (14, a, b, tb)) (h2 : x_cat2 v = false) (hp : pc + 1 = p2) (kk : x_n P d code p2 (v :: v :: t) loc φ n sl Post) : x_n P d code pc (v :: t) loc φ n sl Post := by
  subst hp
  refine x_n_go (fun K f h _ => (x_run_op hc rfl).trans ?_) kk
  show x_if (x_cat2 v) none (x_force (pc + 1) _) = _
  rw [h2, x_if_false, x_force_eq]
theorem q_pop {a b : Nat} {tb : List (Nat × Nat)} {v : XV} (hc : x_nth code pc = some (28, a, b, tb)) (h2 : x_cat2 v = false) (hp : pc + 1 = p2) (kk : x_n P d code p2 t loc φ n sl Post) : x_n P d code pc (v :: t) loc φ n sl Post := by
  subst hp
  refine x_n_go (fun K f h _ => (x_run_op hc rfl).trans ?_) kk
  show x_if (x_cat2 v) none (x_force (pc + 1) _) = _
  rw [h2, x_if_false, x_force_eq]
theorem q_iop {a b x y w z : Nat} {tb : List (Nat × Nat)} (hc : x_nth code pc = some (15, a, b, tb)) (hw : x_iop a x y = some w) (hz : w % 4294967296 = z) (hp : pc + 1 = p2) (kk : x_n P d code p2 ((0, z, 0) :: t) loc φ n sl Post) : x_n P d code pc ((0, y, 0) :: (0, x, 0) :: t) loc φ n sl Post := by
  subst hp hz
  refine x_n_go (fun K f h _ => (x_run_op hc rfl).trans ?_) kk
  rw [xe_iop]
  dsimp only
  rw [Nat.beq_refl, x_if_true, x_if_true, hw, x_bind_s, xe_I, x_force_eq]
theorem q_lop {a b x y w z : Nat} {tb : List (Nat × Nat)} {g : Nat} (hg : g = x_if (Nat.beq a 6) 0 2) (hc : x_nth code pc = some (22, a, b, tb)) (hw : x_lop a x y = some w) (hz : w % 18446744073709551616 = z) (hp : pc + 1 = p2) (kk : x_n P d code p2 ((2, z, 0) :: t) loc φ n sl Post) : x_n P d code pc ((g, y, 0) :: (2, x, 0) :: t) loc φ n sl Post := by
  subst hp hz
  refine x_n_go (fun K f h _ => (x_run_op hc rfl).trans ?_) kk
  rw [xe_lop]
  dsimp only
  rw [Nat.beq_refl, x_if_true, hg, Nat.beq_refl, x_if_true, hw, x_bind_s, xe_L, x_force_eq]
/-- i2l of an int that isn't below 0 -/
theorem q_i2l {a b x : Nat} {tb : List (Nat × Nat)} (hc : x_nth code pc = some (23, a, b, tb)) (hx : x < 2147483648) (hp : pc + 1 = p2) (kk : x_n P d code p2 ((2, x, 0) :: t) loc φ n sl Post) : x_n P d code pc ((0, x, 0) :: t) loc φ n sl Post := by
  subst hp
  refine x_n_go (fun K f h _ => (x_run_op hc rfl).trans ?_) kk
  rw [xe_i2l]
  dsimp only
  rw [Nat.beq_refl, x_if_true, x_force_eq, x_force_eq, x_force_eq, Nat.mod_eq_of_lt (show x < 4294967296 by omega), x_sgn_f hx, x_if_false]; rfl
theorem q_l2i {a b x z : Nat} {tb : List (Nat × Nat)} (hc : x_nth code pc = some (24, a, b, tb)) (hz : x % 4294967296 = z) (hp : pc + 1 = p2) (kk : x_n P d code p2 ((0, z, 0) :: t) loc φ n sl Post) : x_n P d code pc ((2, x, 0) :: t) loc φ n sl Post := by
  subst hp hz
  refine x_n_go (fun K f h _ => (x_run_op hc rfl).trans ?_) kk
  rw [xe_l2i]
  dsimp only
  rw [Nat.beq_refl, x_if_true, xe_I, x_force_eq]
theorem q_i2n {a b : Nat} {tb : List (Nat × Nat)} {v w : XV} (hc : x_nth code pc = some (25, a, b, tb)) (hw : x_nv a v w) (hp : pc + 1 = p2) (kk : x_n P d code p2 (w :: t) loc φ n sl Post) : x_n P d code pc (v :: t) loc φ n sl Post := by
  subst hp
  refine x_n_go (fun K f h _ => (x_run_op hc rfl).trans ?_) kk
  show x_nar a v (fun w => x_force (pc + 1) _) = _
  rw [hw, x_force_eq]
/-- what lcmp says: 2^32 - 1 below, 1 above, 0 the same -/
def x_lc (a b : Nat) : Nat := if a < b then 4294967295 else if b < a then 1 else 0
theorem q_lcmp {a b x y : Nat} {tb : List (Nat × Nat)} (hc : x_nth code pc = some (27, a, b, tb)) (hp : pc + 1 = p2) (kk : x_n P d code p2 ((0, x_lc (x_ml x) (x_ml y), 0) :: t) loc φ n sl Post) : x_n P d code pc ((2, y, 0) :: (2, x, 0) :: t) loc φ n sl Post := by
  subst hp
  refine x_n_go (fun K f h _ => (x_run_op hc rfl).trans ?_) kk
  rw [xe_lcmp, x_rngL_l, x_rngL_l, x_bind_s, x_bind_s]
  dsimp only
  have nb : ∀ x y : Nat, ¬ x + 1 ≤ y → Nat.ble (x + 1) y = false := by
    intro x y h
    cases hb : Nat.ble (x + 1) y with
    | true => exact absurd (x_ble hb) h
    | false => rfl
  unfold x_lc
  rcases Nat.lt_trichotomy (x_ml x) (x_ml y) with q | q | q
  · rw [if_pos q, Nat.ble_eq_true_of_le q, x_if_true, x_bind_s, x_force_eq]
  · rw [if_neg (by omega), if_neg (by omega), nb _ _ (by omega), x_if_false, nb _ _ (by omega), x_if_false, (x_eq_pt _ _).1 q, x_bind_s, x_if_true, x_bind_s, x_force_eq]
  · rw [if_neg (by omega), if_pos q, nb _ _ (by omega), x_if_false, Nat.ble_eq_true_of_le q, x_if_true, x_bind_s, x_force_eq]
theorem q_gets {a b : Nat} {tb : List (Nat × Nat)} (hc : x_nth code pc = some (31, a, b, tb)) (hp : pc + 1 = p2) (kk : x_n P d code p2 ((a, 0, 0) :: t) loc φ n sl Post) : x_n P d code pc t loc φ n sl Post := by
  subst hp
  refine x_n_go (fun K f h _ => (x_run_op hc rfl).trans ?_) kk
  show x_force (pc + 1) _ = _
  rw [x_force_eq]
theorem q_switch {a b x tgt : Nat} {tb : List (Nat × Nat)} (hc : x_nth code pc = some (33, a, b, tb)) (hx : x < 4294967296) (ht : x_assoc tb x b = tgt) (kk : x_n P d code tgt t loc φ n sl Post) : x_n P d code pc ((0, x, 0) :: t) loc φ n sl Post := by
  subst ht
  refine x_n_go (fun K f h _ => (x_run_op hc rfl).trans ?_) kk
  show x_force (Nat.mod x 4294967296) (fun w => x_force (x_assoc tb w b) _) = _
  rw [x_force_eq, x_force_eq]
  have e : Nat.mod x 4294967296 = x := Nat.mod_eq_of_lt hx
  rw [e]
/-- a new object -/
theorem q_new {a b : Nat} {tb : List (Nat × Nat)} {len : Nat} {f : Nat → XV} (hc : x_nth code pc = some (17, a, b, tb)) (hl : x_glen (tb.map (fun q => (q.1, ((q.2, 0, 0) : XV)))) = len) (hf : ∀ i, i < len → x_gget (tb.map (fun q => (q.1, ((q.2, 0, 0) : XV)))) i = some (f i)) (hp : pc + 1 = p2) (kk : x_n P d code p2 ((6, n, 0) :: t) loc (x_up φ n (0, a, len, f)) (n + 1) (sl + b) Post) : x_n P d code pc t loc φ n sl Post := by
  subst hp
  refine x_n_goh (fun h hh => ?_) kk
  obtain ⟨h2, s1, s2⟩ := x_h_push (q := (0, a, len, f)) hh hl hf
  refine ⟨h2, s2, fun K f' => (x_run_op hc rfl).trans ?_⟩
  show x_bind (x_hpush h n (0, a, tb.map (fun q => (q.1, ((q.2, 0, 0) : XV))))) (fun h2 => x_force (n + 1) (fun m => x_force (pc + 1) _)) = _
  rw [s1]
  show x_force (n + 1) (fun m => x_force (pc + 1) _) = _
  rw [x_force_eq, x_force_eq]; rfl
/-- a new row -/
theorem q_newa {a b m : Nat} {tb : List (Nat × Nat)} (hc : x_nth code pc = some (18, a, b, tb)) (hm : m ≤ 67108864) (hp : pc + 1 = p2) (kk : x_n P d code p2 ((6, n, 0) :: t) loc (x_up φ n (a, b, m, fun _ => (x_hd tb, 0, 0))) (n + 1) (sl + m) Post) : x_n P d code pc ((0, m, 0) :: t) loc φ n sl Post := by
  subst hp
  refine x_n_goh (fun h hh => ?_) kk
  obtain ⟨h2, s1, s2⟩ := x_h_push (q := (a, b, m, fun _ => (x_hd tb, 0, 0))) (g := x_gcons m (x_hd tb, 0, 0) []) hh (by rw [x_glen_gcons]; rfl) (fun i hi => by rw [x_gget_gcons, x_gget_cons]; exact if_pos hi)
  refine ⟨h2, s2, fun K f' => (x_run_op hc rfl).trans ?_⟩
  show x_if (Nat.ble m 67108864) (x_bind (x_hpush h n (a, b, x_gcons m (x_hd tb, 0, 0) [])) (fun h2 => x_force (n + 1) (fun m => x_force (pc + 1) _))) none = _
  rw [Nat.ble_eq_true_of_le hm, x_if_true, s1]
  show x_force (n + 1) (fun m => x_force (pc + 1) _) = _
  rw [x_force_eq, x_force_eq]; rfl
theorem q_objinit {a b k c len : Nat} {tb : List (Nat × Nat)} {f : Nat → XV} (hc : x_nth code pc = some (40, a, b, tb)) (hg : φ k = some (0, c, len, f)) (h8 : Nat.ble (x_cats t) 8 = true) (hp : pc + 1 = p2) (kk : x_n P d code p2 t loc φ n sl Post) : x_n P d code pc ((6, k, 0) :: t) loc φ n sl Post := by
  subst hp
  refine x_n_go (fun K f' h hh => (x_run_op hc rfl).trans ?_) kk
  obtain ⟨g, e1, e2, e3⟩ := x_h_get hh hg
  show x_bind (x_hget h k) (fun c => x_if (Nat.beq c.1 0) (x_if (Nat.ble (x_cats t) 8) (x_force (pc + 1) _) none) none) = _
  rw [e1]
  show x_if (Nat.ble (x_cats t) 8) (x_force (pc + 1) _) none = _
  rw [h8, x_if_true, x_force_eq]
theorem q_imm {a b x y w : Nat} {tb : List (Nat × Nat)} (hc : x_nth code pc = some (36, a, b, tb)) (h8 : Nat.ble (x_cats t) 8 = true) (hw : (a = 0 ∧ w = if x_m y < x_m x then y else x) ∨ (a = 1 ∧ w = if x_m x < x_m y then y else x)) (hp : pc + 1 = p2) (kk : x_n P d code p2 ((0, w, 0) :: t) loc φ n sl Post) : x_n P d code pc ((0, y, 0) :: (0, x, 0) :: t) loc φ n sl Post := by
  subst hp
  refine x_n_go (fun K f h _ => (x_run_op hc rfl).trans ?_) kk
  rw [xe_imm]
  dsimp only
  rw [Nat.beq_refl, x_if_true, x_if_true, h8, x_if_true, x_force_eq, x_force_eq, x_mm, x_mm]
  have key : ∀ p q : Nat, x_if (Nat.ble (p + 1) q) y x = if p < q then y else x := by
    intro p q
    rw [x_if_eq]
    by_cases hpq : p < q
    · rw [if_pos hpq, if_pos (Nat.ble_eq_true_of_le hpq)]
    · rw [if_neg hpq, if_neg (fun z => hpq (x_ble z))]
  unfold x_m at hw
  rcases hw with ⟨ha, hw⟩ | ⟨ha, hw⟩
  · rw [ha, Nat.beq_refl, x_if_true, key, hw]
  · rw [ha, show Nat.beq 1 0 = false from rfl, x_if_false, key, hw]
/-- a call -/
theorem q_call {M b : Nat} {tb : List (Nat × Nat)} {xs : List XV} {Q : FP} (hc : x_nth code pc = some (11, M, b, tb)) (hb : xs.length = b) (h8 : Nat.ble (x_cats t) 8 = true) (hL : Nat.ble (x_len (x_flat xs.reverse)) (x_hd tb) = true) (hr : ∀ h, x_h φ n h → x_rcv h (x_flat xs.reverse) (x_hd2 tb) = true)
    (hf : x_f P d M (x_pad (x_flat xs.reverse) (x_hd tb)) φ n sl (fun u v φ2 n2 sl2 => n ≤ n2 ∧ sl ≤ sl2 ∧ Q u v φ2 n2 sl2))
    (kk : ∀ (u : Nat) (v : XV) (φ2 : FH) (n2 sl2 : Nat), n ≤ n2 → sl ≤ sl2 → Q u v φ2 n2 sl2 → (u = 0 ∧ x_n P d code (pc + 1) t loc φ2 n2 sl2 Post) ∨ (u = 1 ∧ x_n P d code (pc + 1) (v :: t) loc φ2 n2 sl2 Post)) : x_n P d code pc (xs ++ t) loc φ n sl Post := by
  intro h hh
  obtain ⟨r1, ⟨φ2, e1, c1, c2, e2⟩, F1, e3⟩ := hf h hh
  have htake : ∀ k : List XV → List XV → XR, x_take b (xs ++ t) [] k = k (x_flat xs.reverse) t := by
    have key : ∀ (xs acc : List XV) (k : List XV → List XV → XR), x_take xs.length (xs ++ t) acc k = k (x_flat xs.reverse ++ acc) t := by
      intro xs
      induction xs with
      | nil => intro acc k; rfl
      | cons v q ih =>
        intro acc k
        have : x_take (v :: q).length (v :: q ++ t) acc k = x_take q.length (q ++ t) (x_if (x_cat2 v) (v :: (11, 0, 0) :: acc) (v :: acc)) k := rfl
        rw [this, ih, List.reverse_cons, x_flat_app, List.append_assoc, x_if_eq]
        congr 2
        rw [x_flat_cons]
        split <;> rfl
    intro k
    have := key xs [] k
    rw [List.append_nil, hb] at this
    exact this
  have hrec := hr h hh
  have step : ∀ (F f : Nat), F1 ≤ F → x_run (x_dep P F d) (f + 1) code pc (xs ++ t) loc h n sl = (x_if (Nat.beq r1.1 0) (x_run (x_dep P F d) f code (pc + 1) t loc r1.2.2.1 r1.2.2.2.1 r1.2.2.2.2) (x_if (Nat.beq r1.1 1) (x_run (x_dep P F d) f code (pc + 1) (r1.2.1 :: t) loc r1.2.2.1 r1.2.2.2.1 r1.2.2.2.2) none)) := by
    intro F f hF
    refine (x_run_op hc rfl).trans ?_
    show x_take b (xs ++ t) [] (fun args t => x_if (Nat.ble (x_cats t) 8) (x_if (Nat.ble (x_len args) (x_hd tb)) (x_if (x_rcv h args (x_hd2 tb)) (x_bind (x_dep P F d M (x_pad args (x_hd tb)) h n sl) (fun r =>
      x_if (Nat.ble n r.2.2.2.1) (x_if (Nat.ble sl r.2.2.2.2) (x_if (Nat.beq r.1 0) (x_force (pc + 1) (fun p => x_run (x_dep P F d) f code p t loc r.2.2.1 r.2.2.2.1 r.2.2.2.2)) (x_if (Nat.beq r.1 1) (x_force (pc + 1) (fun p => x_run (x_dep P F d) f code p (r.2.1 :: t) loc r.2.2.1 r.2.2.2.1 r.2.2.2.2)) none)) none) none)) none) none) none) = _
    rw [htake, h8, x_if_true, hL, x_if_true, hrec, x_if_true, e3 F hF]
    show x_if (Nat.ble n r1.2.2.2.1) (x_if (Nat.ble sl r1.2.2.2.2) _ none) none = _
    rw [Nat.ble_eq_true_of_le c1, x_if_true, Nat.ble_eq_true_of_le c2, x_if_true, x_force_eq, x_force_eq]
  rcases kk r1.1 r1.2.1 φ2 r1.2.2.2.1 r1.2.2.2.2 c1 c2 e2 with ⟨hu, hk⟩ | ⟨hu, hk⟩
  · obtain ⟨r, h1, f, F0, h2⟩ := hk _ e1
    refine ⟨r, h1, f + 1, max F0 F1, fun F hF => ?_⟩
    rw [step F f (Nat.le_trans (Nat.le_max_right _ _) hF), hu, Nat.beq_refl, x_if_true]
    exact h2 F (Nat.le_trans (Nat.le_max_left _ _) hF)
  · obtain ⟨r, h1, f, F0, h2⟩ := hk _ e1
    refine ⟨r, h1, f + 1, max F0 F1, fun F hF => ?_⟩
    rw [step F f (Nat.le_trans (Nat.le_max_right _ _) hF), hu, show Nat.beq 1 0 = false from rfl, x_if_false, Nat.beq_refl, x_if_true]
    exact h2 F (Nat.le_trans (Nat.le_max_left _ _) hF)
end
end FRULES
