section FRULES3
variable {P : List (List XI)} {d pc p2 n sl : Nat} {code : List XI} {stk t loc : List XV} {φ : FH} {Post : FP}
theorem q_putfE {a b k len : Nat} {tb : List (Nat × Nat)} {f : Nat → XV} {v : XV} (hc : x_nth code pc = some (10, a, b, tb)) (hg : φ k = some (0, a, len, f)) (hb : b < len) (hf : x_fitv (x_hd tb) v = true) (hp : pc + 1 = p2) (kk : ∀ (φ1 : FH) (f1 : Nat → XV), φ1 k = some (0, a, len, f1) → f1 b = v → (∀ i, i ≠ b → f1 i = f i) → (∀ j, j ≠ k → φ1 j = φ j) → x_n P d code p2 t loc φ1 n sl Post) : x_n P d code pc (v :: (6, k, 0) :: t) loc φ n sl Post :=
  q_putf hc hg hb hf hp (kk _ _ x_up_eq x_fu_eq (fun _ h => x_fu_ne h) (fun _ h => x_up_ne h))
theorem q_astE {a b k j c len : Nat} {tb : List (Nat × Nat)} {f : Nat → XV} {v w : XV} (hc : x_nth code pc = some (8, a, b, tb)) (hg : φ k = some (a, c, len, f)) (hj : j < len) (h31 : j < 2147483648) (hok : ∀ h, x_h φ n h → x_if (Nat.beq a 8) (x_okref h v c) true = true) (hw : x_nv a v w) (hp : pc + 1 = p2) (kk : ∀ (φ1 : FH) (f1 : Nat → XV), φ1 k = some (a, c, len, f1) → f1 j = w → (∀ i, i ≠ j → f1 i = f i) → (∀ q, q ≠ k → φ1 q = φ q) → x_n P d code p2 t loc φ1 n sl Post) : x_n P d code pc (v :: (0, j, 0) :: (6, k, 0) :: t) loc φ n sl Post :=
  q_ast hc hg hj h31 hok hw hp (kk _ _ x_up_eq x_fu_eq (fun _ h => x_fu_ne h) (fun _ h => x_up_ne h))
theorem x_ok_0 {a c : Nat} {v : XV} (ha : Nat.beq a 8 = false) : ∀ h, x_h φ n h → x_if (Nat.beq a 8) (x_okref h v c) true = true := fun h _ => by rw [ha, x_if_false]
/-- a reference to an object of class ci may stand in a row of type c -/
theorem x_ok_r {k ci c len : Nat} {f : Nat → XV} (hg : φ k = some (0, ci, len, f)) (hr : x_nth x_rcs ci = some c) : ∀ h, x_h φ n h → x_if (Nat.beq 8 8) (x_okref h (6, k, 0) c) true = true := by
  intro h hh
  obtain ⟨g, e1, -⟩ := x_h_get hh hg
  show x_okref h (6, k, 0) c = true
  have e0 : x_okref h (6, k, 0) c = Option.rec (motive := fun _ => Bool) false (fun q => x_if (Nat.beq q.1 0) (Option.rec (motive := fun _ => Bool) false (fun q => Nat.beq q c) (x_nth x_rcs q.2.1)) false) (x_hget h k) := rfl
  rw [e0, e1]
  show Option.rec (motive := fun _ => Bool) false (fun q => Nat.beq q c) (x_nth x_rcs ci) = true
  rw [hr]
  exact Nat.beq_refl _
theorem q_newE {a b : Nat} {tb : List (Nat × Nat)} {len : Nat} {g : Nat → XV} (hc : x_nth code pc = some (17, a, b, tb)) (hl : x_glen (tb.map (fun q => (q.1, ((q.2, 0, 0) : XV)))) = len) (hf : ∀ i, i < len → x_gget (tb.map (fun q => (q.1, ((q.2, 0, 0) : XV)))) i = some (g i)) (hp : pc + 1 = p2) (kk : ∀ (φ1 : FH), φ1 n = some (0, a, len, g) → (∀ j, j ≠ n → φ1 j = φ j) → x_n P d code p2 ((6, n, 0) :: t) loc φ1 (n + 1) (sl + b) Post) : x_n P d code pc t loc φ n sl Post :=
  q_new hc hl hf hp (kk _ x_up_eq (fun _ h => x_up_ne h))
theorem q_newaE {a b m : Nat} {tb : List (Nat × Nat)} (hc : x_nth code pc = some (18, a, b, tb)) (hm : m ≤ 67108864) (hp : pc + 1 = p2) (kk : ∀ (φ1 : FH), φ1 n = some (a, b, m, fun _ => (x_hd tb, 0, 0)) → (∀ j, j ≠ n → φ1 j = φ j) → x_n P d code p2 ((6, n, 0) :: t) loc φ1 (n + 1) (sl + m) Post) : x_n P d code pc ((0, m, 0) :: t) loc φ n sl Post :=
  q_newa hc hm hp (kk _ x_up_eq (fun _ h => x_up_ne h))
/-- no answer; what is said of the cells -/
def x_vR (n sl : Nat) (R : FH → Prop) : FP := fun u _ φ2 n2 sl2 => u = 0 ∧ n2 = n ∧ sl2 = sl ∧ R φ2
/-- the answer v; what is said of the cells -/
def x_rR (v : XV) (n sl : Nat) (R : FH → Prop) : FP := fun u w φ2 n2 sl2 => u = 1 ∧ w = v ∧ n2 = n ∧ sl2 = sl ∧ R φ2
theorem q_callvE {M b : Nat} {tb : List (Nat × Nat)} {xs args : List XV} {R : FH → Prop} {n2 sl2 : Nat} (hc : x_nth code pc = some (11, M, b, tb)) (hb : xs.length = b) (h8 : Nat.ble (x_cats t) 8 = true) (hL : Nat.ble (x_len (x_flat xs.reverse)) (x_hd tb) = true) (hr : ∀ h, x_h φ n h → x_rcv h (x_flat xs.reverse) (x_hd2 tb) = true) (ha : x_pad (x_flat xs.reverse) (x_hd tb) = args)
    (hf : x_f P d M args φ n sl (x_vR n2 sl2 R)) (hn : n ≤ n2) (hs : sl ≤ sl2) (hp : pc + 1 = p2) (kk : ∀ φ2, R φ2 → x_n P d code p2 t loc φ2 n2 sl2 Post) : x_n P d code pc (xs ++ t) loc φ n sl Post := by
  subst hp
  refine q_call (Q := x_vR n2 sl2 R) hc hb h8 hL hr ?_ ?_
  · rw [ha]
    exact x_f_mono hf (fun u w φ3 n3 sl3 h => ⟨by rw [h.2.1]; exact hn, by rw [h.2.2.1]; exact hs, h⟩)
  · intro u w φ3 n3 sl3 _ _ hq
    obtain ⟨rfl, rfl, rfl, hR⟩ := hq
    exact Or.inl ⟨rfl, kk _ hR⟩
theorem q_callrE {M b : Nat} {tb : List (Nat × Nat)} {xs args : List XV} {v : XV} {R : FH → Prop} {n2 sl2 : Nat} (hc : x_nth code pc = some (11, M, b, tb)) (hb : xs.length = b) (h8 : Nat.ble (x_cats t) 8 = true) (hL : Nat.ble (x_len (x_flat xs.reverse)) (x_hd tb) = true) (hr : ∀ h, x_h φ n h → x_rcv h (x_flat xs.reverse) (x_hd2 tb) = true) (ha : x_pad (x_flat xs.reverse) (x_hd tb) = args)
    (hf : x_f P d M args φ n sl (x_rR v n2 sl2 R)) (hn : n ≤ n2) (hs : sl ≤ sl2) (hp : pc + 1 = p2) (kk : ∀ φ2, R φ2 → x_n P d code p2 (v :: t) loc φ2 n2 sl2 Post) : x_n P d code pc (xs ++ t) loc φ n sl Post := by
  subst hp
  refine q_call (Q := x_rR v n2 sl2 R) hc hb h8 hL hr ?_ ?_
  · rw [ha]
    exact x_f_mono hf (fun u w φ3 n3 sl3 h => ⟨by rw [h.2.2.1]; exact hn, by rw [h.2.2.2.1]; exact hs, h⟩)
  · intro u w φ3 n3 sl3 _ _ hq
    obtain ⟨rfl, rfl, rfl, rfl, hR⟩ := hq
    exact Or.inr ⟨rfl, kk _ hR⟩
theorem x_lc_s {x y : Nat} (hx : x < 9223372036854775808) (hy : y < 9223372036854775808) : x_lc (x_ml x) (x_ml y) = if x < y then 4294967295 else if y < x then 1 else 0 := by
  unfold x_lc
  rw [x_ml_s hx, x_ml_s hy]
  by_cases h : x < y
  · rw [if_pos h, if_pos (by omega)]
  · rw [if_neg h, if_neg (by omega)]
    by_cases h2 : y < x
    · rw [if_pos h2, if_pos (by omega)]
    · rw [if_neg h2, if_neg (by omega)]
/-- lcmp and what is asked of it, of two that aren't below 0 -/
theorem q_lcif {a b c tgt x y : Nat} {tb tb2 : List (Nat × Nat)} (hc : x_nth code pc = some (27, a, b, tb)) (hc2 : x_nth code (pc + 1) = some (4, c, tgt, tb2)) (ha : c < 6) (hx : x < 9223372036854775808) (hy : y < 9223372036854775808) (hp : pc + 1 + 1 = p2) (kt : x_cq c x y → x_n P d code tgt t loc φ n sl Post) (kf : ¬ x_cq c x y → x_n P d code p2 t loc φ n sl Post) : x_n P d code pc ((2, y, 0) :: (2, x, 0) :: t) loc φ n sl Post := by
  refine q_lcmp hc rfl ?_
  rw [x_lc_s hx hy]
  have key : ∀ w : Nat, (x_cq c (x_m w) 2147483648 ↔ x_cq c x y) → x_n P d code (pc + 1) ((0, w, 0) :: t) loc φ n sl Post := by
    intro w hw
    exact q_if0 hc2 ha hp (fun h => kt (hw.mp h)) (fun h => kf (fun z => h (hw.mpr z)))
  rcases Nat.lt_trichotomy x y with h | h | h
  · rw [if_pos h]
    refine key _ ?_
    have e : x_m 4294967295 = 2147483647 := by unfold x_m; omega
    rw [e]
    match c, ha with
    | 0, _ => show (2147483647 = 2147483648) ↔ (x = y); omega
    | 1, _ => show (¬ 2147483647 = 2147483648) ↔ (¬ x = y); omega
    | 2, _ => show (2147483647 < 2147483648) ↔ (x < y); omega
    | 3, _ => show (¬ 2147483647 < 2147483648) ↔ (¬ x < y); omega
    | 4, _ => show (2147483648 < 2147483647) ↔ (y < x); omega
    | 5, _ => show (¬ 2147483648 < 2147483647) ↔ (¬ y < x); omega
  · rw [if_neg (by omega), if_neg (by omega)]
    refine key _ ?_
    have e : x_m 0 = 2147483648 := by unfold x_m; omega
    rw [e]
    match c, ha with
    | 0, _ => show (2147483648 = 2147483648) ↔ (x = y); omega
    | 1, _ => show (¬ 2147483648 = 2147483648) ↔ (¬ x = y); omega
    | 2, _ => show (2147483648 < 2147483648) ↔ (x < y); omega
    | 3, _ => show (¬ 2147483648 < 2147483648) ↔ (¬ x < y); omega
    | 4, _ => show (2147483648 < 2147483648) ↔ (y < x); omega
    | 5, _ => show (¬ 2147483648 < 2147483648) ↔ (¬ y < x); omega
  · rw [if_neg (by omega), if_pos h]
    refine key _ ?_
    have e : x_m 1 = 2147483649 := by unfold x_m; omega
    rw [e]
    match c, ha with
    | 0, _ => show (2147483649 = 2147483648) ↔ (x = y); omega
    | 1, _ => show (¬ 2147483649 = 2147483648) ↔ (¬ x = y); omega
    | 2, _ => show (2147483649 < 2147483648) ↔ (x < y); omega
    | 3, _ => show (¬ 2147483649 < 2147483648) ↔ (¬ x < y); omega
    | 4, _ => show (2147483648 < 2147483649) ↔ (y < x); omega
    | 5, _ => show (¬ 2147483648 < 2147483649) ↔ (¬ y < x); omega
end FRULES3
