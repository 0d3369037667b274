section FRULES4
variable {P : List (List XI)} {d pc p2 n sl : Nat} {code : List XI} {stk t loc : List XV} {φ : FH} {Post : FP}
theorem x_ble_t {a b : Nat} (h : a ≤ b) : Nat.ble a b = true := Nat.ble_eq_true_of_le h
/-- arraycopy of numbers -/
theorem q_copyE {ka kb s dd sp dp m ls ld aa bb : Nat} {tb : List (Nat × Nat)} {fs fd : Nat → XV} (hc : x_nth code pc = some (30, aa, bb, tb)) (h8 : Nat.ble (x_cats t) 8 = true) (hs : φ s = some (ka, kb, ls, fs)) (hd : φ dd = some (ka, kb, ld, fd)) (hk : ka = 1 ∨ ka = 6) (h1 : sp + m ≤ ls) (h2 : dp + m ≤ ld) (hls : ls ≤ 67108864) (hld : ld ≤ 67108864) (hp : pc + 1 = p2)
    (kk : ∀ (φ1 : FH) (f1 : Nat → XV), φ1 dd = some (ka, kb, ld, f1) → (∀ i, f1 i = if dp ≤ i ∧ i < dp + m then fs (sp + (i - dp)) else fd i) → (∀ j, j ≠ dd → φ1 j = φ j) → x_n P d code p2 t loc φ1 n sl Post) : x_n P d code pc ((0, m, 0) :: (0, dp, 0) :: (6, dd, 0) :: (0, sp, 0) :: (6, s, 0) :: t) loc φ n sl Post := by
  subst hp
  refine x_n_goh (φ2 := x_up φ dd (ka, kb, ld, fun i => if dp ≤ i ∧ i < dp + m then fs (sp + (i - dp)) else fd i)) (fun h hh => ?_) (kk _ _ x_up_eq (fun _ => rfl) (fun _ h => x_up_ne h))
  obtain ⟨gs, e1, e2, e3⟩ := x_h_get hh hs
  obtain ⟨gd, g1, g2, g3⟩ := x_h_get hh hd
  have e2 : x_glen gs = ls := e2
  have g2 : x_glen gd = ld := g2
  have l1 : sp + m ≤ x_glen gs := by omega
  have l2 : dp + m ≤ x_glen gd := by omega
  obtain ⟨h2, s1, s2⟩ := x_h_set (q := (ka, kb, ld, fun i => if dp ≤ i ∧ i < dp + m then fs (sp + (i - dp)) else fd i)) (g := x_gcat (x_gtake gd dp) (x_gcat (x_gtake (x_gdrop gs sp) m) (x_gdrop gd (dp + m)))) hh hd (by rw [x_cpy_len l1 l2]; exact g2) (fun i hi => by
    rw [x_cpy_get l1 l2]
    show _ = some (if dp ≤ i ∧ i < dp + m then fs (sp + (i - dp)) else fd i)
    by_cases h9 : dp ≤ i ∧ i < dp + m
    · rw [if_pos h9, if_pos h9]; exact e3 _ (by show _ < ls; omega)
    · rw [if_neg h9, if_neg h9]; exact g3 i hi)
  refine ⟨h2, s2, fun K f' => (x_run_op hc rfl).trans ?_⟩
  show x_if (Nat.ble (x_cats t) 8) (x_bind (x_hget h s) (fun cs => x_bind (x_hget h dd) (fun cd => x_if (Nat.beq cs.1 cd.1) (x_if (Nat.beq cs.2.1 cd.2.1) (x_if (Nat.ble (Nat.add sp m) (x_glen cs.2.2)) (x_if (Nat.ble (Nat.add dp m) (x_glen cd.2.2)) (x_if (Nat.ble (x_glen cs.2.2) 67108864) (x_if (Nat.ble (x_glen cd.2.2) 67108864)
        (x_if (x_if (Nat.beq cs.1 8) (x_if (Option.rec (motive := fun _ => Bool) false (fun q => Nat.beq q 1) (x_nth x_rob cs.2.1)) (x_gall (fun v => x_okref h v cs.2.1) (x_gtake (x_gdrop cs.2.2 sp) m)) false) (x_if (Nat.beq cs.1 1) true (Nat.beq cs.1 6)))
          (x_bind (x_hset h dd (cd.1, cd.2.1, x_gcat (x_gtake cd.2.2 dp) (x_gcat (x_gtake (x_gdrop cs.2.2 sp) m) (x_gdrop cd.2.2 (Nat.add dp m))))) (fun h2 => x_force (Nat.succ pc) (fun p => x_run K f' code p t loc h2 n sl))) none) none) none) none) none) none) none))) none = _
  rw [h8, x_if_true, e1, x_bind_s, g1, x_bind_s]
  dsimp only
  rw [Nat.beq_refl, x_if_true, Nat.beq_refl, x_if_true, x_ble_t (show Nat.add sp m ≤ x_glen gs from l1), x_if_true, x_ble_t (show Nat.add dp m ≤ x_glen gd from l2), x_if_true, x_ble_t (show x_glen gs ≤ 67108864 by omega), x_if_true, x_ble_t (show x_glen gd ≤ 67108864 by omega), x_if_true]
  have ek : (x_if (Nat.beq ka 8) (x_if (Option.rec (motive := fun _ => Bool) false (fun q => Nat.beq q 1) (x_nth x_rob kb)) (x_gall (fun v => x_okref h v kb) (x_gtake (x_gdrop gs sp) m)) false) (x_if (Nat.beq ka 1) true (Nat.beq ka 6))) = true := by
    rcases hk with rfl | rfl <;> rfl
  rw [ek, x_if_true]
  show x_bind (x_hset h dd (ka, kb, x_gcat (x_gtake gd dp) (x_gcat (x_gtake (x_gdrop gs sp) m) (x_gdrop gd (dp + m))))) _ = _
  rw [s1, x_bind_s, x_force_eq]
theorem x_gall_of {q : XV → Bool} : ∀ {g : XG}, (∀ j v, x_gget g j = some v → q v = true) → x_gall q g = true
  | [], _ => rfl
  | s :: t, h => by
    show x_if (x_if (Nat.beq s.1 0) true (q s.2)) (x_gall q t) false = true
    have ht : x_gall q t = true := x_gall_of (fun j v hj => h (s.1 + j) v (by rw [x_gget_cons, if_neg (by omega), show s.1 + j - s.1 = j by omega]; exact hj))
    by_cases h0 : s.1 = 0
    · rw [h0, show Nat.beq 0 0 = true from rfl, x_if_true, x_if_true]; exact ht
    · have e : Nat.beq s.1 0 = false := x_beq0 (by omega)
      rw [e, x_if_false, h 0 s.2 (by rw [x_gget_cons, if_pos (by omega)]), x_if_true]; exact ht
/-- arraycopy of references -/
theorem q_copyR {kb s dd sp dp m ls ld aa bb : Nat} {tb : List (Nat × Nat)} {fs fd : Nat → XV} (hc : x_nth code pc = some (30, aa, bb, tb)) (h8 : Nat.ble (x_cats t) 8 = true) (hs : φ s = some (8, kb, ls, fs)) (hd : φ dd = some (8, kb, ld, fd)) (hrob : x_nth x_rob kb = some 1) (hok : ∀ h, x_h φ n h → ∀ i, i < ls → x_okref h (fs i) kb = true) (h1 : sp + m ≤ ls) (h2 : dp + m ≤ ld) (hls : ls ≤ 67108864) (hld : ld ≤ 67108864) (hp : pc + 1 = p2)
    (kk : ∀ (φ1 : FH) (f1 : Nat → XV), φ1 dd = some (8, kb, ld, f1) → (∀ i, f1 i = if dp ≤ i ∧ i < dp + m then fs (sp + (i - dp)) else fd i) → (∀ j, j ≠ dd → φ1 j = φ j) → x_n P d code p2 t loc φ1 n sl Post) : x_n P d code pc ((0, m, 0) :: (0, dp, 0) :: (6, dd, 0) :: (0, sp, 0) :: (6, s, 0) :: t) loc φ n sl Post := by
  subst hp
  refine x_n_goh (φ2 := x_up φ dd (8, kb, ld, fun i => if dp ≤ i ∧ i < dp + m then fs (sp + (i - dp)) else fd i)) (fun h hh => ?_) (kk _ _ x_up_eq (fun _ => rfl) (fun _ h => x_up_ne h))
  obtain ⟨gs, e1, e2, e3⟩ := x_h_get hh hs
  obtain ⟨gd, g1, g2, g3⟩ := x_h_get hh hd
  have e2 : x_glen gs = ls := e2
  have g2 : x_glen gd = ld := g2
  have l1 : sp + m ≤ x_glen gs := by omega
  have l2 : dp + m ≤ x_glen gd := by omega
  obtain ⟨h2, s1, s2⟩ := x_h_set (q := (8, kb, ld, fun i => if dp ≤ i ∧ i < dp + m then fs (sp + (i - dp)) else fd i)) (g := x_gcat (x_gtake gd dp) (x_gcat (x_gtake (x_gdrop gs sp) m) (x_gdrop gd (dp + m)))) hh hd (by rw [x_cpy_len l1 l2]; exact g2) (fun i hi => by
    rw [x_cpy_get l1 l2]
    show _ = some (if dp ≤ i ∧ i < dp + m then fs (sp + (i - dp)) else fd i)
    by_cases h9 : dp ≤ i ∧ i < dp + m
    · rw [if_pos h9, if_pos h9]; exact e3 _ (by show _ < ls; omega)
    · rw [if_neg h9, if_neg h9]; exact g3 i hi)
  refine ⟨h2, s2, fun K f' => (x_run_op hc rfl).trans ?_⟩
  show x_if (Nat.ble (x_cats t) 8) (x_bind (x_hget h s) (fun cs => x_bind (x_hget h dd) (fun cd => x_if (Nat.beq cs.1 cd.1) (x_if (Nat.beq cs.2.1 cd.2.1) (x_if (Nat.ble (Nat.add sp m) (x_glen cs.2.2)) (x_if (Nat.ble (Nat.add dp m) (x_glen cd.2.2)) (x_if (Nat.ble (x_glen cs.2.2) 67108864) (x_if (Nat.ble (x_glen cd.2.2) 67108864)
        (x_if (x_if (Nat.beq cs.1 8) (x_if (Option.rec (motive := fun _ => Bool) false (fun q => Nat.beq q 1) (x_nth x_rob cs.2.1)) (x_gall (fun v => x_okref h v cs.2.1) (x_gtake (x_gdrop cs.2.2 sp) m)) false) (x_if (Nat.beq cs.1 1) true (Nat.beq cs.1 6)))
          (x_bind (x_hset h dd (cd.1, cd.2.1, x_gcat (x_gtake cd.2.2 dp) (x_gcat (x_gtake (x_gdrop cs.2.2 sp) m) (x_gdrop cd.2.2 (Nat.add dp m))))) (fun h2 => x_force (Nat.succ pc) (fun p => x_run K f' code p t loc h2 n sl))) none) none) none) none) none) none) none))) none = _
  rw [h8, x_if_true, e1, x_bind_s, g1, x_bind_s]
  dsimp only
  rw [Nat.beq_refl, x_if_true, Nat.beq_refl, x_if_true, x_ble_t (show Nat.add sp m ≤ x_glen gs from l1), x_if_true, x_ble_t (show Nat.add dp m ≤ x_glen gd from l2), x_if_true, x_ble_t (show x_glen gs ≤ 67108864 by omega), x_if_true, x_ble_t (show x_glen gd ≤ 67108864 by omega), x_if_true]
  have ek : x_gall (fun v => x_okref h v kb) (x_gtake (x_gdrop gs sp) m) = true := by
    refine x_gall_of (fun j v hj => ?_)
    rw [x_gget_take] at hj
    by_cases hjm : j < m
    · rw [if_pos hjm, x_gget_drop, e3 _ (by show _ < ls; omega)] at hj
      rw [← Option.some.inj hj]
      exact hok h hh _ (by omega)
    · rw [if_neg hjm] at hj; cases hj
  have er : (Option.rec (motive := fun _ => Bool) false (fun q => Nat.beq q 1) (x_nth x_rob kb)) = true := by rw [hrob]; rfl
  rw [x_if_true, er, x_if_true, ek]
  rw [x_if_true]
  show x_bind (x_hset h dd (8, kb, x_gcat (x_gtake gd dp) (x_gcat (x_gtake (x_gdrop gs sp) m) (x_gdrop gd (dp + m))))) _ = _
  rw [s1, x_bind_s, x_force_eq]
/-- clone of a row of longs -/
theorem q_cloneE {s ls kb aa bb : Nat} {tb : List (Nat × Nat)} {fs : Nat → XV} (hc : x_nth code pc = some (34, aa, bb, tb)) (h8 : Nat.ble (x_cats t) 8 = true) (hs : φ s = some (6, kb, ls, fs)) (hp : pc + 1 = p2)
    (kk : ∀ (φ1 : FH), φ1 n = some (6, kb, ls, fs) → (∀ j, j ≠ n → φ1 j = φ j) → x_n P d code p2 ((6, n, 0) :: t) loc φ1 (n + 1) (sl + ls) Post) : x_n P d code pc ((6, s, 0) :: t) loc φ n sl Post := by
  subst hp
  refine x_n_goh (φ2 := x_up φ n (6, kb, ls, fs)) (fun h hh => ?_) (kk _ x_up_eq (fun _ h => x_up_ne h))
  obtain ⟨gs, e1, e2, e3⟩ := x_h_get hh hs
  obtain ⟨h2, s1, s2⟩ := x_h_push (q := (6, kb, ls, fs)) (g := gs) hh e2 e3
  refine ⟨h2, s2, fun K f' => (x_run_op hc rfl).trans ?_⟩
  show x_if (Nat.ble (x_cats t) 8) (x_bind (x_hget h s) (fun cs => x_if (Nat.beq cs.1 6) (x_bind (x_hpush h n cs) (fun h2 => x_force (Nat.succ n) (fun m => x_force (Nat.succ pc) (fun p => x_run K f' code p ((6, n, 0) :: t) loc h2 m (Nat.add sl (x_glen cs.2.2)))))) none)) none = _
  rw [h8, x_if_true, e1, x_bind_s]
  dsimp only
  rw [Nat.beq_refl, x_if_true, s1, x_bind_s, x_force_eq, x_force_eq, e2]
  rfl
theorem q_castv {s ls kb aa bb : Nat} {tb : List (Nat × Nat)} {fs : Nat → XV} (hc : x_nth code pc = some (35, aa, bb, tb)) (hs : φ s = some (6, kb, ls, fs)) (hp : pc + 1 = p2)
    (kk : x_n P d code p2 ((6, s, 0) :: t) loc φ n sl Post) : x_n P d code pc ((6, s, 0) :: t) loc φ n sl Post := by
  subst hp
  refine x_n_go (fun K f' h hh => (x_run_op hc rfl).trans ?_) kk
  obtain ⟨gs, e1, e2, e3⟩ := x_h_get hh hs
  show x_bind (x_hget h s) (fun cs => x_if (Nat.beq cs.1 6) (x_force (Nat.succ pc) (fun p => x_run K f' code p ((6, s, 0) :: t) loc h n sl)) none) = _
  rw [e1, x_bind_s]
  dsimp only
  rw [Nat.beq_refl, x_if_true, x_force_eq]
theorem q_dup2 {a b : Nat} {tb : List (Nat × Nat)} {v w : XV} (hc : x_nth code pc = some (29, a, b, tb)) (h1 : x_cat2 v = false) (h2 : x_cat2 w = false) (hp : pc + 1 = p2) (kk : x_n P d code p2 (v :: w :: v :: w :: t) loc φ n sl Post) : x_n P d code pc (v :: w :: t) loc φ n sl Post := by
  subst hp
  refine x_n_go (fun K f h _ => (x_run_op hc rfl).trans ?_) kk
  show x_if (x_cat2 v) _ (x_if (x_cat2 w) none (x_force (pc + 1) _)) = _
  rw [h1, x_if_false, h2, x_if_false, x_force_eq]
/-- min of two that aren't below 0 -/
theorem q_min_s {b x y : Nat} {tb : List (Nat × Nat)} (hc : x_nth code pc = some (36, 0, b, tb)) (h8 : Nat.ble (x_cats t) 8 = true) (hx : x < 2147483648) (hy : y < 2147483648) (hp : pc + 1 = p2) (kk : x_n P d code p2 ((0, if y < x then y else x, 0) :: t) loc φ n sl Post) : x_n P d code pc ((0, y, 0) :: (0, x, 0) :: t) loc φ n sl Post := by
  refine q_imm hc h8 (Or.inl ⟨rfl, ?_⟩) hp kk
  rw [x_m_s hx, x_m_s hy]
  by_cases h : y < x
  · rw [if_pos h, if_pos (by omega)]
  · rw [if_neg h, if_neg (by omega)]
end FRULES4
section FRULES4B
variable {P : List (List XI)} {d pc p2 n sl : Nat} {code : List XI} {stk t loc : List XV} {φ : FH} {Post : FP}
/-- arraycopy of the first m numbers -/
theorem q_copy0E {ka kb s dd m ls ld aa bb : Nat} {tb : List (Nat × Nat)} {fs fd : Nat → XV} (hc : x_nth code pc = some (30, aa, bb, tb)) (h8 : Nat.ble (x_cats t) 8 = true) (hs : φ s = some (ka, kb, ls, fs)) (hd : φ dd = some (ka, kb, ld, fd)) (hk : ka = 1 ∨ ka = 6) (h1 : m ≤ ls) (h2 : m ≤ ld) (hls : ls ≤ 67108864) (hld : ld ≤ 67108864) (hp : pc + 1 = p2)
    (kk : ∀ (φ1 : FH) (f1 : Nat → XV), φ1 dd = some (ka, kb, ld, f1) → (∀ i, i < m → f1 i = fs i) → (∀ i, m ≤ i → f1 i = fd i) → (∀ j, j ≠ dd → φ1 j = φ j) → x_n P d code p2 t loc φ1 n sl Post) : x_n P d code pc ((0, m, 0) :: (0, 0, 0) :: (6, dd, 0) :: (0, 0, 0) :: (6, s, 0) :: t) loc φ n sl Post := by
  refine q_copyE hc h8 hs hd hk (by omega) (by omega) hls hld hp (fun φ1 f1 e1 e2 e3 => kk φ1 f1 e1 (fun i hi => ?_) (fun i hi => ?_) e3)
  · rw [e2 i, if_pos (by omega), Nat.zero_add, Nat.sub_zero]
  · rw [e2 i, if_neg (by omega)]
theorem q_copy0R {kb s dd m ls ld aa bb : Nat} {tb : List (Nat × Nat)} {fs fd : Nat → XV} (hc : x_nth code pc = some (30, aa, bb, tb)) (h8 : Nat.ble (x_cats t) 8 = true) (hs : φ s = some (8, kb, ls, fs)) (hd : φ dd = some (8, kb, ld, fd)) (hrob : x_nth x_rob kb = some 1) (hok : ∀ h, x_h φ n h → ∀ i, i < ls → x_okref h (fs i) kb = true) (h1 : m ≤ ls) (h2 : m ≤ ld) (hls : ls ≤ 67108864) (hld : ld ≤ 67108864) (hp : pc + 1 = p2)
    (kk : ∀ (φ1 : FH) (f1 : Nat → XV), φ1 dd = some (8, kb, ld, f1) → (∀ i, i < m → f1 i = fs i) → (∀ i, m ≤ i → f1 i = fd i) → (∀ j, j ≠ dd → φ1 j = φ j) → x_n P d code p2 t loc φ1 n sl Post) : x_n P d code pc ((0, m, 0) :: (0, 0, 0) :: (6, dd, 0) :: (0, 0, 0) :: (6, s, 0) :: t) loc φ n sl Post := by
  refine q_copyR hc h8 hs hd hrob hok (by omega) (by omega) hls hld hp (fun φ1 f1 e1 e2 e3 => kk φ1 f1 e1 (fun i hi => ?_) (fun i hi => ?_) e3)
  · rw [e2 i, if_pos (by omega), Nat.zero_add, Nat.sub_zero]
  · rw [e2 i, if_neg (by omega)]
/-- whatever is a cell has its number below n -/
theorem x_n_lt (kk : (∀ k q, φ k = some q → k < n) → x_n P d code pc stk loc φ n sl Post) : x_n P d code pc stk loc φ n sl Post :=
  fun h hh => kk (fun _ _ e => x_h_n hh e) h hh
theorem x_f_lt {M : Nat} (kk : (∀ k q, φ k = some q → k < n) → x_f P d M loc φ n sl Post) : x_f P d M loc φ n sl Post :=
  fun h hh => kk (fun _ _ e => x_h_n hh e) h hh
/-- the answer v; how many cells, their slots, and what is said of the cells -/
def x_aR (v : XV) (R : FH → Nat → Nat → Prop) : FP := fun u w φ2 n2 sl2 => u = 1 ∧ w = v ∧ R φ2 n2 sl2
end FRULES4B
section FRULES4C
variable {P : List (List XI)} {d pc p2 n sl : Nat} {code : List XI} {stk t loc : List XV} {φ : FH} {Post : FP}
theorem q_min_t {b x y : Nat} {tb : List (Nat × Nat)} (hc : x_nth code pc = some (36, 0, b, tb)) (h8 : Nat.ble (x_cats t) 8 = true) (hx : x < 2147483648) (hyx : y ≤ x) (hp : pc + 1 = p2) (kk : x_n P d code p2 ((0, y, 0) :: t) loc φ n sl Post) : x_n P d code pc ((0, y, 0) :: (0, x, 0) :: t) loc φ n sl Post := by
  refine q_min_s hc h8 hx (by omega) hp ?_
  rw [show (if y < x then y else x) = y by split <;> omega]
  exact kk
theorem q_min_b {b x y : Nat} {tb : List (Nat × Nat)} (hc : x_nth code pc = some (36, 0, b, tb)) (h8 : Nat.ble (x_cats t) 8 = true) (hy : y < 2147483648) (hxy : x ≤ y) (hp : pc + 1 = p2) (kk : x_n P d code p2 ((0, x, 0) :: t) loc φ n sl Post) : x_n P d code pc ((0, y, 0) :: (0, x, 0) :: t) loc φ n sl Post := by
  refine q_min_s hc h8 (by omega) hy hp ?_
  rw [show (if y < x then y else x) = x by split <;> omega]
  exact kk
end FRULES4C
section FRULES4D
variable {P : List (List XI)} {d pc p2 n sl : Nat} {code : List XI} {stk t loc : List XV} {φ : FH} {Post : FP}
/-- no answer; at most cn cells and cs slots more, and what is said of the cells -/
def x_bV (n sl cn cs : Nat) (R : FH → Prop) : FP := fun u _ φ2 n2 sl2 => u = 0 ∧ (n ≤ n2 ∧ n2 ≤ n + cn) ∧ (sl ≤ sl2 ∧ sl2 ≤ sl + cs) ∧ R φ2
/-- an answer; at most cn cells and cs slots more, and what is said of the answer and the cells -/
def x_bR (n sl cn cs : Nat) (R : XV → FH → Prop) : FP := fun u w φ2 n2 sl2 => u = 1 ∧ (n ≤ n2 ∧ n2 ≤ n + cn) ∧ (sl ≤ sl2 ∧ sl2 ≤ sl + cs) ∧ R w φ2
theorem q_callvB {M b cn cs : Nat} {tb : List (Nat × Nat)} {xs args : List XV} {R : FH → Prop} (hc : x_nth code pc = some (11, M, b, tb)) (hb : xs.length = b) (h8 : Nat.ble (x_cats t) 8 = true) (hL : Nat.ble (x_len (x_flat xs.reverse)) (x_hd tb) = true) (hr : ∀ h, x_h φ n h → x_rcv h (x_flat xs.reverse) (x_hd2 tb) = true) (ha : x_pad (x_flat xs.reverse) (x_hd tb) = args)
    (hf : x_f P d M args φ n sl (x_bV n sl cn cs R)) (hp : pc + 1 = p2) (kk : ∀ φ2 n2 sl2, n ≤ n2 → n2 ≤ n + cn → sl ≤ sl2 → sl2 ≤ sl + cs → R φ2 → x_n P d code p2 t loc φ2 n2 sl2 Post) : x_n P d code pc (xs ++ t) loc φ n sl Post := by
  subst hp
  refine q_call (Q := x_bV n sl cn cs R) hc hb h8 hL hr ?_ ?_
  · rw [ha]
    exact x_f_mono hf (fun u w φ3 n3 sl3 h => ⟨h.2.1.1, h.2.2.1.1, h⟩)
  · intro u w φ3 n3 sl3 _ _ hq
    obtain ⟨rfl, ⟨a1, a2⟩, ⟨a3, a4⟩, hR⟩ := hq
    exact Or.inl ⟨rfl, kk _ _ _ a1 a2 a3 a4 hR⟩
theorem q_callrB {M b cn cs : Nat} {tb : List (Nat × Nat)} {xs args : List XV} {R : XV → FH → Prop} (hc : x_nth code pc = some (11, M, b, tb)) (hb : xs.length = b) (h8 : Nat.ble (x_cats t) 8 = true) (hL : Nat.ble (x_len (x_flat xs.reverse)) (x_hd tb) = true) (hr : ∀ h, x_h φ n h → x_rcv h (x_flat xs.reverse) (x_hd2 tb) = true) (ha : x_pad (x_flat xs.reverse) (x_hd tb) = args)
    (hf : x_f P d M args φ n sl (x_bR n sl cn cs R)) (hp : pc + 1 = p2) (kk : ∀ w φ2 n2 sl2, n ≤ n2 → n2 ≤ n + cn → sl ≤ sl2 → sl2 ≤ sl + cs → R w φ2 → x_n P d code p2 (w :: t) loc φ2 n2 sl2 Post) : x_n P d code pc (xs ++ t) loc φ n sl Post := by
  subst hp
  refine q_call (Q := x_bR n sl cn cs R) hc hb h8 hL hr ?_ ?_
  · rw [ha]
    exact x_f_mono hf (fun u w φ3 n3 sl3 h => ⟨h.2.1.1, h.2.2.1.1, h⟩)
  · intro u w φ3 n3 sl3 _ _ hq
    obtain ⟨rfl, ⟨a1, a2⟩, ⟨a3, a4⟩, hR⟩ := hq
    exact Or.inr ⟨rfl, kk _ _ _ _ a1 a2 a3 a4 hR⟩
end FRULES4D
