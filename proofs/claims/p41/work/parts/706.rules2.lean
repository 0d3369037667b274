section FRULES2
variable {P : List (List XI)} {d pc p2 n sl : Nat} {code : List XI} {stk t loc : List XV} {φ : FH} {Post : FP}
theorem q_getv {a b k len : Nat} {tb : List (Nat × Nat)} {f : Nat → XV} {v : XV} (hc : x_nth code pc = some (1, a, b, tb)) (hg : φ k = some (0, a, len, f)) (hb : b < len) (hv : f b = v) (hp : pc + 1 = p2) (kk : x_n P d code p2 (v :: t) loc φ n sl Post) : x_n P d code pc ((6, k, 0) :: t) loc φ n sl Post := by
  subst hv
  exact q_getf hc hg hb hp kk
theorem q_aldv {a b k j c len : Nat} {tb : List (Nat × Nat)} {f : Nat → XV} {v : XV} (hc : x_nth code pc = some (16, a, b, tb)) (hg : φ k = some (a, c, len, f)) (hj : j < len) (h31 : j < 2147483648) (hv : f j = v) (hp : pc + 1 = p2) (kk : x_n P d code p2 (v :: t) loc φ n sl Post) : x_n P d code pc ((0, j, 0) :: (6, k, 0) :: t) loc φ n sl Post := by
  subst hv
  exact q_ald hc hg hj h31 hp kk
theorem x_m_s {x : Nat} (hx : x < 2147483648) : x_m x = x + 2147483648 := by
  unfold x_m
  omega
theorem x_ml_s {x : Nat} (hx : x < 9223372036854775808) : x_ml x = x + 9223372036854775808 := by
  unfold x_ml
  omega
theorem x_cq_s {a x y c : Nat} (ha : a < 6) : x_cq a (x + c) (y + c) ↔ x_cq a x y := by
  match a, ha with
  | 0, _ => show (x + c = y + c) ↔ (x = y); omega
  | 1, _ => show (¬ x + c = y + c) ↔ (¬ x = y); omega
  | 2, _ => show (x + c < y + c) ↔ (x < y); omega
  | 3, _ => show (¬ x + c < y + c) ↔ (¬ x < y); omega
  | 4, _ => show (y + c < x + c) ↔ (y < x); omega
  | 5, _ => show (¬ y + c < x + c) ↔ (¬ y < x); omega
/-- a comparison of two that aren't below 0 -/
theorem q_icmp_s {a tgt x y : Nat} {tb : List (Nat × Nat)} (hc : x_nth code pc = some (3, a, tgt, tb)) (ha : a < 6) (hx : x < 2147483648) (hy : y < 2147483648) (hp : pc + 1 = p2) (kt : x_cq a x y → x_n P d code tgt t loc φ n sl Post) (kf : ¬ x_cq a x y → x_n P d code p2 t loc φ n sl Post) : x_n P d code pc ((0, y, 0) :: (0, x, 0) :: t) loc φ n sl Post := by
  refine q_icmp hc ha hp (fun h => kt ?_) (fun h => kf ?_)
  · rw [x_m_s hx, x_m_s hy] at h
    exact (x_cq_s ha).mp h
  · rw [x_m_s hx, x_m_s hy] at h
    exact fun z => h ((x_cq_s ha).mpr z)
theorem q_if0_s {a tgt x : Nat} {tb : List (Nat × Nat)} (hc : x_nth code pc = some (4, a, tgt, tb)) (ha : a < 6) (hx : x < 2147483648) (hp : pc + 1 = p2) (kt : x_cq a x 0 → x_n P d code tgt t loc φ n sl Post) (kf : ¬ x_cq a x 0 → x_n P d code p2 t loc φ n sl Post) : x_n P d code pc ((0, x, 0) :: t) loc φ n sl Post := by
  have key : x_cq a (x + 2147483648) 2147483648 ↔ x_cq a x 0 := by
    have := x_cq_s (x := x) (y := 0) (c := 2147483648) ha
    rw [Nat.zero_add] at this
    exact this
  refine q_if0 hc ha hp (fun h => kt ?_) (fun h => kf ?_)
  · rw [x_m_s hx] at h
    exact key.mp h
  · rw [x_m_s hx] at h
    exact fun z => h (key.mpr z)
theorem xo_add (x y : Nat) : x_iop 0 x y = some (x + y) := rfl
theorem xo_mul (x y : Nat) : x_iop 2 x y = some (x * y) := rfl
theorem xo_and (x y : Nat) : x_iop 3 x y = some (x &&& y) := rfl
theorem xo_or (x y : Nat) : x_iop 4 x y = some (x ||| y) := rfl
theorem xo_xor (x y : Nat) : x_iop 5 x y = some (x ^^^ y) := rfl
theorem xe_iopv (a x y : Nat) : x_iop a x y = x_if (Nat.ble a 2) (some (x_if (Nat.beq a 0) (Nat.add x y) (x_if (Nat.beq a 1) (Nat.add x (Nat.sub 4294967296 (Nat.mod y 4294967296))) (Nat.mul x y))))
   (x_if (Nat.ble a 5) (some (x_if (Nat.beq a 3) (Nat.land x y) (x_if (Nat.beq a 4) (Nat.lor x y) (Nat.xor x y))))
    (x_if (Nat.beq a 6) (some (Nat.shiftLeft x (Nat.mod y 32)))
     (x_if (x_sgn x) none (x_if (Nat.beq a 7) (some (Nat.shiftRight x (Nat.mod y 32)))
       (x_if (x_sgn y) none (x_if (Nat.beq y 0) none (some (x_if (Nat.beq a 9) (Nat.div x y) (Nat.mod x y))))))))) := rfl
theorem x_subw (c m x y : Nat) : Nat.add x (Nat.sub c (Nat.mod y m)) = x + (c - y % m) := rfl
theorem xo_sub (x y : Nat) : x_iop 1 x y = some (x + (4294967296 - y % 4294967296)) := by
  rw [xe_iopv, show Nat.ble 1 2 = true from rfl, x_if_true, show Nat.beq 1 0 = false from rfl, x_if_false, Nat.beq_refl, x_if_true, x_subw]
theorem xo_shl (x y : Nat) : x_iop 6 x y = some (x <<< (y % 32)) := by
  rw [xe_iopv, show Nat.ble 6 2 = false from rfl, x_if_false, show Nat.ble 6 5 = false from rfl, x_if_false, Nat.beq_refl, x_if_true]; rfl
theorem xo_shr {x : Nat} (hx : x < 2147483648) (y : Nat) : x_iop 7 x y = some (x >>> (y % 32)) := by
  rw [xe_iopv, show Nat.ble 7 2 = false from rfl, x_if_false, show Nat.ble 7 5 = false from rfl, x_if_false, show Nat.beq 7 6 = false from rfl, x_if_false, x_sgn_f hx, x_if_false, Nat.beq_refl, x_if_true]; rfl
theorem x_beq0 {y : Nat} (h : 0 < y) : Nat.beq y 0 = false := by
  cases hb : Nat.beq y 0 with
  | true => have := x_beq hb; omega
  | false => rfl
theorem xo_div {x y : Nat} (hx : x < 2147483648) (hy : y < 2147483648) (h0 : 0 < y) : x_iop 9 x y = some (x / y) := by
  rw [xe_iopv, show Nat.ble 9 2 = false from rfl, x_if_false, show Nat.ble 9 5 = false from rfl, x_if_false, show Nat.beq 9 6 = false from rfl, x_if_false, x_sgn_f hx, x_if_false, show Nat.beq 9 7 = false from rfl, x_if_false, x_sgn_f hy, x_if_false, x_beq0 h0, x_if_false, Nat.beq_refl, x_if_true]; rfl
theorem xo_rem {x y : Nat} (hx : x < 2147483648) (hy : y < 2147483648) (h0 : 0 < y) : x_iop 10 x y = some (x % y) := by
  rw [xe_iopv, show Nat.ble 10 2 = false from rfl, x_if_false, show Nat.ble 10 5 = false from rfl, x_if_false, show Nat.beq 10 6 = false from rfl, x_if_false, x_sgn_f hx, x_if_false, show Nat.beq 10 7 = false from rfl, x_if_false, x_sgn_f hy, x_if_false, x_beq0 h0, x_if_false, show Nat.beq 10 9 = false from rfl, x_if_false]; rfl
theorem q_iadd {b x y : Nat} {tb : List (Nat × Nat)} (hc : x_nth code pc = some (15, 0, b, tb)) (hz : x + y < 4294967296) (hp : pc + 1 = p2) (kk : x_n P d code p2 ((0, x + y, 0) :: t) loc φ n sl Post) : x_n P d code pc ((0, y, 0) :: (0, x, 0) :: t) loc φ n sl Post := q_iop hc (xo_add x y) (Nat.mod_eq_of_lt hz) hp kk
theorem q_isub {b x y : Nat} {tb : List (Nat × Nat)} (hc : x_nth code pc = some (15, 1, b, tb)) (hz : y ≤ x) (hx : x < 4294967296) (hp : pc + 1 = p2) (kk : x_n P d code p2 ((0, x - y, 0) :: t) loc φ n sl Post) : x_n P d code pc ((0, y, 0) :: (0, x, 0) :: t) loc φ n sl Post := q_iop hc (xo_sub x y) (by omega) hp kk
theorem q_imul {b x y : Nat} {tb : List (Nat × Nat)} (hc : x_nth code pc = some (15, 2, b, tb)) (hz : x * y < 4294967296) (hp : pc + 1 = p2) (kk : x_n P d code p2 ((0, x * y, 0) :: t) loc φ n sl Post) : x_n P d code pc ((0, y, 0) :: (0, x, 0) :: t) loc φ n sl Post := q_iop hc (xo_mul x y) (Nat.mod_eq_of_lt hz) hp kk
theorem q_iand {b x y : Nat} {tb : List (Nat × Nat)} (hc : x_nth code pc = some (15, 3, b, tb)) (hz : x < 4294967296) (hp : pc + 1 = p2) (kk : x_n P d code p2 ((0, x &&& y, 0) :: t) loc φ n sl Post) : x_n P d code pc ((0, y, 0) :: (0, x, 0) :: t) loc φ n sl Post := q_iop hc (xo_and x y) (Nat.mod_eq_of_lt (Nat.lt_of_le_of_lt Nat.and_le_left hz)) hp kk
theorem q_ior {b x y : Nat} {tb : List (Nat × Nat)} (hc : x_nth code pc = some (15, 4, b, tb)) (hz : x < 2 ^ 32 ∧ y < 2 ^ 32) (hp : pc + 1 = p2) (kk : x_n P d code p2 ((0, x ||| y, 0) :: t) loc φ n sl Post) : x_n P d code pc ((0, y, 0) :: (0, x, 0) :: t) loc φ n sl Post := q_iop hc (xo_or x y) (Nat.mod_eq_of_lt (Nat.or_lt_two_pow hz.1 hz.2)) hp kk
theorem q_ishr {b x y : Nat} {tb : List (Nat × Nat)} (hc : x_nth code pc = some (15, 7, b, tb)) (hx : x < 2147483648) (hy : y < 32) (hp : pc + 1 = p2) (kk : x_n P d code p2 ((0, x >>> y, 0) :: t) loc φ n sl Post) : x_n P d code pc ((0, y, 0) :: (0, x, 0) :: t) loc φ n sl Post :=
  q_iop hc (xo_shr hx y) (by rw [Nat.mod_eq_of_lt hy]; exact Nat.mod_eq_of_lt (Nat.lt_of_le_of_lt (Nat.shiftRight_le _ _) (by omega))) hp kk
theorem q_ishl {b x y z : Nat} {tb : List (Nat × Nat)} (hc : x_nth code pc = some (15, 6, b, tb)) (hy : y < 32) (hz : x <<< y < 4294967296) (hp : pc + 1 = p2) (kk : x_n P d code p2 ((0, x <<< y, 0) :: t) loc φ n sl Post) : x_n P d code pc ((0, y, 0) :: (0, x, 0) :: t) loc φ n sl Post :=
  q_iop hc (xo_shl x y) (by rw [Nat.mod_eq_of_lt hy]; exact Nat.mod_eq_of_lt hz) hp kk
/-- what a call leaves: its answer, all else as it was -/
def x_r (φ : FH) (n sl : Nat) (v : XV) : FP := fun u w φ2 n2 sl2 => u = 1 ∧ w = v ∧ φ2 = φ ∧ n2 = n ∧ sl2 = sl
/-- no answer, these cells -/
def x_v (φ : FH) (n sl : Nat) : FP := fun u _ φ2 n2 sl2 => u = 0 ∧ φ2 = φ ∧ n2 = n ∧ sl2 = sl
theorem x_rcv_s (k : Nat) {c len : Nat} {f : Nat → XV} {args : List XV} (hg : φ k = some (0, c, len, f)) : ∀ h, x_h φ n h → x_rcv h ((6, k, 0) :: args) (c + 1) = true := by
  intro h hh
  obtain ⟨g, e1, -⟩ := x_h_get hh hg
  show x_if (Nat.beq (c + 1) 0) true (Option.rec (motive := fun _ => Bool) false (fun q => x_if (Nat.beq q.1 0) (Nat.beq (Nat.succ q.2.1) (c + 1)) false) (x_hget h k)) = true
  rw [show Nat.beq (c + 1) 0 = false from rfl, x_if_false, e1]
  show Nat.beq (c + 1) (c + 1) = true
  exact Nat.beq_refl _
theorem x_rcv_0 {args : List XV} : ∀ h, x_h φ n h → x_rcv h args 0 = true := fun _ _ => rfl
/-- a call that answers v, and leaves these cells -/
theorem q_callr {M b : Nat} {tb : List (Nat × Nat)} {xs args : List XV} {v : XV} {φ2 : FH} {n2 sl2 : Nat} (hc : x_nth code pc = some (11, M, b, tb)) (hb : xs.length = b) (h8 : Nat.ble (x_cats t) 8 = true) (hL : Nat.ble (x_len (x_flat xs.reverse)) (x_hd tb) = true) (hr : ∀ h, x_h φ n h → x_rcv h (x_flat xs.reverse) (x_hd2 tb) = true) (ha : x_pad (x_flat xs.reverse) (x_hd tb) = args)
    (hf : x_f P d M args φ n sl (x_r φ2 n2 sl2 v)) (hn : n ≤ n2) (hs : sl ≤ sl2) (hp : pc + 1 = p2) (kk : x_n P d code p2 (v :: t) loc φ2 n2 sl2 Post) : x_n P d code pc (xs ++ t) loc φ n sl Post := by
  subst hp
  refine q_call (Q := x_r φ2 n2 sl2 v) hc hb h8 hL hr ?_ ?_
  · rw [ha]
    exact x_f_mono hf (fun u w φ3 n3 sl3 h => ⟨by rw [h.2.2.2.1]; exact hn, by rw [h.2.2.2.2]; exact hs, h⟩)
  · intro u w φ3 n3 sl3 _ _ hq
    obtain ⟨rfl, rfl, rfl, rfl, rfl⟩ := hq
    exact Or.inr ⟨rfl, kk⟩
theorem q_callv {M b : Nat} {tb : List (Nat × Nat)} {xs args : List XV} {φ2 : FH} {n2 sl2 : Nat} (hc : x_nth code pc = some (11, M, b, tb)) (hb : xs.length = b) (h8 : Nat.ble (x_cats t) 8 = true) (hL : Nat.ble (x_len (x_flat xs.reverse)) (x_hd tb) = true) (hr : ∀ h, x_h φ n h → x_rcv h (x_flat xs.reverse) (x_hd2 tb) = true) (ha : x_pad (x_flat xs.reverse) (x_hd tb) = args)
    (hf : x_f P d M args φ n sl (x_v φ2 n2 sl2)) (hn : n ≤ n2) (hs : sl ≤ sl2) (hp : pc + 1 = p2) (kk : x_n P d code p2 t loc φ2 n2 sl2 Post) : x_n P d code pc (xs ++ t) loc φ n sl Post := by
  subst hp
  refine q_call (Q := x_v φ2 n2 sl2) hc hb h8 hL hr ?_ ?_
  · rw [ha]
    exact x_f_mono hf (fun u w φ3 n3 sl3 h => ⟨by rw [h.2.2.1]; exact hn, by rw [h.2.2.2]; exact hs, h⟩)
  · intro u w φ3 n3 sl3 _ _ hq
    obtain ⟨rfl, rfl, rfl, rfl⟩ := hq
    exact Or.inl ⟨rfl, kk⟩
end FRULES2
