section FSY
/-- an object's fields as a list -/
def x_lf (L : List XV) : Nat → XV := fun i => L.getD i (11, 0, 0)
/-- one place written -/
def x_s (K : Nat → Nat) (j v : Nat) : Nat → Nat := fun i => if i = j then v else K i
/-- a list as a function -/
def x_l (L : List Nat) : Nat → Nat := fun i => L.getD i 0
theorem x_s_eq {K : Nat → Nat} {j v : Nat} : x_s K j v j = v := if_pos rfl
theorem x_s_ne {K : Nat → Nat} {i j v : Nat} (h : i ≠ j) : x_s K j v i = K i := if_neg h
theorem x_obf {a len b : Nat} {L : List XV} {f1 : Nat → XV} {v : XV} (hb : Nat.blt b L.length = true) (hg : f1 b = v) (ho : ∀ i, i ≠ b → f1 i = x_lf L i) : some ((0, a, len, f1) : FC) = some (0, a, len, x_lf (L.set b v)) := by
  have hb : b < L.length := Nat.blt_eq.mp hb
  have e : f1 = x_lf (L.set b v) := by
    funext i
    unfold x_lf
    by_cases hi : i = b
    · subst hi
      rw [hg, List.getD_eq_getElem?_getD, List.getElem?_set_self hb]; rfl
    · rw [ho i hi]
      unfold x_lf
      rw [List.getD_eq_getElem?_getD, List.getD_eq_getElem?_getD, List.getElem?_set_ne (fun z => hi z.symm)]
  rw [e]
theorem x_arf {k c len t j v : Nat} {K : Nat → Nat} {f1 : Nat → XV} (hg : f1 j = (t, v, 0)) (ho : ∀ i, i ≠ j → f1 i = (t, K i, 0)) : some ((k, c, len, f1) : FC) = some (k, c, len, fun i => (t, x_s K j v i, 0)) := by
  have e : f1 = fun i => (t, x_s K j v i, 0) := by
    funext i
    show f1 i = (t, if i = j then v else K i, 0)
    by_cases hi : i = j
    · rw [if_pos hi, hi, hg]
    · rw [if_neg hi, ho i hi]
  rw [e]
theorem x_dec {x k z : Nat} (h : z + k = x ∧ k ≤ 4294967296 ∧ z < 4294967296) : (x + (4294967296 - k)) % 4294967296 = z := by omega
theorem x_nv_2 {v : Nat} (h : v < 128) : x_nv 2 (0, v, 0) (0, v, 0) := by
  intro k
  show x_if (Nat.beq 0 0) (x_if false _ (x_if (Nat.beq 0 0) (x_if (Nat.beq 2 2) (x_I (Nat.add (Nat.mod v 256) (x_if (Nat.ble 128 (Nat.mod v 256)) 4294967040 0)) k) _) _)) none = _
  have e : Nat.ble 128 (Nat.mod v 256) = false := by
    cases hb : Nat.ble 128 (Nat.mod v 256) with
    | true => have h2 := x_ble hb; have h3 : Nat.mod v 256 ≤ v := Nat.mod_le v 256; omega
    | false => rfl
  rw [e]
  show x_I (v % 256 + 0) k = _
  rw [xe_I]
  have e2 : (v % 256 + 0) % 4294967296 = v := by omega
  rw [e2]
theorem x_nv_3 {v : Nat} (h : v < 2) : x_nv 3 (0, v, 0) (0, v, 0) := by
  intro k
  match v, h with
  | 0, _ => rfl
  | 1, _ => rfl
section
variable {P : List (List XI)} {d pc p2 n sl : Nat} {code : List XI} {stk t loc : List XV} {φ : FH} {Post : FP}
theorem q_iaddz {b x y z : Nat} {tb : List (Nat × Nat)} (hc : x_nth code pc = some (15, 0, b, tb)) (hz : x + y = z) (hb : z < 4294967296) (hp : pc + 1 = p2) (kk : x_n P d code p2 ((0, z, 0) :: t) loc φ n sl Post) : x_n P d code pc ((0, y, 0) :: (0, x, 0) :: t) loc φ n sl Post :=
  q_iop (w := x + y) hc (xo_add x y) (by omega) hp kk
theorem q_isubz {b x y z : Nat} {tb : List (Nat × Nat)} (hc : x_nth code pc = some (15, 1, b, tb)) (hz : z + y = x) (hb : x < 4294967296) (hp : pc + 1 = p2) (kk : x_n P d code p2 ((0, z, 0) :: t) loc φ n sl Post) : x_n P d code pc ((0, y, 0) :: (0, x, 0) :: t) loc φ n sl Post :=
  q_iop (w := x + (4294967296 - y % 4294967296)) hc (xo_sub x y) (by omega) hp kk
theorem q_imulz {b x y z : Nat} {tb : List (Nat × Nat)} (hc : x_nth code pc = some (15, 2, b, tb)) (hz : x * y = z) (hb : z < 4294967296) (hp : pc + 1 = p2) (kk : x_n P d code p2 ((0, z, 0) :: t) loc φ n sl Post) : x_n P d code pc ((0, y, 0) :: (0, x, 0) :: t) loc φ n sl Post :=
  q_iop (w := x * y) hc (xo_mul x y) (by rw [hz]; omega) hp kk
theorem q_idr9 {b x y z : Nat} {tb : List (Nat × Nat)} (hc : x_nth code pc = some (15, 9, b, tb)) (hx : x < 2147483648) (hy : y < 2147483648) (h0 : 0 < y) (hz : x / y = z) (hp : pc + 1 = p2) (kk : x_n P d code p2 ((0, z, 0) :: t) loc φ n sl Post) : x_n P d code pc ((0, y, 0) :: (0, x, 0) :: t) loc φ n sl Post :=
  q_iop (w := x / y) hc (xo_div hx hy h0) (by have := Nat.div_le_self x y; omega) hp kk
theorem q_idr10 {b x y z : Nat} {tb : List (Nat × Nat)} (hc : x_nth code pc = some (15, 10, b, tb)) (hx : x < 2147483648) (hy : y < 2147483648) (h0 : 0 < y) (hz : x % y = z) (hp : pc + 1 = p2) (kk : x_n P d code p2 ((0, z, 0) :: t) loc φ n sl Post) : x_n P d code pc ((0, y, 0) :: (0, x, 0) :: t) loc φ n sl Post :=
  q_iop (w := x % y) hc (xo_rem hx hy h0) (by have := Nat.mod_le x y; omega) hp kk
theorem xlo_add {x y : Nat} : x_lop 0 x y = some (x + y) := rfl
theorem xlo_sub {x y : Nat} : x_lop 1 x y = some (x + (18446744073709551616 - y % 18446744073709551616)) := rfl
theorem xlo_mul {x y : Nat} : x_lop 2 x y = some (x * y) := rfl
theorem q_laddz {b x y z : Nat} {tb : List (Nat × Nat)} (hc : x_nth code pc = some (22, 0, b, tb)) (hz : x + y = z) (hb : z < 18446744073709551616) (hp : pc + 1 = p2) (kk : x_n P d code p2 ((2, z, 0) :: t) loc φ n sl Post) : x_n P d code pc ((2, y, 0) :: (2, x, 0) :: t) loc φ n sl Post :=
  q_lop (g := 2) (w := x + y) rfl hc xlo_add (by omega) hp kk
theorem q_lsubz {b x y z : Nat} {tb : List (Nat × Nat)} (hc : x_nth code pc = some (22, 1, b, tb)) (hz : z + y = x) (hb : x < 18446744073709551616) (hp : pc + 1 = p2) (kk : x_n P d code p2 ((2, z, 0) :: t) loc φ n sl Post) : x_n P d code pc ((2, y, 0) :: (2, x, 0) :: t) loc φ n sl Post :=
  q_lop (g := 2) (w := x + (18446744073709551616 - y % 18446744073709551616)) rfl hc xlo_sub (by omega) hp kk
theorem q_lmulz {b x y z : Nat} {tb : List (Nat × Nat)} (hc : x_nth code pc = some (22, 2, b, tb)) (hz : x * y = z) (hb : z < 18446744073709551616) (hp : pc + 1 = p2) (kk : x_n P d code p2 ((2, z, 0) :: t) loc φ n sl Post) : x_n P d code pc ((2, y, 0) :: (2, x, 0) :: t) loc φ n sl Post :=
  q_lop (g := 2) (w := x * y) rfl hc xlo_mul (by rw [hz]; omega) hp kk
theorem xlo_dr {a x y : Nat} (ha : a = 9 ∨ a = 10) (hx : x < 9223372036854775808) (hy : y < 9223372036854775808) (h0 : 0 < y) : x_lop a x y = some (if a = 9 then x / y else x % y) := by
  have e1 : Nat.ble 9223372036854775808 x = false := by
    cases hb : Nat.ble 9223372036854775808 x with
    | true => have := x_ble hb; omega
    | false => rfl
  have e2 : Nat.ble 9223372036854775808 y = false := by
    cases hb : Nat.ble 9223372036854775808 y with
    | true => have := x_ble hb; omega
    | false => rfl
  have e3 : Nat.beq y 0 = false := by
    cases hb : Nat.beq y 0 with
    | true => have := x_beq hb; omega
    | false => rfl
  rcases ha with rfl | rfl
  · show x_if (Nat.ble 9223372036854775808 x) none (x_if (Nat.ble 9223372036854775808 y) none (x_if (Nat.beq y 0) none (some (Nat.div x y)))) = _
    rw [e1, e2, e3]; rfl
  · show x_if (Nat.ble 9223372036854775808 x) none (x_if (Nat.ble 9223372036854775808 y) none (x_if (Nat.beq y 0) none (some (Nat.mod x y)))) = _
    rw [e1, e2, e3]; rfl
theorem q_ldr9 {b x y z : Nat} {tb : List (Nat × Nat)} (hc : x_nth code pc = some (22, 9, b, tb)) (hx : x < 9223372036854775808) (hy : y < 9223372036854775808) (h0 : 0 < y) (hz : x / y = z) (hp : pc + 1 = p2) (kk : x_n P d code p2 ((2, z, 0) :: t) loc φ n sl Post) : x_n P d code pc ((2, y, 0) :: (2, x, 0) :: t) loc φ n sl Post :=
  q_lop (g := 2) (w := x / y) rfl hc (xlo_dr (Or.inl rfl) hx hy h0) (by have := Nat.div_le_self x y; omega) hp kk
theorem q_ldr10 {b x y z : Nat} {tb : List (Nat × Nat)} (hc : x_nth code pc = some (22, 10, b, tb)) (hx : x < 9223372036854775808) (hy : y < 9223372036854775808) (h0 : 0 < y) (hz : x % y = z) (hp : pc + 1 = p2) (kk : x_n P d code p2 ((2, z, 0) :: t) loc φ n sl Post) : x_n P d code pc ((2, y, 0) :: (2, x, 0) :: t) loc φ n sl Post :=
  q_lop (g := 2) (w := x % y) rfl hc (xlo_dr (Or.inr rfl) hx hy h0) (by have := Nat.mod_le x y; omega) hp kk
theorem q_aldT {a b k j c len tag v : Nat} {tb : List (Nat × Nat)} {K : Nat → Nat} (hc : x_nth code pc = some (16, a, b, tb)) (hg : φ k = some (a, c, len, fun i => (tag, K i, 0))) (hj : j < len) (h31 : j < 2147483648) (hv : K j = v) (hp : pc + 1 = p2) (kk : x_n P d code p2 ((tag, v, 0) :: t) loc φ n sl Post) : x_n P d code pc ((0, j, 0) :: (6, k, 0) :: t) loc φ n sl Post :=
  q_aldv hc hg hj h31 (by rw [hv]) hp kk
theorem q_i2lN {a b x z : Nat} {tb : List (Nat × Nat)} (hc : x_nth code pc = some (23, a, b, tb)) (hs : x_sgn x = true) (hz : x % 4294967296 = x ∧ x + 18446744069414584320 = z) (hp : pc + 1 = p2) (kk : x_n P d code p2 ((2, z, 0) :: t) loc φ n sl Post) : x_n P d code pc ((0, x, 0) :: t) loc φ n sl Post := by
  subst hp
  refine x_n_go (fun K f h _ => (x_run_op hc rfl).trans ?_) kk
  rw [xe_i2l]
  dsimp only
  rw [Nat.beq_refl, x_if_true, x_force_eq, x_force_eq, x_force_eq, hz.1, hs, x_if_true, hz.2]
theorem q_icmpN {a tgt x y : Nat} {tb : List (Nat × Nat)} (hc : x_nth code pc = some (3, a, tgt, tb)) (hx : x < 2147483648) (hy : 2147483648 ≤ y ∧ y < 4294967296) (ha : a = 0 ∨ a = 1) (hp : pc + 1 = p2) (kk : x_n P d code (if a = 0 then p2 else tgt) t loc φ n sl Post) : x_n P d code pc ((0, y, 0) :: (0, x, 0) :: t) loc φ n sl Post := by
  have e1 : x_m x = x + 2147483648 := by unfold x_m; omega
  have e2 : x_m y = y - 2147483648 := by unfold x_m; omega
  rcases ha with rfl | rfl
  · refine q_icmp hc (by decide) hp (fun h => ?_) (fun _ => kk)
    have h : x_m x = x_m y := h
    rw [e1, e2] at h; omega
  · refine q_icmp hc (by decide) hp (fun _ => kk) (fun h => ?_)
    exact absurd (fun (z : x_m x = x_m y) => by rw [e1, e2] at z; omega) h
end
end FSY
