section FPOP60
def zq_H (φ : FH) (tpd : Nat) (hand : Nat) (lf : Nat) (ie : Nat) : Prop := φ 0 = some (0, 0, 15, x_lf [(6, 1, 0), (0, tpd, 0), (6, 2, 0), (6, 7, 0), (6, 232, 0), (6, 236, 0), (6, 455, 0), (6, 468, 0), (6, 471, 0), (6, 478, 0), (6, hand, 0), (6, 482, 0), (6, 483, 0), (0, lf, 0), (0, ie, 0)])
theorem zq_H_at {φ φ1 : FH} {tpd : Nat} {hand : Nat} {lf : Nat} {ie : Nat} (h : zq_H φ tpd hand lf ie) (e0 : φ1 0 = φ 0) : zq_H φ1 tpd hand lf ie := e0.trans h
theorem zq_H_put_0_1 {φ φ1 : FH} {tpd : Nat} {hand : Nat} {lf : Nat} {ie : Nat} {x_new : Nat} {f1 : Nat → XV} (h : zq_H φ tpd hand lf ie) (hh : φ1 0 = some (0, 0, 15, f1)) (hg : f1 1 = (0, x_new, 0)) (ho : ∀ i, i ≠ 1 → f1 i = x_lf [(6, 1, 0), (0, tpd, 0), (6, 2, 0), (6, 7, 0), (6, 232, 0), (6, 236, 0), (6, 455, 0), (6, 468, 0), (6, 471, 0), (6, 478, 0), (6, hand, 0), (6, 482, 0), (6, 483, 0), (0, lf, 0), (0, ie, 0)] i) (fr : ∀ j, j ≠ 0 → φ1 j = φ j) : zq_H φ1 x_new hand lf ie := hh.trans (x_obf rfl hg ho)
theorem zq_H_put_0_10 {φ φ1 : FH} {tpd : Nat} {hand : Nat} {lf : Nat} {ie : Nat} {x_new : Nat} {f1 : Nat → XV} (h : zq_H φ tpd hand lf ie) (hh : φ1 0 = some (0, 0, 15, f1)) (hg : f1 10 = (6, x_new, 0)) (ho : ∀ i, i ≠ 10 → f1 i = x_lf [(6, 1, 0), (0, tpd, 0), (6, 2, 0), (6, 7, 0), (6, 232, 0), (6, 236, 0), (6, 455, 0), (6, 468, 0), (6, 471, 0), (6, 478, 0), (6, hand, 0), (6, 482, 0), (6, 483, 0), (0, lf, 0), (0, ie, 0)] i) (fr : ∀ j, j ≠ 0 → φ1 j = φ j) : zq_H φ1 tpd x_new lf ie := hh.trans (x_obf rfl hg ho)
theorem zq_H_put_0_13 {φ φ1 : FH} {tpd : Nat} {hand : Nat} {lf : Nat} {ie : Nat} {x_new : Nat} {f1 : Nat → XV} (h : zq_H φ tpd hand lf ie) (hh : φ1 0 = some (0, 0, 15, f1)) (hg : f1 13 = (0, x_new, 0)) (ho : ∀ i, i ≠ 13 → f1 i = x_lf [(6, 1, 0), (0, tpd, 0), (6, 2, 0), (6, 7, 0), (6, 232, 0), (6, 236, 0), (6, 455, 0), (6, 468, 0), (6, 471, 0), (6, 478, 0), (6, hand, 0), (6, 482, 0), (6, 483, 0), (0, lf, 0), (0, ie, 0)] i) (fr : ∀ j, j ≠ 0 → φ1 j = φ j) : zq_H φ1 tpd hand x_new ie := hh.trans (x_obf rfl hg ho)
theorem zq_H_put_0_14 {φ φ1 : FH} {tpd : Nat} {hand : Nat} {lf : Nat} {ie : Nat} {x_new : Nat} {f1 : Nat → XV} (h : zq_H φ tpd hand lf ie) (hh : φ1 0 = some (0, 0, 15, f1)) (hg : f1 14 = (0, x_new, 0)) (ho : ∀ i, i ≠ 14 → f1 i = x_lf [(6, 1, 0), (0, tpd, 0), (6, 2, 0), (6, 7, 0), (6, 232, 0), (6, 236, 0), (6, 455, 0), (6, 468, 0), (6, 471, 0), (6, 478, 0), (6, hand, 0), (6, 482, 0), (6, 483, 0), (0, lf, 0), (0, ie, 0)] i) (fr : ∀ j, j ≠ 0 → φ1 j = φ j) : zq_H φ1 tpd hand lf x_new := hh.trans (x_obf rfl hg ho)
theorem x_sch_at' {φ φ1 : FH} (h : x_sch φ) (e : ∀ j, j ≠ 450 → 237 ≤ j → j ≤ 449 → φ1 j = φ j) : x_sch φ1 := x_sch_at h (fun j h1 h2 => e j (by omega) h1 h2)
theorem x_nv_2b {v b : Nat} (h : v % 256 = b) (hb : b < 128) : x_nv 2 (0, v, 0) (0, b, 0) := by
  intro k
  show x_if (Nat.beq 0 0) (x_if false _ (x_if (Nat.beq 0 0) (x_if (Nat.beq 2 2) (x_I (Nat.add (Nat.mod v 256) (x_if (Nat.ble 128 (Nat.mod v 256)) 4294967040 0)) k) _) _)) none = _
  have e0 : Nat.mod v 256 = b := h
  have e : Nat.ble 128 b = false := by
    cases hb2 : Nat.ble 128 b with
    | true => have h2 := x_ble hb2; omega
    | false => rfl
  rw [e0, e]
  show x_I (b + 0) k = _
  rw [xe_I]
  have e2 : (b + 0) % 4294967296 = b := by omega
  rw [e2]
theorem q_ishlz {P : List (List XI)} {d pc p2 n sl : Nat} {code : List XI} {t loc : List XV} {φ : FH} {Post : FP} {b x y z : Nat} {tb : List (Nat × Nat)} (hc : x_nth code pc = some (15, 6, b, tb)) (hz : x <<< (y % 32) = z) (hb : z < 4294967296) (hp : pc + 1 = p2) (kk : x_n P d code p2 ((0, z, 0) :: t) loc φ n sl Post) : x_n P d code pc ((0, y, 0) :: (0, x, 0) :: t) loc φ n sl Post :=
  q_iop (w := x <<< (y % 32)) hc (xo_shl x y) (by rw [hz]; omega) hp kk
theorem x_KS_co {φ φ2 : FH} {top fr pc_ mm mi : Nat} {st lo re rs fl se co co2 : Nat → Nat} (h : x_KS φ top fr pc_ mm mi st lo re rs fl se co) (h1 : zq_co φ2 co2) (e : ∀ j, j ≠ 450 → 237 ≤ j → j ≤ 466 → φ2 j = φ j) : x_KS φ2 top fr pc_ mm mi st lo re rs fl se co2 := by
  obtain ⟨a1, a2, a3, a4, a5, a6, a7, -, a9, b1⟩ := h
  exact ⟨x_mc_at a1 (e _ (by decide) (by decide) (by decide)), x_vrow_at a2 (e _ (by decide) (by decide) (by decide)), x_vrow_at a3 (e _ (by decide) (by decide) (by decide)), x_irow_at a4 (e _ (by decide) (by decide) (by decide)), x_irow_at a5 (e _ (by decide) (by decide) (by decide)), x_irow_at a6 (e _ (by decide) (by decide) (by decide)), x_vrow_at a7 (e _ (by decide) (by decide) (by decide)), h1, x_ops_at a9 (e _ (by decide) (by decide) (by decide)), x_sch_at' b1 (fun j h0 h1 h2 => e j h0 h1 (by omega))⟩
theorem zc_h_append {d n sl : Nat} {φ : FH} {tpd : Nat} {hand : Nat} {lf : Nat} {ie : Nat} {tp : Nat → Nat} {wd : Nat} {b0 : Nat} {b1 : Nat} {b2 : Nat} {b3 : Nat} (hH : zq_H φ tpd hand lf ie) (hB : zq_tp φ tp) (hc0 : (wd >>> 24) % 256 = b0) (hc1 : (wd >>> 16) % 256 = b1) (hc2 : (wd >>> 8) % 256 = b2) (hc3 : (wd >>> 0) % 256 = b3) (hc4 : wd < 2147483648 ∧ b0 < 128 ∧ b1 < 128 ∧ b2 < 128 ∧ b3 < 128) (hc5 : tpd < 2900) : x_f x_P (d + 1) 41 [(6, 0, 0), (0, wd, 0), (11, 0, 0)] φ n sl (x_vR n sl (fun φ2 => zq_H φ2 (tpd + 4) hand lf ie ∧ zq_tp φ2 (x_s (x_s (x_s (x_s tp tpd b0) (tpd + 1) b1) (tpd + 2) b2) (tpd + 3) b3) ∧ ∀ j, j ≠ 0 → j ≠ 1 → φ2 j = φ j)) := by
  refine x_f_of rfl ?_
  refine q_const (p2 := 1) rfl rfl ?_
  refine q_store (loc2 := [(6, 0, 0), (0, wd, 0), (0, 24, 0)]) (p2 := 2) rfl rfl rfl rfl rfl ?_
  refine q_load (v := (0, 24, 0)) (p2 := 3) rfl rfl rfl rfl ?_
  refine q_if0_s (p2 := 4) rfl (by decide) (by omega) rfl (fun hb => absurd hb (show ¬ (24 < 0) by omega)) (fun _ => ?_)
  refine q_load (v := (6, 0, 0)) (p2 := 5) rfl rfl rfl rfl ?_
  refine q_getv (v := (0, tpd, 0)) (p2 := 6) rfl hH (by decide) rfl rfl ?_
  refine q_load (v := (6, 0, 0)) (p2 := 7) rfl rfl rfl rfl ?_
  refine q_getv (v := (6, 1, 0)) (p2 := 8) rfl hH (by decide) rfl rfl ?_
  refine q_alen (p2 := 9) rfl hB rfl (by omega) rfl ?_
  refine q_icmp_s (p2 := 10) rfl (by decide) (by omega) (by omega) rfl (fun hb => absurd hb (show ¬ (¬ (tpd < 3000)) by omega)) (fun _ => ?_)
  refine q_load (v := (6, 0, 0)) (p2 := 11) rfl rfl rfl rfl ?_
  refine q_getv (v := (6, 1, 0)) (p2 := 12) rfl hH (by decide) rfl rfl ?_
  refine q_load (v := (6, 0, 0)) (p2 := 13) rfl rfl rfl rfl ?_
  refine q_getv (v := (0, tpd, 0)) (p2 := 14) rfl hH (by decide) rfl rfl ?_
  refine q_load (v := (0, wd, 0)) (p2 := 15) rfl rfl rfl rfl ?_
  refine q_load (v := (0, 24, 0)) (p2 := 16) rfl rfl rfl rfl ?_
  refine q_ishr (p2 := 17) rfl (by omega) (by omega) rfl ?_
  refine q_i2n (w := (0, b0, 0)) (p2 := 18) rfl (x_nv_2b hc0 (by omega)) rfl ?_
  refine q_astE (v := (0, b0, 0)) (w := (0, b0, 0)) (p2 := 19) rfl hB (by omega) (by omega) (x_ok_0 rfl) (x_nv_2 (by omega)) rfl (fun φ1 f1 hh1 hg1 ho1 fr1 => ?_)
  have hs1 := zq_tp_st_1 hB hh1 hg1 ho1 fr1
  refine q_load (v := (6, 0, 0)) (p2 := 20) rfl rfl rfl rfl ?_
  refine q_dup (p2 := 21) rfl rfl rfl ?_
  have hm2 := (zq_H_at hH (fr1 0 (by decide)))
  refine q_getv (v := (0, tpd, 0)) (p2 := 22) rfl hm2 (by decide) rfl rfl ?_
  refine q_const (p2 := 23) rfl rfl ?_
  refine q_iaddz (z := tpd + 1) (p2 := 24) rfl (by omega) (by omega) rfl ?_
  refine q_putfE (v := (0, tpd + 1, 0)) (p2 := 25) rfl hm2 (by decide) rfl rfl (fun φ3 f3 hh3 hg3 ho3 fr3 => ?_)
  have hs3 := zq_H_put_0_1 hm2 hh3 hg3 ho3 fr3
  refine q_iinc (z := 16) (loc2 := [(6, 0, 0), (0, wd, 0), (0, 16, 0)]) (p2 := 26) rfl rfl (by decide) rfl rfl ?_
  refine q_goto rfl ?_
  refine q_load (v := (0, 16, 0)) (p2 := 3) rfl rfl rfl rfl ?_
  refine q_if0_s (p2 := 4) rfl (by decide) (by omega) rfl (fun hb => absurd hb (show ¬ (16 < 0) by omega)) (fun _ => ?_)
  refine q_load (v := (6, 0, 0)) (p2 := 5) rfl rfl rfl rfl ?_
  refine q_getv (v := (0, tpd + 1, 0)) (p2 := 6) rfl hs3 (by decide) rfl rfl ?_
  refine q_load (v := (6, 0, 0)) (p2 := 7) rfl rfl rfl rfl ?_
  refine q_getv (v := (6, 1, 0)) (p2 := 8) rfl hs3 (by decide) rfl rfl ?_
  have hm4 := (zq_tp_at hs1 (fr3 1 (by decide)))
  refine q_alen (p2 := 9) rfl hm4 rfl (by omega) rfl ?_
  refine q_icmp_s (p2 := 10) rfl (by decide) (by omega) (by omega) rfl (fun hb => absurd hb (show ¬ (¬ (tpd + 1 < 3000)) by omega)) (fun _ => ?_)
  refine q_load (v := (6, 0, 0)) (p2 := 11) rfl rfl rfl rfl ?_
  refine q_getv (v := (6, 1, 0)) (p2 := 12) rfl hs3 (by decide) rfl rfl ?_
  refine q_load (v := (6, 0, 0)) (p2 := 13) rfl rfl rfl rfl ?_
  refine q_getv (v := (0, tpd + 1, 0)) (p2 := 14) rfl hs3 (by decide) rfl rfl ?_
  refine q_load (v := (0, wd, 0)) (p2 := 15) rfl rfl rfl rfl ?_
  refine q_load (v := (0, 16, 0)) (p2 := 16) rfl rfl rfl rfl ?_
  refine q_ishr (p2 := 17) rfl (by omega) (by omega) rfl ?_
  refine q_i2n (w := (0, b1, 0)) (p2 := 18) rfl (x_nv_2b hc1 (by omega)) rfl ?_
  refine q_astE (v := (0, b1, 0)) (w := (0, b1, 0)) (p2 := 19) rfl hm4 (by omega) (by omega) (x_ok_0 rfl) (x_nv_2 (by omega)) rfl (fun φ5 f5 hh5 hg5 ho5 fr5 => ?_)
  have hs5 := zq_tp_st_1 hm4 hh5 hg5 ho5 fr5
  refine q_load (v := (6, 0, 0)) (p2 := 20) rfl rfl rfl rfl ?_
  refine q_dup (p2 := 21) rfl rfl rfl ?_
  have hm6 := (zq_H_at hs3 (fr5 0 (by decide)))
  refine q_getv (v := (0, tpd + 1, 0)) (p2 := 22) rfl hm6 (by decide) rfl rfl ?_
  refine q_const (p2 := 23) rfl rfl ?_
  refine q_iaddz (z := tpd + 2) (p2 := 24) rfl (by omega) (by omega) rfl ?_
  refine q_putfE (v := (0, tpd + 2, 0)) (p2 := 25) rfl hm6 (by decide) rfl rfl (fun φ7 f7 hh7 hg7 ho7 fr7 => ?_)
  have hs7 := zq_H_put_0_1 hm6 hh7 hg7 ho7 fr7
  refine q_iinc (z := 8) (loc2 := [(6, 0, 0), (0, wd, 0), (0, 8, 0)]) (p2 := 26) rfl rfl (by decide) rfl rfl ?_
  refine q_goto rfl ?_
  refine q_load (v := (0, 8, 0)) (p2 := 3) rfl rfl rfl rfl ?_
  refine q_if0_s (p2 := 4) rfl (by decide) (by omega) rfl (fun hb => absurd hb (show ¬ (8 < 0) by omega)) (fun _ => ?_)
  refine q_load (v := (6, 0, 0)) (p2 := 5) rfl rfl rfl rfl ?_
  refine q_getv (v := (0, tpd + 2, 0)) (p2 := 6) rfl hs7 (by decide) rfl rfl ?_
  refine q_load (v := (6, 0, 0)) (p2 := 7) rfl rfl rfl rfl ?_
  refine q_getv (v := (6, 1, 0)) (p2 := 8) rfl hs7 (by decide) rfl rfl ?_
  have hm8 := (zq_tp_at hs5 (fr7 1 (by decide)))
  refine q_alen (p2 := 9) rfl hm8 rfl (by omega) rfl ?_
  refine q_icmp_s (p2 := 10) rfl (by decide) (by omega) (by omega) rfl (fun hb => absurd hb (show ¬ (¬ (tpd + 2 < 3000)) by omega)) (fun _ => ?_)
  refine q_load (v := (6, 0, 0)) (p2 := 11) rfl rfl rfl rfl ?_
  refine q_getv (v := (6, 1, 0)) (p2 := 12) rfl hs7 (by decide) rfl rfl ?_
  refine q_load (v := (6, 0, 0)) (p2 := 13) rfl rfl rfl rfl ?_
  refine q_getv (v := (0, tpd + 2, 0)) (p2 := 14) rfl hs7 (by decide) rfl rfl ?_
  refine q_load (v := (0, wd, 0)) (p2 := 15) rfl rfl rfl rfl ?_
  refine q_load (v := (0, 8, 0)) (p2 := 16) rfl rfl rfl rfl ?_
  refine q_ishr (p2 := 17) rfl (by omega) (by omega) rfl ?_
  refine q_i2n (w := (0, b2, 0)) (p2 := 18) rfl (x_nv_2b hc2 (by omega)) rfl ?_
  refine q_astE (v := (0, b2, 0)) (w := (0, b2, 0)) (p2 := 19) rfl hm8 (by omega) (by omega) (x_ok_0 rfl) (x_nv_2 (by omega)) rfl (fun φ9 f9 hh9 hg9 ho9 fr9 => ?_)
  have hs9 := zq_tp_st_1 hm8 hh9 hg9 ho9 fr9
  refine q_load (v := (6, 0, 0)) (p2 := 20) rfl rfl rfl rfl ?_
  refine q_dup (p2 := 21) rfl rfl rfl ?_
  have hm10 := (zq_H_at hs7 (fr9 0 (by decide)))
  refine q_getv (v := (0, tpd + 2, 0)) (p2 := 22) rfl hm10 (by decide) rfl rfl ?_
  refine q_const (p2 := 23) rfl rfl ?_
  refine q_iaddz (z := tpd + 3) (p2 := 24) rfl (by omega) (by omega) rfl ?_
  refine q_putfE (v := (0, tpd + 3, 0)) (p2 := 25) rfl hm10 (by decide) rfl rfl (fun φ11 f11 hh11 hg11 ho11 fr11 => ?_)
  have hs11 := zq_H_put_0_1 hm10 hh11 hg11 ho11 fr11
  refine q_iinc (z := 0) (loc2 := [(6, 0, 0), (0, wd, 0), (0, 0, 0)]) (p2 := 26) rfl rfl (by decide) rfl rfl ?_
  refine q_goto rfl ?_
  refine q_load (v := (0, 0, 0)) (p2 := 3) rfl rfl rfl rfl ?_
  refine q_if0_s (p2 := 4) rfl (by decide) (by omega) rfl (fun hb => absurd hb (show ¬ (0 < 0) by omega)) (fun _ => ?_)
  refine q_load (v := (6, 0, 0)) (p2 := 5) rfl rfl rfl rfl ?_
  refine q_getv (v := (0, tpd + 3, 0)) (p2 := 6) rfl hs11 (by decide) rfl rfl ?_
  refine q_load (v := (6, 0, 0)) (p2 := 7) rfl rfl rfl rfl ?_
  refine q_getv (v := (6, 1, 0)) (p2 := 8) rfl hs11 (by decide) rfl rfl ?_
  have hm12 := (zq_tp_at hs9 (fr11 1 (by decide)))
  refine q_alen (p2 := 9) rfl hm12 rfl (by omega) rfl ?_
  refine q_icmp_s (p2 := 10) rfl (by decide) (by omega) (by omega) rfl (fun hb => absurd hb (show ¬ (¬ (tpd + 3 < 3000)) by omega)) (fun _ => ?_)
  refine q_load (v := (6, 0, 0)) (p2 := 11) rfl rfl rfl rfl ?_
  refine q_getv (v := (6, 1, 0)) (p2 := 12) rfl hs11 (by decide) rfl rfl ?_
  refine q_load (v := (6, 0, 0)) (p2 := 13) rfl rfl rfl rfl ?_
  refine q_getv (v := (0, tpd + 3, 0)) (p2 := 14) rfl hs11 (by decide) rfl rfl ?_
  refine q_load (v := (0, wd, 0)) (p2 := 15) rfl rfl rfl rfl ?_
  refine q_load (v := (0, 0, 0)) (p2 := 16) rfl rfl rfl rfl ?_
  refine q_ishr (p2 := 17) rfl (by omega) (by omega) rfl ?_
  refine q_i2n (w := (0, b3, 0)) (p2 := 18) rfl (x_nv_2b hc3 (by omega)) rfl ?_
  refine q_astE (v := (0, b3, 0)) (w := (0, b3, 0)) (p2 := 19) rfl hm12 (by omega) (by omega) (x_ok_0 rfl) (x_nv_2 (by omega)) rfl (fun φ13 f13 hh13 hg13 ho13 fr13 => ?_)
  have hs13 := zq_tp_st_1 hm12 hh13 hg13 ho13 fr13
  refine q_load (v := (6, 0, 0)) (p2 := 20) rfl rfl rfl rfl ?_
  refine q_dup (p2 := 21) rfl rfl rfl ?_
  have hm14 := (zq_H_at hs11 (fr13 0 (by decide)))
  refine q_getv (v := (0, tpd + 3, 0)) (p2 := 22) rfl hm14 (by decide) rfl rfl ?_
  refine q_const (p2 := 23) rfl rfl ?_
  refine q_iaddz (z := tpd + 4) (p2 := 24) rfl (by omega) (by omega) rfl ?_
  refine q_putfE (v := (0, tpd + 4, 0)) (p2 := 25) rfl hm14 (by decide) rfl rfl (fun φ15 f15 hh15 hg15 ho15 fr15 => ?_)
  have hs15 := zq_H_put_0_1 hm14 hh15 hg15 ho15 fr15
  refine q_iinc (z := 4294967288) (loc2 := [(6, 0, 0), (0, wd, 0), (0, 4294967288, 0)]) (p2 := 26) rfl rfl (by decide) rfl rfl ?_
  refine q_goto rfl ?_
  refine q_load (v := (0, 4294967288, 0)) (p2 := 3) rfl rfl rfl rfl ?_
  refine q_if0 (p2 := 4) rfl (by decide) rfl (fun _ => ?_) (fun hb => absurd (show 2147483640 < 2147483648 by decide) hb)
  have hm16 := (zq_tp_at hs13 (fr15 1 (by decide)))
  exact q_ret rfl (⟨rfl, rfl, rfl, hs15, hm16, fun j hj0 hj1 => ((fr15 j (by omega)).trans ((fr13 j (by omega)).trans ((fr11 j (by omega)).trans ((fr9 j (by omega)).trans ((fr7 j (by omega)).trans ((fr5 j (by omega)).trans ((fr3 j (by omega)).trans (fr1 j (by omega)))))))))⟩)
theorem zc_h_feedc {d n sl : Nat} {φ : FH} {tpd : Nat} {hand : Nat} {lf : Nat} {ie : Nat} {tp : Nat → Nat} {c : Nat} (hH : zq_H φ tpd hand lf ie) (hB : zq_tp φ tp) (hc0 : c < 128) (hc1 : tpd < 2800) : x_f x_P (d + 2) 20 [(6, 0, 0), (0, c * 16777216, 0), (0, 0, 0), (0, 0, 0), (0, 0, 0), (0, 0, 0)] φ n sl (x_rR (0, tpd + 20, 0) n sl (fun φ2 => zq_H φ2 (tpd + 20) hand lf ie ∧ zq_tp φ2 (x_s (x_s (x_s (x_s (x_s (x_s (x_s (x_s (x_s (x_s (x_s (x_s (x_s (x_s (x_s (x_s (x_s (x_s (x_s (x_s tp tpd c) (tpd + 1) 0) (tpd + 2) 0) (tpd + 3) 0) (tpd + 4) 0) (tpd + 5) 0) (tpd + 6) 0) (tpd + 7) 0) (tpd + 8) 0) (tpd + 9) 0) (tpd + 10) 0) (tpd + 11) 0) (tpd + 12) 0) (tpd + 13) 0) (tpd + 14) 0) (tpd + 15) 0) (tpd + 16) 0) (tpd + 17) 0) (tpd + 18) 0) (tpd + 19) 0) ∧ ∀ j, j ≠ 0 → j ≠ 1 → φ2 j = φ j)) := by
  refine x_f_of rfl ?_
  refine q_load (v := (6, 0, 0)) (p2 := 1) rfl rfl rfl rfl ?_
  refine q_getv (v := (0, tpd, 0)) (p2 := 2) rfl hH (by decide) rfl rfl ?_
  refine q_const (p2 := 3) rfl rfl ?_
  refine q_iaddz (z := tpd + 20) (p2 := 4) rfl (by omega) (by omega) rfl ?_
  refine q_const (p2 := 5) rfl rfl ?_
  refine q_icmp_s (p2 := 6) rfl (by decide) (by omega) (by omega) rfl (fun _ => ?_) (fun hb => absurd (show ¬ (3000 < tpd + 20) by omega) hb)
  refine q_load (v := (6, 0, 0)) (p2 := 9) rfl rfl rfl rfl ?_
  refine q_load (v := (0, c * 16777216, 0)) (p2 := 10) rfl rfl rfl rfl ?_
  refine q_callvE (xs := [(0, c * 16777216, 0), (6, 0, 0)]) (p2 := 11) rfl rfl rfl rfl (x_rcv_s 0 hH) rfl (zc_h_append (b0 := c) (b1 := 0) (b2 := 0) (b3 := 0) hH hB (by rw [Nat.shiftRight_eq_div_pow]; omega) (by rw [Nat.shiftRight_eq_div_pow]; omega) (by rw [Nat.shiftRight_eq_div_pow]; omega) (by rw [Nat.shiftRight_eq_div_pow]; omega) (by omega) (by omega)) (Nat.le_refl _) (Nat.le_refl _) rfl (fun φ1 hR1 => ?_)
  obtain ⟨hs1_0, hs1_1, fr1⟩ := hR1
  refine q_load (v := (6, 0, 0)) (p2 := 12) rfl rfl rfl rfl ?_
  refine q_load (v := (0, 0, 0)) (p2 := 13) rfl rfl rfl rfl ?_
  refine q_callvE (xs := [(0, 0, 0), (6, 0, 0)]) (p2 := 14) rfl rfl rfl rfl (x_rcv_s 0 hs1_0) rfl (zc_h_append (b0 := 0) (b1 := 0) (b2 := 0) (b3 := 0) hs1_0 hs1_1 (by decide) (by decide) (by decide) (by decide) (by omega) (by omega)) (Nat.le_refl _) (Nat.le_refl _) rfl (fun φ2 hR2 => ?_)
  obtain ⟨hs2_0, hs2_1, fr2⟩ := hR2
  refine q_load (v := (6, 0, 0)) (p2 := 15) rfl rfl rfl rfl ?_
  refine q_load (v := (0, 0, 0)) (p2 := 16) rfl rfl rfl rfl ?_
  refine q_callvE (xs := [(0, 0, 0), (6, 0, 0)]) (p2 := 17) rfl rfl rfl rfl (x_rcv_s 0 hs2_0) rfl (zc_h_append (b0 := 0) (b1 := 0) (b2 := 0) (b3 := 0) hs2_0 hs2_1 (by decide) (by decide) (by decide) (by decide) (by omega) (by omega)) (Nat.le_refl _) (Nat.le_refl _) rfl (fun φ3 hR3 => ?_)
  obtain ⟨hs3_0, hs3_1, fr3⟩ := hR3
  refine q_load (v := (6, 0, 0)) (p2 := 18) rfl rfl rfl rfl ?_
  refine q_load (v := (0, 0, 0)) (p2 := 19) rfl rfl rfl rfl ?_
  refine q_callvE (xs := [(0, 0, 0), (6, 0, 0)]) (p2 := 20) rfl rfl rfl rfl (x_rcv_s 0 hs3_0) rfl (zc_h_append (b0 := 0) (b1 := 0) (b2 := 0) (b3 := 0) hs3_0 hs3_1 (by decide) (by decide) (by decide) (by decide) (by omega) (by omega)) (Nat.le_refl _) (Nat.le_refl _) rfl (fun φ4 hR4 => ?_)
  obtain ⟨hs4_0, hs4_1, fr4⟩ := hR4
  refine q_load (v := (6, 0, 0)) (p2 := 21) rfl rfl rfl rfl ?_
  refine q_load (v := (0, 0, 0)) (p2 := 22) rfl rfl rfl rfl ?_
  refine q_callvE (xs := [(0, 0, 0), (6, 0, 0)]) (p2 := 23) rfl rfl rfl rfl (x_rcv_s 0 hs4_0) rfl (zc_h_append (b0 := 0) (b1 := 0) (b2 := 0) (b3 := 0) hs4_0 hs4_1 (by decide) (by decide) (by decide) (by decide) (by omega) (by omega)) (Nat.le_refl _) (Nat.le_refl _) rfl (fun φ5 hR5 => ?_)
  obtain ⟨hs5_0, hs5_1, fr5⟩ := hR5
  refine q_load (v := (6, 0, 0)) (p2 := 24) rfl rfl rfl rfl ?_
  refine q_getv (v := (0, tpd + 20, 0)) (p2 := 25) rfl hs5_0 (by decide) rfl rfl ?_
  exact q_retv (v := (0, tpd + 20, 0)) rfl rfl (⟨rfl, rfl, rfl, rfl, hs5_0, hs5_1, fun j hj0 hj1 => ((fr5 j (by omega) (by omega)).trans ((fr4 j (by omega) (by omega)).trans ((fr3 j (by omega) (by omega)).trans ((fr2 j (by omega) (by omega)).trans (fr1 j (by omega) (by omega))))))⟩)
theorem zc_h_feed_call {d n sl : Nat} {φ : FH} {hand : Nat} {lf : Nat} {ie : Nat} {tp : Nat → Nat} (hH : zq_H φ 0 hand lf ie) (hB : zq_tp φ tp)  : x_f x_P (d + 2) 20 [(6, 0, 0), (0, 1713906464, 0), (0, 538976288, 0), (0, 538976288, 0), (0, 538976288, 0), (0, 538976288, 0)] φ n sl (x_rR (0, 20, 0) n sl (fun φ2 => zq_H φ2 20 hand lf ie ∧ zq_tp φ2 (x_s (x_s (x_s (x_s (x_s (x_s (x_s (x_s (x_s (x_s (x_s (x_s (x_s (x_s (x_s (x_s (x_s (x_s (x_s (x_s tp 0 102) 1 40) 2 35) 3 32) 4 32) 5 32) 6 32) 7 32) 8 32) 9 32) 10 32) 11 32) 12 32) 13 32) 14 32) 15 32) 16 32) 17 32) 18 32) 19 32) ∧ ∀ j, j ≠ 0 → j ≠ 1 → φ2 j = φ j)) := by
  refine x_f_of rfl ?_
  refine q_load (v := (6, 0, 0)) (p2 := 1) rfl rfl rfl rfl ?_
  refine q_getv (v := (0, 0, 0)) (p2 := 2) rfl hH (by decide) rfl rfl ?_
  refine q_const (p2 := 3) rfl rfl ?_
  refine q_iop (w := 0 + 20) (z := 20) (p2 := 4) rfl (xo_add 0 20) (by decide) rfl ?_
  refine q_const (p2 := 5) rfl rfl ?_
  refine q_icmp_s (p2 := 6) rfl (by decide) (by omega) (by omega) rfl (fun _ => ?_) (fun hb => absurd (show ¬ (3000 < 20) by omega) hb)
  refine q_load (v := (6, 0, 0)) (p2 := 9) rfl rfl rfl rfl ?_
  refine q_load (v := (0, 1713906464, 0)) (p2 := 10) rfl rfl rfl rfl ?_
  refine q_callvE (xs := [(0, 1713906464, 0), (6, 0, 0)]) (p2 := 11) rfl rfl rfl rfl (x_rcv_s 0 hH) rfl (zc_h_append (b0 := 102) (b1 := 40) (b2 := 35) (b3 := 32) hH hB (by decide) (by decide) (by decide) (by decide) (by omega) (by omega)) (Nat.le_refl _) (Nat.le_refl _) rfl (fun φ1 hR1 => ?_)
  obtain ⟨hs1_0, hs1_1, fr1⟩ := hR1
  refine q_load (v := (6, 0, 0)) (p2 := 12) rfl rfl rfl rfl ?_
  refine q_load (v := (0, 538976288, 0)) (p2 := 13) rfl rfl rfl rfl ?_
  refine q_callvE (xs := [(0, 538976288, 0), (6, 0, 0)]) (p2 := 14) rfl rfl rfl rfl (x_rcv_s 0 hs1_0) rfl (zc_h_append (b0 := 32) (b1 := 32) (b2 := 32) (b3 := 32) hs1_0 hs1_1 (by decide) (by decide) (by decide) (by decide) (by omega) (by omega)) (Nat.le_refl _) (Nat.le_refl _) rfl (fun φ2 hR2 => ?_)
  obtain ⟨hs2_0, hs2_1, fr2⟩ := hR2
  refine q_load (v := (6, 0, 0)) (p2 := 15) rfl rfl rfl rfl ?_
  refine q_load (v := (0, 538976288, 0)) (p2 := 16) rfl rfl rfl rfl ?_
  refine q_callvE (xs := [(0, 538976288, 0), (6, 0, 0)]) (p2 := 17) rfl rfl rfl rfl (x_rcv_s 0 hs2_0) rfl (zc_h_append (b0 := 32) (b1 := 32) (b2 := 32) (b3 := 32) hs2_0 hs2_1 (by decide) (by decide) (by decide) (by decide) (by omega) (by omega)) (Nat.le_refl _) (Nat.le_refl _) rfl (fun φ3 hR3 => ?_)
  obtain ⟨hs3_0, hs3_1, fr3⟩ := hR3
  refine q_load (v := (6, 0, 0)) (p2 := 18) rfl rfl rfl rfl ?_
  refine q_load (v := (0, 538976288, 0)) (p2 := 19) rfl rfl rfl rfl ?_
  refine q_callvE (xs := [(0, 538976288, 0), (6, 0, 0)]) (p2 := 20) rfl rfl rfl rfl (x_rcv_s 0 hs3_0) rfl (zc_h_append (b0 := 32) (b1 := 32) (b2 := 32) (b3 := 32) hs3_0 hs3_1 (by decide) (by decide) (by decide) (by decide) (by omega) (by omega)) (Nat.le_refl _) (Nat.le_refl _) rfl (fun φ4 hR4 => ?_)
  obtain ⟨hs4_0, hs4_1, fr4⟩ := hR4
  refine q_load (v := (6, 0, 0)) (p2 := 21) rfl rfl rfl rfl ?_
  refine q_load (v := (0, 538976288, 0)) (p2 := 22) rfl rfl rfl rfl ?_
  refine q_callvE (xs := [(0, 538976288, 0), (6, 0, 0)]) (p2 := 23) rfl rfl rfl rfl (x_rcv_s 0 hs4_0) rfl (zc_h_append (b0 := 32) (b1 := 32) (b2 := 32) (b3 := 32) hs4_0 hs4_1 (by decide) (by decide) (by decide) (by decide) (by omega) (by omega)) (Nat.le_refl _) (Nat.le_refl _) rfl (fun φ5 hR5 => ?_)
  obtain ⟨hs5_0, hs5_1, fr5⟩ := hR5
  refine q_load (v := (6, 0, 0)) (p2 := 24) rfl rfl rfl rfl ?_
  refine q_getv (v := (0, 20, 0)) (p2 := 25) rfl hs5_0 (by decide) rfl rfl ?_
  exact q_retv (v := (0, 20, 0)) rfl rfl (⟨rfl, rfl, rfl, rfl, hs5_0, hs5_1, fun j hj0 hj1 => ((fr5 j (by omega) (by omega)).trans ((fr4 j (by omega) (by omega)).trans ((fr3 j (by omega) (by omega)).trans ((fr2 j (by omega) (by omega)).trans (fr1 j (by omega) (by omega))))))⟩)
theorem zc_h_feed_used {d n sl : Nat} {φ : FH} {hand : Nat} {lf : Nat} {ie : Nat} {tp : Nat → Nat} (hH : zq_H φ 0 hand lf ie) (hB : zq_tp φ tp)  : x_f x_P (d + 2) 20 [(6, 0, 0), (0, 1970496868, 0), (0, 1768826915, 0), (0, 538976288, 0), (0, 538976288, 0), (0, 538976288, 0)] φ n sl (x_rR (0, 20, 0) n sl (fun φ2 => zq_H φ2 20 hand lf ie ∧ zq_tp φ2 (x_s (x_s (x_s (x_s (x_s (x_s (x_s (x_s (x_s (x_s (x_s (x_s (x_s (x_s (x_s (x_s (x_s (x_s (x_s (x_s tp 0 117) 1 115) 2 101) 3 100) 4 105) 5 110) 6 40) 7 35) 8 32) 9 32) 10 32) 11 32) 12 32) 13 32) 14 32) 15 32) 16 32) 17 32) 18 32) 19 32) ∧ ∀ j, j ≠ 0 → j ≠ 1 → φ2 j = φ j)) := by
  refine x_f_of rfl ?_
  refine q_load (v := (6, 0, 0)) (p2 := 1) rfl rfl rfl rfl ?_
  refine q_getv (v := (0, 0, 0)) (p2 := 2) rfl hH (by decide) rfl rfl ?_
  refine q_const (p2 := 3) rfl rfl ?_
  refine q_iop (w := 0 + 20) (z := 20) (p2 := 4) rfl (xo_add 0 20) (by decide) rfl ?_
  refine q_const (p2 := 5) rfl rfl ?_
  refine q_icmp_s (p2 := 6) rfl (by decide) (by omega) (by omega) rfl (fun _ => ?_) (fun hb => absurd (show ¬ (3000 < 20) by omega) hb)
  refine q_load (v := (6, 0, 0)) (p2 := 9) rfl rfl rfl rfl ?_
  refine q_load (v := (0, 1970496868, 0)) (p2 := 10) rfl rfl rfl rfl ?_
  refine q_callvE (xs := [(0, 1970496868, 0), (6, 0, 0)]) (p2 := 11) rfl rfl rfl rfl (x_rcv_s 0 hH) rfl (zc_h_append (b0 := 117) (b1 := 115) (b2 := 101) (b3 := 100) hH hB (by decide) (by decide) (by decide) (by decide) (by omega) (by omega)) (Nat.le_refl _) (Nat.le_refl _) rfl (fun φ1 hR1 => ?_)
  obtain ⟨hs1_0, hs1_1, fr1⟩ := hR1
  refine q_load (v := (6, 0, 0)) (p2 := 12) rfl rfl rfl rfl ?_
  refine q_load (v := (0, 1768826915, 0)) (p2 := 13) rfl rfl rfl rfl ?_
  refine q_callvE (xs := [(0, 1768826915, 0), (6, 0, 0)]) (p2 := 14) rfl rfl rfl rfl (x_rcv_s 0 hs1_0) rfl (zc_h_append (b0 := 105) (b1 := 110) (b2 := 40) (b3 := 35) hs1_0 hs1_1 (by decide) (by decide) (by decide) (by decide) (by omega) (by omega)) (Nat.le_refl _) (Nat.le_refl _) rfl (fun φ2 hR2 => ?_)
  obtain ⟨hs2_0, hs2_1, fr2⟩ := hR2
  refine q_load (v := (6, 0, 0)) (p2 := 15) rfl rfl rfl rfl ?_
  refine q_load (v := (0, 538976288, 0)) (p2 := 16) rfl rfl rfl rfl ?_
  refine q_callvE (xs := [(0, 538976288, 0), (6, 0, 0)]) (p2 := 17) rfl rfl rfl rfl (x_rcv_s 0 hs2_0) rfl (zc_h_append (b0 := 32) (b1 := 32) (b2 := 32) (b3 := 32) hs2_0 hs2_1 (by decide) (by decide) (by decide) (by decide) (by omega) (by omega)) (Nat.le_refl _) (Nat.le_refl _) rfl (fun φ3 hR3 => ?_)
  obtain ⟨hs3_0, hs3_1, fr3⟩ := hR3
  refine q_load (v := (6, 0, 0)) (p2 := 18) rfl rfl rfl rfl ?_
  refine q_load (v := (0, 538976288, 0)) (p2 := 19) rfl rfl rfl rfl ?_
  refine q_callvE (xs := [(0, 538976288, 0), (6, 0, 0)]) (p2 := 20) rfl rfl rfl rfl (x_rcv_s 0 hs3_0) rfl (zc_h_append (b0 := 32) (b1 := 32) (b2 := 32) (b3 := 32) hs3_0 hs3_1 (by decide) (by decide) (by decide) (by decide) (by omega) (by omega)) (Nat.le_refl _) (Nat.le_refl _) rfl (fun φ4 hR4 => ?_)
  obtain ⟨hs4_0, hs4_1, fr4⟩ := hR4
  refine q_load (v := (6, 0, 0)) (p2 := 21) rfl rfl rfl rfl ?_
  refine q_load (v := (0, 538976288, 0)) (p2 := 22) rfl rfl rfl rfl ?_
  refine q_callvE (xs := [(0, 538976288, 0), (6, 0, 0)]) (p2 := 23) rfl rfl rfl rfl (x_rcv_s 0 hs4_0) rfl (zc_h_append (b0 := 32) (b1 := 32) (b2 := 32) (b3 := 32) hs4_0 hs4_1 (by decide) (by decide) (by decide) (by decide) (by omega) (by omega)) (Nat.le_refl _) (Nat.le_refl _) rfl (fun φ5 hR5 => ?_)
  obtain ⟨hs5_0, hs5_1, fr5⟩ := hR5
  refine q_load (v := (6, 0, 0)) (p2 := 24) rfl rfl rfl rfl ?_
  refine q_getv (v := (0, 20, 0)) (p2 := 25) rfl hs5_0 (by decide) rfl rfl ?_
  exact q_retv (v := (0, 20, 0)) rfl rfl (⟨rfl, rfl, rfl, rfl, hs5_0, hs5_1, fun j hj0 hj1 => ((fr5 j (by omega) (by omega)).trans ((fr4 j (by omega) (by omega)).trans ((fr3 j (by omega) (by omega)).trans ((fr2 j (by omega) (by omega)).trans (fr1 j (by omega) (by omega))))))⟩)
theorem zc_h_feed_err {d n sl : Nat} {φ : FH} {hand : Nat} {lf : Nat} {ie : Nat} {tp : Nat → Nat} (hH : zq_H φ 0 hand lf ie) (hB : zq_tp φ tp)  : x_f x_P (d + 2) 20 [(6, 0, 0), (0, 590359328, 0), (0, 538976288, 0), (0, 538976288, 0), (0, 538976288, 0), (0, 538976288, 0)] φ n sl (x_rR (0, 20, 0) n sl (fun φ2 => zq_H φ2 20 hand lf ie ∧ zq_tp φ2 (x_s (x_s (x_s (x_s (x_s (x_s (x_s (x_s (x_s (x_s (x_s (x_s (x_s (x_s (x_s (x_s (x_s (x_s (x_s (x_s tp 0 35) 1 48) 2 43) 3 32) 4 32) 5 32) 6 32) 7 32) 8 32) 9 32) 10 32) 11 32) 12 32) 13 32) 14 32) 15 32) 16 32) 17 32) 18 32) 19 32) ∧ ∀ j, j ≠ 0 → j ≠ 1 → φ2 j = φ j)) := by
  refine x_f_of rfl ?_
  refine q_load (v := (6, 0, 0)) (p2 := 1) rfl rfl rfl rfl ?_
  refine q_getv (v := (0, 0, 0)) (p2 := 2) rfl hH (by decide) rfl rfl ?_
  refine q_const (p2 := 3) rfl rfl ?_
  refine q_iop (w := 0 + 20) (z := 20) (p2 := 4) rfl (xo_add 0 20) (by decide) rfl ?_
  refine q_const (p2 := 5) rfl rfl ?_
  refine q_icmp_s (p2 := 6) rfl (by decide) (by omega) (by omega) rfl (fun _ => ?_) (fun hb => absurd (show ¬ (3000 < 20) by omega) hb)
  refine q_load (v := (6, 0, 0)) (p2 := 9) rfl rfl rfl rfl ?_
  refine q_load (v := (0, 590359328, 0)) (p2 := 10) rfl rfl rfl rfl ?_
  refine q_callvE (xs := [(0, 590359328, 0), (6, 0, 0)]) (p2 := 11) rfl rfl rfl rfl (x_rcv_s 0 hH) rfl (zc_h_append (b0 := 35) (b1 := 48) (b2 := 43) (b3 := 32) hH hB (by decide) (by decide) (by decide) (by decide) (by omega) (by omega)) (Nat.le_refl _) (Nat.le_refl _) rfl (fun φ1 hR1 => ?_)
  obtain ⟨hs1_0, hs1_1, fr1⟩ := hR1
  refine q_load (v := (6, 0, 0)) (p2 := 12) rfl rfl rfl rfl ?_
  refine q_load (v := (0, 538976288, 0)) (p2 := 13) rfl rfl rfl rfl ?_
  refine q_callvE (xs := [(0, 538976288, 0), (6, 0, 0)]) (p2 := 14) rfl rfl rfl rfl (x_rcv_s 0 hs1_0) rfl (zc_h_append (b0 := 32) (b1 := 32) (b2 := 32) (b3 := 32) hs1_0 hs1_1 (by decide) (by decide) (by decide) (by decide) (by omega) (by omega)) (Nat.le_refl _) (Nat.le_refl _) rfl (fun φ2 hR2 => ?_)
  obtain ⟨hs2_0, hs2_1, fr2⟩ := hR2
  refine q_load (v := (6, 0, 0)) (p2 := 15) rfl rfl rfl rfl ?_
  refine q_load (v := (0, 538976288, 0)) (p2 := 16) rfl rfl rfl rfl ?_
  refine q_callvE (xs := [(0, 538976288, 0), (6, 0, 0)]) (p2 := 17) rfl rfl rfl rfl (x_rcv_s 0 hs2_0) rfl (zc_h_append (b0 := 32) (b1 := 32) (b2 := 32) (b3 := 32) hs2_0 hs2_1 (by decide) (by decide) (by decide) (by decide) (by omega) (by omega)) (Nat.le_refl _) (Nat.le_refl _) rfl (fun φ3 hR3 => ?_)
  obtain ⟨hs3_0, hs3_1, fr3⟩ := hR3
  refine q_load (v := (6, 0, 0)) (p2 := 18) rfl rfl rfl rfl ?_
  refine q_load (v := (0, 538976288, 0)) (p2 := 19) rfl rfl rfl rfl ?_
  refine q_callvE (xs := [(0, 538976288, 0), (6, 0, 0)]) (p2 := 20) rfl rfl rfl rfl (x_rcv_s 0 hs3_0) rfl (zc_h_append (b0 := 32) (b1 := 32) (b2 := 32) (b3 := 32) hs3_0 hs3_1 (by decide) (by decide) (by decide) (by decide) (by omega) (by omega)) (Nat.le_refl _) (Nat.le_refl _) rfl (fun φ4 hR4 => ?_)
  obtain ⟨hs4_0, hs4_1, fr4⟩ := hR4
  refine q_load (v := (6, 0, 0)) (p2 := 21) rfl rfl rfl rfl ?_
  refine q_load (v := (0, 538976288, 0)) (p2 := 22) rfl rfl rfl rfl ?_
  refine q_callvE (xs := [(0, 538976288, 0), (6, 0, 0)]) (p2 := 23) rfl rfl rfl rfl (x_rcv_s 0 hs4_0) rfl (zc_h_append (b0 := 32) (b1 := 32) (b2 := 32) (b3 := 32) hs4_0 hs4_1 (by decide) (by decide) (by decide) (by decide) (by omega) (by omega)) (Nat.le_refl _) (Nat.le_refl _) rfl (fun φ5 hR5 => ?_)
  obtain ⟨hs5_0, hs5_1, fr5⟩ := hR5
  refine q_load (v := (6, 0, 0)) (p2 := 24) rfl rfl rfl rfl ?_
  refine q_getv (v := (0, 20, 0)) (p2 := 25) rfl hs5_0 (by decide) rfl rfl ?_
  exact q_retv (v := (0, 20, 0)) rfl rfl (⟨rfl, rfl, rfl, rfl, hs5_0, hs5_1, fun j hj0 hj1 => ((fr5 j (by omega) (by omega)).trans ((fr4 j (by omega) (by omega)).trans ((fr3 j (by omega) (by omega)).trans ((fr2 j (by omega) (by omega)).trans (fr1 j (by omega) (by omega))))))⟩)
theorem zc_h_feed_file {d n sl : Nat} {φ : FH} {hand : Nat} {lf : Nat} {ie : Nat} {tp : Nat → Nat} (hH : zq_H φ 0 hand lf ie) (hB : zq_tp φ tp)  : x_f x_P (d + 2) 20 [(6, 0, 0), (0, 590429537, 0), (0, 673790752, 0), (0, 538976288, 0), (0, 538976288, 0), (0, 538976288, 0)] φ n sl (x_rR (0, 20, 0) n sl (fun φ2 => zq_H φ2 20 hand lf ie ∧ zq_tp φ2 (x_s (x_s (x_s (x_s (x_s (x_s (x_s (x_s (x_s (x_s (x_s (x_s (x_s (x_s (x_s (x_s (x_s (x_s (x_s (x_s tp 0 35) 1 49) 2 61) 3 97) 4 40) 5 41) 6 59) 7 32) 8 32) 9 32) 10 32) 11 32) 12 32) 13 32) 14 32) 15 32) 16 32) 17 32) 18 32) 19 32) ∧ ∀ j, j ≠ 0 → j ≠ 1 → φ2 j = φ j)) := by
  refine x_f_of rfl ?_
  refine q_load (v := (6, 0, 0)) (p2 := 1) rfl rfl rfl rfl ?_
  refine q_getv (v := (0, 0, 0)) (p2 := 2) rfl hH (by decide) rfl rfl ?_
  refine q_const (p2 := 3) rfl rfl ?_
  refine q_iop (w := 0 + 20) (z := 20) (p2 := 4) rfl (xo_add 0 20) (by decide) rfl ?_
  refine q_const (p2 := 5) rfl rfl ?_
  refine q_icmp_s (p2 := 6) rfl (by decide) (by omega) (by omega) rfl (fun _ => ?_) (fun hb => absurd (show ¬ (3000 < 20) by omega) hb)
  refine q_load (v := (6, 0, 0)) (p2 := 9) rfl rfl rfl rfl ?_
  refine q_load (v := (0, 590429537, 0)) (p2 := 10) rfl rfl rfl rfl ?_
  refine q_callvE (xs := [(0, 590429537, 0), (6, 0, 0)]) (p2 := 11) rfl rfl rfl rfl (x_rcv_s 0 hH) rfl (zc_h_append (b0 := 35) (b1 := 49) (b2 := 61) (b3 := 97) hH hB (by decide) (by decide) (by decide) (by decide) (by omega) (by omega)) (Nat.le_refl _) (Nat.le_refl _) rfl (fun φ1 hR1 => ?_)
  obtain ⟨hs1_0, hs1_1, fr1⟩ := hR1
  refine q_load (v := (6, 0, 0)) (p2 := 12) rfl rfl rfl rfl ?_
  refine q_load (v := (0, 673790752, 0)) (p2 := 13) rfl rfl rfl rfl ?_
  refine q_callvE (xs := [(0, 673790752, 0), (6, 0, 0)]) (p2 := 14) rfl rfl rfl rfl (x_rcv_s 0 hs1_0) rfl (zc_h_append (b0 := 40) (b1 := 41) (b2 := 59) (b3 := 32) hs1_0 hs1_1 (by decide) (by decide) (by decide) (by decide) (by omega) (by omega)) (Nat.le_refl _) (Nat.le_refl _) rfl (fun φ2 hR2 => ?_)
  obtain ⟨hs2_0, hs2_1, fr2⟩ := hR2
  refine q_load (v := (6, 0, 0)) (p2 := 15) rfl rfl rfl rfl ?_
  refine q_load (v := (0, 538976288, 0)) (p2 := 16) rfl rfl rfl rfl ?_
  refine q_callvE (xs := [(0, 538976288, 0), (6, 0, 0)]) (p2 := 17) rfl rfl rfl rfl (x_rcv_s 0 hs2_0) rfl (zc_h_append (b0 := 32) (b1 := 32) (b2 := 32) (b3 := 32) hs2_0 hs2_1 (by decide) (by decide) (by decide) (by decide) (by omega) (by omega)) (Nat.le_refl _) (Nat.le_refl _) rfl (fun φ3 hR3 => ?_)
  obtain ⟨hs3_0, hs3_1, fr3⟩ := hR3
  refine q_load (v := (6, 0, 0)) (p2 := 18) rfl rfl rfl rfl ?_
  refine q_load (v := (0, 538976288, 0)) (p2 := 19) rfl rfl rfl rfl ?_
  refine q_callvE (xs := [(0, 538976288, 0), (6, 0, 0)]) (p2 := 20) rfl rfl rfl rfl (x_rcv_s 0 hs3_0) rfl (zc_h_append (b0 := 32) (b1 := 32) (b2 := 32) (b3 := 32) hs3_0 hs3_1 (by decide) (by decide) (by decide) (by decide) (by omega) (by omega)) (Nat.le_refl _) (Nat.le_refl _) rfl (fun φ4 hR4 => ?_)
  obtain ⟨hs4_0, hs4_1, fr4⟩ := hR4
  refine q_load (v := (6, 0, 0)) (p2 := 21) rfl rfl rfl rfl ?_
  refine q_load (v := (0, 538976288, 0)) (p2 := 22) rfl rfl rfl rfl ?_
  refine q_callvE (xs := [(0, 538976288, 0), (6, 0, 0)]) (p2 := 23) rfl rfl rfl rfl (x_rcv_s 0 hs4_0) rfl (zc_h_append (b0 := 32) (b1 := 32) (b2 := 32) (b3 := 32) hs4_0 hs4_1 (by decide) (by decide) (by decide) (by decide) (by omega) (by omega)) (Nat.le_refl _) (Nat.le_refl _) rfl (fun φ5 hR5 => ?_)
  obtain ⟨hs5_0, hs5_1, fr5⟩ := hR5
  refine q_load (v := (6, 0, 0)) (p2 := 24) rfl rfl rfl rfl ?_
  refine q_getv (v := (0, 20, 0)) (p2 := 25) rfl hs5_0 (by decide) rfl rfl ?_
  exact q_retv (v := (0, 20, 0)) rfl rfl (⟨rfl, rfl, rfl, rfl, hs5_0, hs5_1, fun j hj0 hj1 => ((fr5 j (by omega) (by omega)).trans ((fr4 j (by omega) (by omega)).trans ((fr3 j (by omega) (by omega)).trans ((fr2 j (by omega) (by omega)).trans (fr1 j (by omega) (by omega))))))⟩)
theorem zc_h_cut {d n sl : Nat} {φ : FH} {tpd : Nat} {hand : Nat} {lf : Nat} {ie : Nat} {nn : Nat} (hH : zq_H φ tpd hand lf ie) (hc0 : nn ≤ tpd ∧ tpd < 2147483648) : x_f x_P (d + 1) 21 [(6, 0, 0), (0, nn, 0)] φ n sl (x_rR (0, tpd - nn, 0) n sl (fun φ2 => zq_H φ2 (tpd - nn) hand lf ie ∧ ∀ j, j ≠ 0 → φ2 j = φ j)) := by
  refine x_f_of rfl ?_
  refine q_load (v := (0, nn, 0)) (p2 := 1) rfl rfl rfl rfl ?_
  refine q_if0_s (p2 := 2) rfl (by decide) (by omega) rfl (fun hb => absurd hb (show ¬ (nn < 0) by omega)) (fun _ => ?_)
  refine q_load (v := (0, nn, 0)) (p2 := 3) rfl rfl rfl rfl ?_
  refine q_load (v := (6, 0, 0)) (p2 := 4) rfl rfl rfl rfl ?_
  refine q_getv (v := (0, tpd, 0)) (p2 := 5) rfl hH (by decide) rfl rfl ?_
  refine q_icmp_s (p2 := 6) rfl (by decide) (by omega) (by omega) rfl (fun _ => ?_) (fun hb => absurd (show ¬ (tpd < nn) by omega) hb)
  refine q_load (v := (6, 0, 0)) (p2 := 9) rfl rfl rfl rfl ?_
  refine q_dup (p2 := 10) rfl rfl rfl ?_
  refine q_getv (v := (0, tpd, 0)) (p2 := 11) rfl hH (by decide) rfl rfl ?_
  refine q_load (v := (0, nn, 0)) (p2 := 12) rfl rfl rfl rfl ?_
  refine q_isubz (z := tpd - nn) (p2 := 13) rfl (by omega) (by omega) rfl ?_
  refine q_putfE (v := (0, tpd - nn, 0)) (p2 := 14) rfl hH (by decide) rfl rfl (fun φ1 f1 hh1 hg1 ho1 fr1 => ?_)
  have hs1 := zq_H_put_0_1 hH hh1 hg1 ho1 fr1
  refine q_load (v := (6, 0, 0)) (p2 := 15) rfl rfl rfl rfl ?_
  refine q_getv (v := (0, tpd - nn, 0)) (p2 := 16) rfl hs1 (by decide) rfl rfl ?_
  exact q_retv (v := (0, tpd - nn, 0)) rfl rfl (⟨rfl, rfl, rfl, rfl, hs1, fun j hj0 => (fr1 j (by omega))⟩)
theorem zc_h_cut_far {d n sl : Nat} {φ : FH} {hand : Nat} {lf : Nat} {ie : Nat} {nn : Nat} (hH : zq_H φ 0 hand lf ie) (hc0 : 0 < nn ∧ nn < 2147483648) : x_f x_P (d + 1) 21 [(6, 0, 0), (0, nn, 0)] φ n sl (x_r φ n sl (0, 4294967295, 0)) := by
  refine x_f_of rfl ?_
  refine q_load (v := (0, nn, 0)) (p2 := 1) rfl rfl rfl rfl ?_
  refine q_if0_s (p2 := 2) rfl (by decide) (by omega) rfl (fun hb => absurd hb (show ¬ (nn < 0) by omega)) (fun _ => ?_)
  refine q_load (v := (0, nn, 0)) (p2 := 3) rfl rfl rfl rfl ?_
  refine q_load (v := (6, 0, 0)) (p2 := 4) rfl rfl rfl rfl ?_
  refine q_getv (v := (0, 0, 0)) (p2 := 5) rfl hH (by decide) rfl rfl ?_
  refine q_icmp_s (p2 := 6) rfl (by decide) (by omega) (by omega) rfl (fun hb => absurd hb (show ¬ (¬ (0 < nn)) by omega)) (fun _ => ?_)
  refine q_const (p2 := 7) rfl rfl ?_
  exact q_retv (v := (0, 4294967295, 0)) rfl rfl (⟨rfl, rfl, rfl, rfl, rfl⟩)
theorem zc_put_raw {d n sl : Nat} {φ : FH} {tpd : Nat} {hand : Nat} {lf : Nat} {ie : Nat} {tp : Nat → Nat} {c : Nat} (hH : zq_H φ tpd hand lf ie) (hB : zq_tp φ tp) (hc0 : c < 128) (hc1 : tpd < 2500) : x_f x_P (d + 3) 6 [(6, 0, 0), (0, c, 0)] φ n sl (x_rR (0, 1, 0) n sl (fun φ2 => zq_H φ2 (tpd + 1) hand lf ie ∧ zq_tp φ2 (x_s (x_s (x_s (x_s (x_s (x_s (x_s (x_s (x_s (x_s (x_s (x_s (x_s (x_s (x_s (x_s (x_s (x_s (x_s (x_s tp tpd c) (tpd + 1) 0) (tpd + 2) 0) (tpd + 3) 0) (tpd + 4) 0) (tpd + 5) 0) (tpd + 6) 0) (tpd + 7) 0) (tpd + 8) 0) (tpd + 9) 0) (tpd + 10) 0) (tpd + 11) 0) (tpd + 12) 0) (tpd + 13) 0) (tpd + 14) 0) (tpd + 15) 0) (tpd + 16) 0) (tpd + 17) 0) (tpd + 18) 0) (tpd + 19) 0) ∧ ∀ j, j ≠ 0 → j ≠ 1 → φ2 j = φ j)) := by
  refine x_f_of rfl ?_
  refine q_load (v := (6, 0, 0)) (p2 := 1) rfl rfl rfl rfl ?_
  refine q_load (v := (0, c, 0)) (p2 := 2) rfl rfl rfl rfl ?_
  refine q_const (p2 := 3) rfl rfl ?_
  refine q_ishlz (z := c * 16777216) (p2 := 4) rfl (Nat.shiftLeft_eq _ _) (by omega) rfl ?_
  refine q_const (p2 := 5) rfl rfl ?_
  refine q_const (p2 := 6) rfl rfl ?_
  refine q_const (p2 := 7) rfl rfl ?_
  refine q_const (p2 := 8) rfl rfl ?_
  refine q_callrE (xs := [(0, 0, 0), (0, 0, 0), (0, 0, 0), (0, 0, 0), (0, c * 16777216, 0), (6, 0, 0)]) (p2 := 9) rfl rfl rfl rfl (x_rcv_s 0 hH) rfl (zc_h_feedc hH hB (by omega) (by omega)) (Nat.le_refl _) (Nat.le_refl _) rfl (fun φ1 hR1 => ?_)
  obtain ⟨hs1_0, hs1_1, fr1⟩ := hR1
  refine q_if0_s (p2 := 10) rfl (by decide) (by omega) rfl (fun hb => absurd hb (show ¬ (¬ (0 < tpd + 20)) by omega)) (fun _ => ?_)
  refine q_load (v := (6, 0, 0)) (p2 := 11) rfl rfl rfl rfl ?_
  refine q_const (p2 := 12) rfl rfl ?_
  refine q_callrE (xs := [(0, 19, 0), (6, 0, 0)]) (p2 := 13) rfl rfl rfl rfl (x_rcv_s 0 hs1_0) rfl (zc_h_cut hs1_0 (by omega)) (Nat.le_refl _) (Nat.le_refl _) rfl (fun φ2 hR2 => ?_)
  obtain ⟨hs2_0, fr2⟩ := hR2
  refine q_if0_s (p2 := 14) rfl (by decide) (by omega) rfl (fun hb => absurd hb (show ¬ (¬ (0 < tpd + 1)) by omega)) (fun _ => ?_)
  refine q_const (p2 := 15) rfl rfl ?_
  refine q_goto rfl ?_
  have hm3 := (zq_tp_at hs1_1 (fr2 1 (by decide)))
  exact q_retv (v := (0, 1, 0)) rfl rfl (⟨rfl, rfl, rfl, rfl, hs2_0, hm3, fun j hj0 hj1 => ((fr2 j (by omega)).trans (fr1 j (by omega) (by omega)))⟩)
theorem zc_put {d n sl : Nat} {φ : FH} {tpd hand lf ie : Nat} {tp : Nat → Nat} {c : Nat} (hH : zq_H φ tpd hand lf ie) (hB : zq_tp φ tp) (hc0 : c < 128) (hc1 : tpd < 2500) : x_f x_P (d + 3) 6 [(6, 0, 0), (0, c, 0)] φ n sl (x_rR (0, 1, 0) n sl (fun φ2 => ∃ tp2, zq_H φ2 (tpd + 1) hand lf ie ∧ zq_tp φ2 tp2 ∧ tp2 tpd = c ∧ (∀ i, i < tpd → tp2 i = tp i) ∧ ∀ j, j ≠ 0 → j ≠ 1 → φ2 j = φ j)) := by
  refine x_f_mono (zc_put_raw hH hB hc0 hc1) (fun u w φ2 n2 sl2 q => ?_)
  obtain ⟨q1, q2, q3, q4, q5, q6, q7⟩ := q
  refine ⟨q1, q2, q3, q4, _, q5, q6, ?_, fun i hi => ?_, q7⟩
  · rw [x_s_ne (by omega)]
    rw [x_s_ne (by omega)]
    rw [x_s_ne (by omega)]
    rw [x_s_ne (by omega)]
    rw [x_s_ne (by omega)]
    rw [x_s_ne (by omega)]
    rw [x_s_ne (by omega)]
    rw [x_s_ne (by omega)]
    rw [x_s_ne (by omega)]
    rw [x_s_ne (by omega)]
    rw [x_s_ne (by omega)]
    rw [x_s_ne (by omega)]
    rw [x_s_ne (by omega)]
    rw [x_s_ne (by omega)]
    rw [x_s_ne (by omega)]
    rw [x_s_ne (by omega)]
    rw [x_s_ne (by omega)]
    rw [x_s_ne (by omega)]
    rw [x_s_ne (by omega)]
    exact x_s_eq
  · rw [x_s_ne (by omega)]
    rw [x_s_ne (by omega)]
    rw [x_s_ne (by omega)]
    rw [x_s_ne (by omega)]
    rw [x_s_ne (by omega)]
    rw [x_s_ne (by omega)]
    rw [x_s_ne (by omega)]
    rw [x_s_ne (by omega)]
    rw [x_s_ne (by omega)]
    rw [x_s_ne (by omega)]
    rw [x_s_ne (by omega)]
    rw [x_s_ne (by omega)]
    rw [x_s_ne (by omega)]
    rw [x_s_ne (by omega)]
    rw [x_s_ne (by omega)]
    rw [x_s_ne (by omega)]
    rw [x_s_ne (by omega)]
    rw [x_s_ne (by omega)]
    rw [x_s_ne (by omega)]
    rw [x_s_ne (by omega)]
end FPOP60
