section FPOP2
/-- the fields of a Value -/
def x_vg (f : Nat → XV) (k b s lo la ho : Nat) (c : XV) : Prop := f 0 = (0, k, 0) ∧ f 1 = (2, b, 0) ∧ f 2 = (0, s, 0) ∧ f 3 = (0, lo, 0) ∧ f 4 = (0, la, 0) ∧ f 5 = (0, ho, 0) ∧ f 6 = c
/-- a new Value's fields -/
def x_gV : Nat → XV := fun i => if i = 1 then (2, 0, 0) else if i = 6 then (5, 0, 0) else (0, 0, 0)
theorem x_gV_ok : ∀ i, i < 7 → x_gget (([(1, 0), (1, 2), (4, 0), (1, 5)] : List (Nat × Nat)).map (fun q => (q.1, ((q.2, 0, 0) : XV)))) i = some (x_gV i) := by
  intro i hi
  match i, hi with
  | 0, _ => rfl
  | 1, _ => rfl
  | 2, _ => rfl
  | 3, _ => rfl
  | 4, _ => rfl
  | 5, _ => rfl
  | 6, _ => rfl
theorem x_held_upd {φ1 φ : FH} {ch j v : Nat} {held : Nat → Nat} {f1 : Nat → XV} (h : φ1 ch = some (8, 0, 1600, f1)) (h1 : f1 j = (6, v, 0)) (h2 : ∀ i, i ≠ j → f1 i = (6, held i, 0)) : x_held φ1 ch (fun i => if i = j then v else held i) := by
  unfold x_held
  rw [h]
  congr 4
  funext i
  show f1 i = (6, if i = j then v else held i, 0)
  by_cases hi : i = j
  · rw [if_pos hi, hi, h1]
  · rw [h2 i hi, if_neg hi]
theorem x_comb_upd {φ1 : FH} {cc j v : Nat} {comb : Nat → Nat} {f1 : Nat → XV} (h : φ1 cc = some (1, 0, 512, f1)) (hc : ∀ i, comb i < 2147483648) (hv : v < 2147483648) (h1 : f1 j = (0, v, 0)) (h2 : ∀ i, i ≠ j → f1 i = (0, comb i, 0)) : x_comb φ1 cc (fun i => if i = j then v else comb i) := by
  refine ⟨?_, fun i => ?_⟩
  · rw [h]
    congr 4
    funext i
    show f1 i = (0, if i = j then v else comb i, 0)
    by_cases hi : i = j
    · rw [if_pos hi, hi, h1]
    · rw [h2 i hi, if_neg hi]
  · show (if i = j then v else comb i) < _
    split
    · exact hv
    · exact hc i
theorem e_new2 {d n sl : Nat} {φ : FH} {v k b : Nat} {f : Nat → XV} (hV : φ v = some (0, 10, 7, f)) : x_f x_P (d + 1) 18 [(6, v, 0), (0, k, 0), (2, b, 0), (11, 0, 0)] φ n sl (x_vR n sl (fun φ2 => (∃ f2, φ2 v = some (0, 10, 7, f2) ∧ x_vg f2 k b 0 0 0 0 (12, 0, 0)) ∧ ∀ j, j ≠ v → φ2 j = φ j)) := by
  refine x_f_of rfl ?_
  refine q_load (p2 := 1) rfl rfl rfl rfl ?_
  refine q_objinit (p2 := 2) rfl hV rfl rfl ?_
  refine q_load (p2 := 3) rfl rfl rfl rfl ?_
  refine q_load (p2 := 4) rfl rfl rfl rfl ?_
  refine q_putfE (p2 := 5) rfl hV (by decide) rfl rfl (fun φ1 f1 hh1 hg1 ho1 fr1 => ?_)
  refine q_load (p2 := 6) rfl rfl rfl rfl ?_
  refine q_load (p2 := 7) rfl rfl rfl rfl ?_
  refine q_putfE (p2 := 8) rfl hh1 (by decide) rfl rfl (fun φ2 f2 hh2 hg2 ho2 fr2 => ?_)
  refine q_load (p2 := 9) rfl rfl rfl rfl ?_
  refine q_const (p2 := 10) rfl rfl ?_
  refine q_putfE (p2 := 11) rfl hh2 (by decide) rfl rfl (fun φ3 f3 hh3 hg3 ho3 fr3 => ?_)
  refine q_load (p2 := 12) rfl rfl rfl rfl ?_
  refine q_const (p2 := 13) rfl rfl ?_
  refine q_putfE (p2 := 14) rfl hh3 (by decide) rfl rfl (fun φ4 f4 hh4 hg4 ho4 fr4 => ?_)
  refine q_load (p2 := 15) rfl rfl rfl rfl ?_
  refine q_const (p2 := 16) rfl rfl ?_
  refine q_putfE (p2 := 17) rfl hh4 (by decide) rfl rfl (fun φ5 f5 hh5 hg5 ho5 fr5 => ?_)
  refine q_load (p2 := 18) rfl rfl rfl rfl ?_
  refine q_const (p2 := 19) rfl rfl ?_
  refine q_putfE (p2 := 20) rfl hh5 (by decide) rfl rfl (fun φ6 f6 hh6 hg6 ho6 fr6 => ?_)
  refine q_load (p2 := 21) rfl rfl rfl rfl ?_
  refine q_gets (p2 := 22) rfl rfl ?_
  refine q_putfE (p2 := 23) rfl hh6 (by decide) rfl rfl (fun φ7 f7 hh7 hg7 ho7 fr7 => ?_)
  exact q_ret rfl (⟨rfl, rfl, rfl, ⟨_, hh7, ⟨((ho7 0 (by decide)).trans ((ho6 0 (by decide)).trans ((ho5 0 (by decide)).trans ((ho4 0 (by decide)).trans ((ho3 0 (by decide)).trans ((ho2 0 (by decide)).trans hg1)))))), ((ho7 1 (by decide)).trans ((ho6 1 (by decide)).trans ((ho5 1 (by decide)).trans ((ho4 1 (by decide)).trans ((ho3 1 (by decide)).trans hg2))))), ((ho7 2 (by decide)).trans ((ho6 2 (by decide)).trans ((ho5 2 (by decide)).trans ((ho4 2 (by decide)).trans hg3)))), ((ho7 3 (by decide)).trans ((ho6 3 (by decide)).trans ((ho5 3 (by decide)).trans hg4))), ((ho7 4 (by decide)).trans ((ho6 4 (by decide)).trans hg5)), ((ho7 5 (by decide)).trans hg6), hg7⟩⟩, fun j hj => ((fr7 j hj).trans ((fr6 j hj).trans ((fr5 j hj).trans ((fr4 j hj).trans ((fr3 j hj).trans ((fr2 j hj).trans ((fr1 j hj).trans rfl)))))))⟩)
theorem e_new5 {d n sl : Nat} {φ : FH} {v so lo la ho c : Nat} {f : Nat → XV} (hV : φ v = some (0, 10, 7, f)) : x_f x_P (d + 1) 79 [(6, v, 0), (0, so, 0), (0, lo, 0), (0, la, 0), (0, ho, 0), (6, c, 0)] φ n sl (x_vR n sl (fun φ2 => (∃ f2, φ2 v = some (0, 10, 7, f2) ∧ x_vg f2 6 0 so lo la ho (6, c, 0)) ∧ ∀ j, j ≠ v → φ2 j = φ j)) := by
  refine x_f_of rfl ?_
  refine q_load (p2 := 1) rfl rfl rfl rfl ?_
  refine q_objinit (p2 := 2) rfl hV rfl rfl ?_
  refine q_load (p2 := 3) rfl rfl rfl rfl ?_
  refine q_const (p2 := 4) rfl rfl ?_
  refine q_putfE (p2 := 5) rfl hV (by decide) rfl rfl (fun φ1 f1 hh1 hg1 ho1 fr1 => ?_)
  refine q_load (p2 := 6) rfl rfl rfl rfl ?_
  refine q_const (p2 := 7) rfl rfl ?_
  refine q_putfE (p2 := 8) rfl hh1 (by decide) rfl rfl (fun φ2 f2 hh2 hg2 ho2 fr2 => ?_)
  refine q_load (p2 := 9) rfl rfl rfl rfl ?_
  refine q_load (p2 := 10) rfl rfl rfl rfl ?_
  refine q_putfE (p2 := 11) rfl hh2 (by decide) rfl rfl (fun φ3 f3 hh3 hg3 ho3 fr3 => ?_)
  refine q_load (p2 := 12) rfl rfl rfl rfl ?_
  refine q_load (p2 := 13) rfl rfl rfl rfl ?_
  refine q_putfE (p2 := 14) rfl hh3 (by decide) rfl rfl (fun φ4 f4 hh4 hg4 ho4 fr4 => ?_)
  refine q_load (p2 := 15) rfl rfl rfl rfl ?_
  refine q_load (p2 := 16) rfl rfl rfl rfl ?_
  refine q_putfE (p2 := 17) rfl hh4 (by decide) rfl rfl (fun φ5 f5 hh5 hg5 ho5 fr5 => ?_)
  refine q_load (p2 := 18) rfl rfl rfl rfl ?_
  refine q_load (p2 := 19) rfl rfl rfl rfl ?_
  refine q_putfE (p2 := 20) rfl hh5 (by decide) rfl rfl (fun φ6 f6 hh6 hg6 ho6 fr6 => ?_)
  refine q_load (p2 := 21) rfl rfl rfl rfl ?_
  refine q_load (p2 := 22) rfl rfl rfl rfl ?_
  refine q_putfE (p2 := 23) rfl hh6 (by decide) rfl rfl (fun φ7 f7 hh7 hg7 ho7 fr7 => ?_)
  exact q_ret rfl (⟨rfl, rfl, rfl, ⟨_, hh7, ⟨((ho7 0 (by decide)).trans ((ho6 0 (by decide)).trans ((ho5 0 (by decide)).trans ((ho4 0 (by decide)).trans ((ho3 0 (by decide)).trans ((ho2 0 (by decide)).trans hg1)))))), ((ho7 1 (by decide)).trans ((ho6 1 (by decide)).trans ((ho5 1 (by decide)).trans ((ho4 1 (by decide)).trans ((ho3 1 (by decide)).trans hg2))))), ((ho7 2 (by decide)).trans ((ho6 2 (by decide)).trans ((ho5 2 (by decide)).trans ((ho4 2 (by decide)).trans hg3)))), ((ho7 3 (by decide)).trans ((ho6 3 (by decide)).trans ((ho5 3 (by decide)).trans hg4))), ((ho7 4 (by decide)).trans ((ho6 4 (by decide)).trans hg5)), ((ho7 5 (by decide)).trans hg6), hg7⟩⟩, fun j hj => ((fr7 j hj).trans ((fr6 j hj).trans ((fr5 j hj).trans ((fr4 j hj).trans ((fr3 j hj).trans ((fr2 j hj).trans ((fr1 j hj).trans rfl)))))))⟩)
theorem e_isHole {d n sl : Nat} {φ : FH} {v k b so lo la : Nat} {c : XV} {fV : Nat → XV} (hV : φ v = some (0, 10, 7, fV)) (hg : x_vg fV k b so lo la 0 c) {i : Nat} (hi : i < 32) : x_f x_P (d + 1) 117 [(6, v, 0), (0, i, 0)] φ n sl (x_r φ n sl (0, 0, 0)) := by
  have hz : 0 >>> i &&& 1 = 0 := by rw [Nat.zero_shiftRight]; rfl
  have hz2 : 0 >>> i = 0 := Nat.zero_shiftRight i
  refine x_f_of rfl ?_
  refine q_load (p2 := 1) rfl rfl rfl rfl ?_
  refine q_getv (p2 := 2) rfl hV (by decide) hg.2.2.2.2.2.1 rfl ?_
  refine q_load (p2 := 3) rfl rfl rfl rfl ?_
  refine q_ishr (p2 := 4) rfl (by first | omega | (rw [hz]; decide) | (rw [hz]; omega)) (by first | omega | (rw [hz]; decide) | (rw [hz]; omega)) rfl ?_
  refine q_const (p2 := 5) rfl rfl ?_
  refine q_iand (p2 := 6) rfl (by first | omega | (rw [hz]; decide) | (rw [hz]; omega)) rfl ?_
  refine q_const (p2 := 7) rfl rfl ?_
  refine q_icmp_s (p2 := 8) rfl (by decide) (by first | omega | (rw [hz]; decide) | (rw [hz]; omega)) (by first | omega | (rw [hz]; decide) | (rw [hz]; omega)) rfl (fun _ => ?_) (fun hb => absurd (show ¬ (((0 >>> i) &&& 1) = 1) by first | omega | (rw [hz]; decide) | (rw [hz]; omega)) hb)
  refine q_const (p2 := 11) rfl rfl ?_
  exact q_retv rfl rfl (⟨rfl, rfl, rfl, rfl, rfl⟩)
theorem e_hold {d n sl : Nat} {φ : FH} {A B made sv svm st : Nat} {fP : Nat → XV} (hP : x_pop φ A B made sv svm st fP) {held : Nat → Nat} (hH : x_held φ 227 held) {x a v : Nat} {fV : Nat → XV} (hV : φ v = some (0, 10, 7, fV)) (hx : x < 40) (ha : a < 40) : x_f x_P (d + 1) 59 [(6, 7, 0), (0, x, 0), (0, a, 0), (6, v, 0)] φ n sl (x_vR n sl (fun φ2 => x_held φ2 227 (fun i => if i = x * 40 + a then v else held i) ∧ (∃ f2, x_pop φ2 A B made sv svm 1 f2) ∧ ∀ j, j ≠ 7 → j ≠ 227 → φ2 j = φ j)) := by
  refine x_f_of rfl ?_
  refine q_load (p2 := 1) rfl rfl rfl rfl ?_
  refine q_if0_s (p2 := 2) rfl (by decide) (by omega) rfl (fun hb => absurd hb (show ¬ (x < 0) by omega)) (fun _ => ?_)
  refine q_load (p2 := 3) rfl rfl rfl rfl ?_
  refine q_const (p2 := 4) rfl rfl ?_
  refine q_icmp_s (p2 := 5) rfl (by decide) (by omega) (by omega) rfl (fun hb => absurd hb (show ¬ (¬ (x < 40)) by omega)) (fun _ => ?_)
  refine q_load (p2 := 6) rfl rfl rfl rfl ?_
  refine q_if0_s (p2 := 7) rfl (by decide) (by omega) rfl (fun hb => absurd hb (show ¬ (a < 0) by omega)) (fun _ => ?_)
  refine q_load (p2 := 8) rfl rfl rfl rfl ?_
  refine q_const (p2 := 9) rfl rfl ?_
  refine q_icmp_s (p2 := 10) rfl (by decide) (by omega) (by omega) rfl (fun hb => absurd hb (show ¬ (¬ (a < 40)) by omega)) (fun _ => ?_)
  refine q_load (p2 := 11) rfl rfl rfl rfl ?_
  refine q_getv (p2 := 12) rfl hP.1 (by decide) hP.2.2.2.2.2.1 rfl ?_
  refine q_load (p2 := 13) rfl rfl rfl rfl ?_
  refine q_const (p2 := 14) rfl rfl ?_
  refine q_imul (p2 := 15) rfl (by omega) rfl ?_
  refine q_load (p2 := 16) rfl rfl rfl rfl ?_
  refine q_iadd (p2 := 17) rfl (by omega) rfl ?_
  refine q_load (p2 := 18) rfl rfl rfl rfl ?_
  refine q_astE (p2 := 19) rfl hH (by omega) (by omega) (x_ok_r hV rfl) (x_nv_same rfl (by decide)) rfl (fun φ1 f1 hh1 hg1 ho1 fr1 => ?_)
  refine q_load (p2 := 20) rfl rfl rfl rfl ?_
  refine q_const (p2 := 21) rfl rfl ?_
  refine q_putfE (p2 := 22) rfl ((fr1 7 (by omega)).trans hP.1) (by decide) rfl rfl (fun φ2 f2 hh2 hg2 ho2 fr2 => ?_)
  exact q_ret rfl (⟨rfl, rfl, rfl, x_held_upd (φ := φ) ((fr2 227 (by omega)).trans hh1) hg1 ho1, ⟨_, hh2, ((ho2 0 (by decide)).trans hP.2.1), ((ho2 1 (by decide)).trans hP.2.2.1), ((ho2 2 (by decide)).trans hP.2.2.2.1), ((ho2 3 (by decide)).trans hP.2.2.2.2.1), ((ho2 4 (by decide)).trans hP.2.2.2.2.2.1), ((ho2 5 (by decide)).trans hP.2.2.2.2.2.2.1), ((ho2 6 (by decide)).trans hP.2.2.2.2.2.2.2.1), ((ho2 7 (by decide)).trans hP.2.2.2.2.2.2.2.2.1), ((ho2 8 (by decide)).trans hP.2.2.2.2.2.2.2.2.2.1), ((ho2 9 (by decide)).trans hP.2.2.2.2.2.2.2.2.2.2.1), ((ho2 10 (by decide)).trans hP.2.2.2.2.2.2.2.2.2.2.2.1), hg2, hP.2.2.2.2.2.2.2.2.2.2.2.2.2.1, hP.2.2.2.2.2.2.2.2.2.2.2.2.2.2.1, hP.2.2.2.2.2.2.2.2.2.2.2.2.2.2.2.1, hP.2.2.2.2.2.2.2.2.2.2.2.2.2.2.2.2.1, Nat.le_refl _⟩, fun j h7 h227 => ((fr2 j h7).trans ((fr1 j h227).trans rfl))⟩)
end FPOP2
