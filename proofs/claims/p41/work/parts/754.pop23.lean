section FPOP23
/-- the frame's slots hold nothing, the first i of them -/
def x_lo (lo : Nat → Nat) (fr i : Nat) : Nat → Nat := fun j => if fr * 32 ≤ j ∧ j < fr * 32 + i then 225 else lo j
theorem x_lo_s {lo : Nat → Nat} {fr i : Nat} (j : Nat) : (if j = fr * 32 + i then 225 else x_lo lo fr i j) = x_lo lo fr (i + 1) j := by
  unfold x_lo
  by_cases h : j = fr * 32 + i
  · rw [if_pos h, if_pos (by omega)]
  · rw [if_neg h]
    by_cases h2 : fr * 32 ≤ j ∧ j < fr * 32 + i
    · rw [if_pos h2, if_pos (by omega)]
    · rw [if_neg h2, if_neg (by omega)]
theorem e_open_loop {d n sl start kind self : Nat} {φ0 : FH} {top fr pc_ sp mm mi : Nat} {fM : Nat → XV} (hMc : x_mcf φ0 top fr pc_ sp mm mi fM) (hf8 : fr < 8) {fN : Nat → XV} (hN0 : φ0 225 = some (0, 10, 7, fN)) {lo : Nat → Nat} {Post : FP} (kk : ∀ φ9, x_vrow φ9 457 256 (x_lo lo fr 32) → (∀ j, j ≠ 457 → φ9 j = φ0 j) → x_n x_P d xc_107 52 [] [(6, 455, 0), (0, start, 0), (0, kind, 0), (6, self, 0), (0, 32, 0)] φ9 n sl Post) (k : Nat) : ∀ (i : Nat) {φ : FH}, i + k = 32 → x_vrow φ 457 256 (x_lo lo fr i) → (∀ j, j ≠ 457 → φ j = φ0 j) → x_n x_P d xc_107 36 [] [(6, 455, 0), (0, start, 0), (0, kind, 0), (6, self, 0), (0, i, 0)] φ n sl Post := by
  induction k with
  | zero =>
    intro i φ hi hLo hfr
    have hi : i = 32 := by omega
    subst hi
    refine q_load (p2 := 37) rfl rfl rfl rfl ?_
    refine q_const (p2 := 38) rfl rfl ?_
    refine q_icmp_s (p2 := 39) rfl (by decide) (by omega) (by omega) rfl (fun _ => ?_) (fun hb => absurd (show ¬ (32 < 32) by omega) hb)
    exact kk φ hLo hfr
  | succ k ih =>
    intro i φ hi hLo hfr
    refine q_load (p2 := 37) rfl rfl rfl rfl ?_
    refine q_const (p2 := 38) rfl rfl ?_
    refine q_icmp_s (p2 := 39) rfl (by decide) (by omega) (by omega) rfl (fun hb => absurd hb (show ¬ (¬ (i < 32)) by omega)) (fun _ => ?_)
    refine q_load (p2 := 40) rfl rfl rfl rfl ?_
    refine q_getv (p2 := 41) rfl ((hfr 455 (by omega)).trans hMc.1) (by decide) hMc.2.2.2.2.2.2.1 rfl ?_
    refine q_load (p2 := 42) rfl rfl rfl rfl ?_
    refine q_getv (p2 := 43) rfl ((hfr 455 (by omega)).trans hMc.1) (by decide) hMc.2.2.2.2.2.2.2.2.2.2.2.1 rfl ?_
    refine q_const (p2 := 44) rfl rfl ?_
    refine q_imul (p2 := 45) rfl (by omega) rfl ?_
    refine q_load (p2 := 46) rfl rfl rfl rfl ?_
    refine q_iadd (p2 := 47) rfl (by omega) rfl ?_
    refine q_load (p2 := 48) rfl rfl rfl rfl ?_
    refine q_getv (p2 := 49) rfl ((hfr 455 (by omega)).trans hMc.1) (by decide) hMc.2.2.2.1 rfl ?_
    refine q_astE (p2 := 50) rfl hLo (by omega) (by omega) (x_ok_r ((hfr 225 (by omega)).trans hN0) rfl) (x_nv_same rfl (by decide)) rfl (fun φ1 f1 hh1 hg1 ho1 fr1 => ?_)
    refine q_iinc (z := i + 1) (p2 := 51) rfl rfl (Nat.mod_eq_of_lt (by omega)) rfl rfl ?_
    refine q_goto rfl ?_
    exact ih (i + 1) (by omega) (x_vrow_eq (x_vrow_upd hh1 hg1 ho1) x_lo_s) (fun j hj => (fr1 j hj).trans (hfr j hj))
theorem e_open {d n sl : Nat} {φ : FH} {top fr pc_ sp mm mi : Nat} {fM : Nat → XV} (hMc : x_mcf φ top fr pc_ sp mm mi fM) {lo re rs fl se : Nat → Nat} (hLo : x_vrow φ 457 256 lo) (hRe : x_irow φ 462 8 re) (hRs : x_irow φ 463 8 rs) (hFl : x_irow φ 464 8 fl) (hSe : x_vrow φ 465 8 se) {start kind self : Nat} {fV fN : Nat → XV} (hN0 : φ 225 = some (0, 10, 7, fN)) (hV : φ self = some (0, 10, 7, fV)) (hself : self = 225 ∨ 486 ≤ self) (hf8 : fr < 8) : x_f x_P (d + 1) 107 [(6, 455, 0), (0, start, 0), (0, kind, 0), (6, self, 0), (11, 0, 0)] φ n sl (x_vR n sl (fun φ2 => x_mc φ2 top (fr + 1) start sp mm mi ∧ x_irow φ2 462 8 (fun i => if i = fr then pc_ else re i) ∧ x_irow φ2 463 8 (fun i => if i = fr then kind else rs i) ∧ x_irow φ2 464 8 (fun i => if i = fr then top else fl i) ∧ x_vrow φ2 465 8 (fun i => if i = fr then self else se i) ∧ x_vrow φ2 457 256 (x_lo lo fr 32) ∧ ∀ j, j ≠ 455 → j ≠ 457 → j ≠ 462 → j ≠ 463 → j ≠ 464 → j ≠ 465 → φ2 j = φ j)) := by
  refine x_f_of rfl ?_
  refine q_load (p2 := 1) rfl rfl rfl rfl ?_
  refine q_getv (p2 := 2) rfl hMc.1 (by decide) hMc.2.2.2.2.2.2.2.2.2.2.2.1 rfl ?_
  refine q_const (p2 := 3) rfl rfl ?_
  refine q_icmp_s (p2 := 4) rfl (by decide) (by omega) (by omega) rfl (fun _ => ?_) (fun hb => absurd (show fr < 8 by omega) hb)
  refine q_load (p2 := 9) rfl rfl rfl rfl ?_
  refine q_getv (p2 := 10) rfl hMc.1 (by decide) hMc.2.2.2.2.2.2.2.2.2.2.2.2.1 rfl ?_
  refine q_load (p2 := 11) rfl rfl rfl rfl ?_
  refine q_getv (p2 := 12) rfl hMc.1 (by decide) hMc.2.2.2.2.2.2.2.2.2.2.2.1 rfl ?_
  refine q_load (p2 := 13) rfl rfl rfl rfl ?_
  refine q_getv (p2 := 14) rfl hMc.1 (by decide) hMc.2.2.2.2.2.2.2.2.2.2.2.2.2.2.2.2.1 rfl ?_
  refine q_astE (p2 := 15) rfl hRe (by omega) (by omega) (x_ok_0 rfl) (x_nv_same rfl (by decide)) rfl (fun φ1 f1 hh1 hg1 ho1 fr1 => ?_)
  refine q_load (p2 := 16) rfl rfl rfl rfl ?_
  refine q_getv (p2 := 17) rfl ((fr1 455 (by omega)).trans hMc.1) (by decide) hMc.2.2.2.2.2.2.2.2.2.2.2.2.2.1 rfl ?_
  refine q_load (p2 := 18) rfl rfl rfl rfl ?_
  refine q_getv (p2 := 19) rfl ((fr1 455 (by omega)).trans hMc.1) (by decide) hMc.2.2.2.2.2.2.2.2.2.2.2.1 rfl ?_
  refine q_load (p2 := 20) rfl rfl rfl rfl ?_
  refine q_astE (p2 := 21) rfl ((fr1 463 (by omega)).trans hRs) (by omega) (by omega) (x_ok_0 rfl) (x_nv_same rfl (by decide)) rfl (fun φ2 f2 hh2 hg2 ho2 fr2 => ?_)
  refine q_load (p2 := 22) rfl rfl rfl rfl ?_
  refine q_getv (p2 := 23) rfl ((fr2 455 (by omega)).trans ((fr1 455 (by omega)).trans hMc.1)) (by decide) hMc.2.2.2.2.2.2.2.2.2.2.2.2.2.2.1 rfl ?_
  refine q_load (p2 := 24) rfl rfl rfl rfl ?_
  refine q_getv (p2 := 25) rfl ((fr2 455 (by omega)).trans ((fr1 455 (by omega)).trans hMc.1)) (by decide) hMc.2.2.2.2.2.2.2.2.2.2.2.1 rfl ?_
  refine q_load (p2 := 26) rfl rfl rfl rfl ?_
  refine q_getv (p2 := 27) rfl ((fr2 455 (by omega)).trans ((fr1 455 (by omega)).trans hMc.1)) (by decide) hMc.2.2.2.2.2.1 rfl ?_
  refine q_astE (p2 := 28) rfl ((fr2 464 (by omega)).trans ((fr1 464 (by omega)).trans hFl)) (by omega) (by omega) (x_ok_0 rfl) (x_nv_same rfl (by decide)) rfl (fun φ3 f3 hh3 hg3 ho3 fr3 => ?_)
  refine q_load (p2 := 29) rfl rfl rfl rfl ?_
  refine q_getv (p2 := 30) rfl ((fr3 455 (by omega)).trans ((fr2 455 (by omega)).trans ((fr1 455 (by omega)).trans hMc.1))) (by decide) hMc.2.2.2.2.2.2.2.2.2.2.2.2.2.2.2.1 rfl ?_
  refine q_load (p2 := 31) rfl rfl rfl rfl ?_
  refine q_getv (p2 := 32) rfl ((fr3 455 (by omega)).trans ((fr2 455 (by omega)).trans ((fr1 455 (by omega)).trans hMc.1))) (by decide) hMc.2.2.2.2.2.2.2.2.2.2.2.1 rfl ?_
  refine q_load (p2 := 33) rfl rfl rfl rfl ?_
  refine q_astE (p2 := 34) rfl ((fr3 465 (by omega)).trans ((fr2 465 (by omega)).trans ((fr1 465 (by omega)).trans hSe))) (by omega) (by omega) (x_ok_r ((fr3 self (by omega)).trans ((fr2 self (by omega)).trans ((fr1 self (by omega)).trans hV))) rfl) (x_nv_same rfl (by decide)) rfl (fun φ4 f4 hh4 hg4 ho4 fr4 => ?_)
  refine q_const (p2 := 35) rfl rfl ?_
  refine q_store (p2 := 36) rfl rfl rfl rfl rfl ?_
  have hMc1 : x_mcf φ4 top fr pc_ sp mm mi _ := ⟨((fr4 455 (by omega)).trans ((fr3 455 (by omega)).trans ((fr2 455 (by omega)).trans ((fr1 455 (by omega)).trans hMc.1)))), hMc.2.1, hMc.2.2.1, hMc.2.2.2.1, hMc.2.2.2.2.1, hMc.2.2.2.2.2.1, hMc.2.2.2.2.2.2.1, hMc.2.2.2.2.2.2.2.1, hMc.2.2.2.2.2.2.2.2.1, hMc.2.2.2.2.2.2.2.2.2.1, hMc.2.2.2.2.2.2.2.2.2.2.1, hMc.2.2.2.2.2.2.2.2.2.2.2.1, hMc.2.2.2.2.2.2.2.2.2.2.2.2.1, hMc.2.2.2.2.2.2.2.2.2.2.2.2.2.1, hMc.2.2.2.2.2.2.2.2.2.2.2.2.2.2.1, hMc.2.2.2.2.2.2.2.2.2.2.2.2.2.2.2.1, hMc.2.2.2.2.2.2.2.2.2.2.2.2.2.2.2.2.1, hMc.2.2.2.2.2.2.2.2.2.2.2.2.2.2.2.2.2.1, hMc.2.2.2.2.2.2.2.2.2.2.2.2.2.2.2.2.2.2.1, hMc.2.2.2.2.2.2.2.2.2.2.2.2.2.2.2.2.2.2.2.1, hMc.2.2.2.2.2.2.2.2.2.2.2.2.2.2.2.2.2.2.2.2⟩
  have hLo1 : x_vrow φ4 457 256 lo := ((fr4 457 (by omega)).trans ((fr3 457 (by omega)).trans ((fr2 457 (by omega)).trans ((fr1 457 (by omega)).trans hLo))))
  refine e_open_loop hMc1 hf8 ((fr4 225 (by omega)).trans ((fr3 225 (by omega)).trans ((fr2 225 (by omega)).trans ((fr1 225 (by omega)).trans hN0)))) (lo := lo) (fun φ9 hLo9 hfr9 => ?_) 32 0 rfl (x_vrow_eq hLo1 (fun j => by unfold x_lo; rw [if_neg (by omega)])) (fun _ _ => rfl)
  refine q_load (p2 := 53) rfl rfl rfl rfl ?_
  refine q_dup (p2 := 54) rfl rfl rfl ?_
  refine q_getv (p2 := 55) rfl ((hfr9 455 (by omega)).trans hMc1.1) (by decide) hMc1.2.2.2.2.2.2.2.2.2.2.2.1 rfl ?_
  refine q_const (p2 := 56) rfl rfl ?_
  refine q_iadd (p2 := 57) rfl (by omega) rfl ?_
  refine q_putfE (p2 := 58) rfl ((hfr9 455 (by omega)).trans hMc1.1) (by decide) rfl rfl (fun φ5 f5 hh5 hg5 ho5 fr5 => ?_)
  refine q_load (p2 := 59) rfl rfl rfl rfl ?_
  refine q_load (p2 := 60) rfl rfl rfl rfl ?_
  refine q_putfE (p2 := 61) rfl hh5 (by decide) rfl rfl (fun φ6 f6 hh6 hg6 ho6 fr6 => ?_)
  exact q_ret rfl (⟨rfl, rfl, rfl, ⟨_, hh6, ((ho6 0 (by decide)).trans ((ho5 0 (by decide)).trans hMc1.2.1)), ((ho6 1 (by decide)).trans ((ho5 1 (by decide)).trans hMc1.2.2.1)), ((ho6 2 (by decide)).trans ((ho5 2 (by decide)).trans hMc1.2.2.2.1)), ((ho6 3 (by decide)).trans ((ho5 3 (by decide)).trans hMc1.2.2.2.2.1)), ((ho6 4 (by decide)).trans ((ho5 4 (by decide)).trans hMc1.2.2.2.2.2.1)), ((ho6 5 (by decide)).trans ((ho5 5 (by decide)).trans hMc1.2.2.2.2.2.2.1)), ((ho6 6 (by decide)).trans ((ho5 6 (by decide)).trans hMc1.2.2.2.2.2.2.2.1)), ((ho6 7 (by decide)).trans ((ho5 7 (by decide)).trans hMc1.2.2.2.2.2.2.2.2.1)), ((ho6 8 (by decide)).trans ((ho5 8 (by decide)).trans hMc1.2.2.2.2.2.2.2.2.2.1)), ((ho6 9 (by decide)).trans ((ho5 9 (by decide)).trans hMc1.2.2.2.2.2.2.2.2.2.2.1)), ((ho6 10 (by decide)).trans hg5), ((ho6 11 (by decide)).trans ((ho5 11 (by decide)).trans hMc1.2.2.2.2.2.2.2.2.2.2.2.2.1)), ((ho6 12 (by decide)).trans ((ho5 12 (by decide)).trans hMc1.2.2.2.2.2.2.2.2.2.2.2.2.2.1)), ((ho6 13 (by decide)).trans ((ho5 13 (by decide)).trans hMc1.2.2.2.2.2.2.2.2.2.2.2.2.2.2.1)), ((ho6 14 (by decide)).trans ((ho5 14 (by decide)).trans hMc1.2.2.2.2.2.2.2.2.2.2.2.2.2.2.2.1)), hg6, ((ho6 16 (by decide)).trans ((ho5 16 (by decide)).trans hMc1.2.2.2.2.2.2.2.2.2.2.2.2.2.2.2.2.2.1)), ((ho6 17 (by decide)).trans ((ho5 17 (by decide)).trans hMc1.2.2.2.2.2.2.2.2.2.2.2.2.2.2.2.2.2.2.1)), ((ho6 18 (by decide)).trans ((ho5 18 (by decide)).trans hMc1.2.2.2.2.2.2.2.2.2.2.2.2.2.2.2.2.2.2.2.1)), ((ho6 19 (by decide)).trans ((ho5 19 (by decide)).trans hMc1.2.2.2.2.2.2.2.2.2.2.2.2.2.2.2.2.2.2.2.2))⟩, x_irow_at (x_irow_upd ((fr4 462 (by omega)).trans ((fr3 462 (by omega)).trans ((fr2 462 (by omega)).trans hh1))) hg1 ho1) ((fr6 462 (by omega)).trans ((fr5 462 (by omega)).trans (hfr9 462 (by omega)))), x_irow_at (x_irow_upd ((fr4 463 (by omega)).trans ((fr3 463 (by omega)).trans hh2)) hg2 ho2) ((fr6 463 (by omega)).trans ((fr5 463 (by omega)).trans (hfr9 463 (by omega)))), x_irow_at (x_irow_upd ((fr4 464 (by omega)).trans hh3) hg3 ho3) ((fr6 464 (by omega)).trans ((fr5 464 (by omega)).trans (hfr9 464 (by omega)))), x_vrow_at (x_vrow_upd hh4 hg4 ho4) ((fr6 465 (by omega)).trans ((fr5 465 (by omega)).trans (hfr9 465 (by omega)))), x_vrow_at (x_vrow_at hLo9 (fr5 457 (by omega))) (fr6 457 (by omega)), fun j h5 h57 h62 h63 h64 h65 => ((fr6 j h5).trans ((fr5 j h5).trans ((hfr9 j h57).trans ((fr4 j h65).trans ((fr3 j h64).trans ((fr2 j h63).trans ((fr1 j h62).trans rfl)))))))⟩)
theorem e_endFrame {d n sl : Nat} {φ : FH} {top fr pc_ sp mm mi : Nat} {fM : Nat → XV} (hMc : x_mcf φ top (fr + 1) pc_ sp mm mi fM) {st re fl : Nat → Nat} (hSt : x_vrow φ 456 4096 st) (hRe : x_irow φ 462 8 re) (hFl : x_irow φ 464 8 fl) {v : Nat} {fV : Nat → XV} (hV : φ v = some (0, 10, 7, fV)) (hv : v = 225 ∨ 486 ≤ v) (hf8 : fr < 8) (hflb : fl fr < 4096) : x_f x_P (d + 2) 200 [(6, 455, 0), (6, v, 0)] φ n sl (x_vR n sl (fun φ2 => x_mc φ2 (fl fr + 1) fr (re fr) sp mm mi ∧ x_vrow φ2 456 4096 (fun i => if i = fl fr then v else st i) ∧ ∀ j, j ≠ 455 → j ≠ 456 → φ2 j = φ j)) := by
  refine x_f_of rfl ?_
  refine q_load (p2 := 1) rfl rfl rfl rfl ?_
  refine q_getv (p2 := 2) rfl hMc.1 (by decide) hMc.2.2.2.2.2.2.2.2.2.2.2.1 rfl ?_
  refine q_if0_s (p2 := 3) rfl (by decide) (by first | omega | (rw [show fr + 1 - 1 = fr from rfl]; omega)) rfl (fun hb => absurd hb (show ¬ (¬ (0 < (fr + 1))) by first | omega | (rw [show fr + 1 - 1 = fr from rfl]; omega))) (fun _ => ?_)
  refine q_load (p2 := 4) rfl rfl rfl rfl ?_
  refine q_dup (p2 := 5) rfl rfl rfl ?_
  refine q_getv (p2 := 6) rfl hMc.1 (by decide) hMc.2.2.2.2.2.2.2.2.2.2.2.1 rfl ?_
  refine q_const (p2 := 7) rfl rfl ?_
  refine q_isub (p2 := 8) rfl (by first | omega | (rw [show fr + 1 - 1 = fr from rfl]; omega)) (by first | omega | (rw [show fr + 1 - 1 = fr from rfl]; omega)) rfl ?_
  refine q_putfE (p2 := 9) rfl hMc.1 (by decide) rfl rfl (fun φ1 f1 hh1 hg1 ho1 fr1 => ?_)
  refine q_load (p2 := 10) rfl rfl rfl rfl ?_
  refine q_load (p2 := 11) rfl rfl rfl rfl ?_
  refine q_getv (p2 := 12) rfl hh1 (by decide) ((ho1 13 (by decide)).trans hMc.2.2.2.2.2.2.2.2.2.2.2.2.2.2.1) rfl ?_
  refine q_load (p2 := 13) rfl rfl rfl rfl ?_
  refine q_getv (p2 := 14) rfl hh1 (by decide) hg1 rfl ?_
  refine q_aldv (v := (0, (fl (fr)), 0)) (p2 := 15) rfl ((fr1 464 (by first | omega | (rw [show fr + 1 - 1 = fr from rfl]; omega))).trans hFl) (by first | omega | (rw [show fr + 1 - 1 = fr from rfl]; omega)) (by first | omega | (rw [show fr + 1 - 1 = fr from rfl]; omega)) rfl rfl ?_
  refine q_putfE (p2 := 16) rfl hh1 (by decide) rfl rfl (fun φ2 f2 hh2 hg2 ho2 fr2 => ?_)
  refine q_load (p2 := 17) rfl rfl rfl rfl ?_
  refine q_load (p2 := 18) rfl rfl rfl rfl ?_
  refine q_getv (p2 := 19) rfl hh2 (by decide) ((ho2 11 (by decide)).trans ((ho1 11 (by decide)).trans hMc.2.2.2.2.2.2.2.2.2.2.2.2.1)) rfl ?_
  refine q_load (p2 := 20) rfl rfl rfl rfl ?_
  refine q_getv (p2 := 21) rfl hh2 (by decide) ((ho2 10 (by decide)).trans hg1) rfl ?_
  refine q_aldv (v := (0, (re (fr)), 0)) (p2 := 22) rfl ((fr2 462 (by first | omega | (rw [show fr + 1 - 1 = fr from rfl]; omega))).trans ((fr1 462 (by first | omega | (rw [show fr + 1 - 1 = fr from rfl]; omega))).trans hRe)) (by first | omega | (rw [show fr + 1 - 1 = fr from rfl]; omega)) (by first | omega | (rw [show fr + 1 - 1 = fr from rfl]; omega)) rfl rfl ?_
  refine q_putfE (p2 := 23) rfl hh2 (by decide) rfl rfl (fun φ3 f3 hh3 hg3 ho3 fr3 => ?_)
  refine q_load (p2 := 24) rfl rfl rfl rfl ?_
  refine q_load (p2 := 25) rfl rfl rfl rfl ?_
  refine q_callvE (xs := [(6, v, 0), (6, 455, 0)]) (p2 := 26) rfl rfl rfl rfl (x_rcv_s 455 hh3) rfl (e_push (v := v) ⟨hh3, ((ho3 0 (by decide)).trans ((ho2 0 (by decide)).trans ((ho1 0 (by decide)).trans hMc.2.1))), ((ho3 1 (by decide)).trans ((ho2 1 (by decide)).trans ((ho1 1 (by decide)).trans hMc.2.2.1))), ((ho3 2 (by decide)).trans ((ho2 2 (by decide)).trans ((ho1 2 (by decide)).trans hMc.2.2.2.1))), ((ho3 3 (by decide)).trans ((ho2 3 (by decide)).trans ((ho1 3 (by decide)).trans hMc.2.2.2.2.1))), ((ho3 4 (by decide)).trans hg2), ((ho3 5 (by decide)).trans ((ho2 5 (by decide)).trans ((ho1 5 (by decide)).trans hMc.2.2.2.2.2.2.1))), ((ho3 6 (by decide)).trans ((ho2 6 (by decide)).trans ((ho1 6 (by decide)).trans hMc.2.2.2.2.2.2.2.1))), ((ho3 7 (by decide)).trans ((ho2 7 (by decide)).trans ((ho1 7 (by decide)).trans hMc.2.2.2.2.2.2.2.2.1))), ((ho3 8 (by decide)).trans ((ho2 8 (by decide)).trans ((ho1 8 (by decide)).trans hMc.2.2.2.2.2.2.2.2.2.1))), ((ho3 9 (by decide)).trans ((ho2 9 (by decide)).trans ((ho1 9 (by decide)).trans hMc.2.2.2.2.2.2.2.2.2.2.1))), ((ho3 10 (by decide)).trans ((ho2 10 (by decide)).trans hg1)), ((ho3 11 (by decide)).trans ((ho2 11 (by decide)).trans ((ho1 11 (by decide)).trans hMc.2.2.2.2.2.2.2.2.2.2.2.2.1))), ((ho3 12 (by decide)).trans ((ho2 12 (by decide)).trans ((ho1 12 (by decide)).trans hMc.2.2.2.2.2.2.2.2.2.2.2.2.2.1))), ((ho3 13 (by decide)).trans ((ho2 13 (by decide)).trans ((ho1 13 (by decide)).trans hMc.2.2.2.2.2.2.2.2.2.2.2.2.2.2.1))), ((ho3 14 (by decide)).trans ((ho2 14 (by decide)).trans ((ho1 14 (by decide)).trans hMc.2.2.2.2.2.2.2.2.2.2.2.2.2.2.2.1))), hg3, ((ho3 16 (by decide)).trans ((ho2 16 (by decide)).trans ((ho1 16 (by decide)).trans hMc.2.2.2.2.2.2.2.2.2.2.2.2.2.2.2.2.2.1))), ((ho3 17 (by decide)).trans ((ho2 17 (by decide)).trans ((ho1 17 (by decide)).trans hMc.2.2.2.2.2.2.2.2.2.2.2.2.2.2.2.2.2.2.1))), ((ho3 18 (by decide)).trans ((ho2 18 (by decide)).trans ((ho1 18 (by decide)).trans hMc.2.2.2.2.2.2.2.2.2.2.2.2.2.2.2.2.2.2.2.1))), ((ho3 19 (by decide)).trans ((ho2 19 (by decide)).trans ((ho1 19 (by decide)).trans hMc.2.2.2.2.2.2.2.2.2.2.2.2.2.2.2.2.2.2.2.2)))⟩ (x_vrow_at hSt ((fr3 456 (by omega)).trans ((fr2 456 (by omega)).trans ((fr1 456 (by omega)).trans rfl)))) ((fr3 v (by first | omega | (rw [show fr + 1 - 1 = fr from rfl]; omega))).trans ((fr2 v (by first | omega | (rw [show fr + 1 - 1 = fr from rfl]; omega))).trans ((fr1 v (by first | omega | (rw [show fr + 1 - 1 = fr from rfl]; omega))).trans hV))) (by omega) hflb) (Nat.le_refl _) (Nat.le_refl _) rfl (fun φ4 hR4 => ?_)
  obtain ⟨hMc9, hSt9, hf9⟩ := hR4
  exact q_ret rfl (⟨rfl, rfl, rfl, hMc9, hSt9, fun j h5 h6 => (hf9 j h5 h6).trans ((fr3 j h5).trans ((fr2 j h5).trans ((fr1 j h5).trans rfl)))⟩)
theorem e_close_none {d n sl : Nat} {φ : FH} {A B made sv svm st : Nat} {fP : Nat → XV} (hP : x_pop φ A B made sv svm st fP) (hSc : x_sch φ) {top fr pc_ sp mm mi : Nat} {fM : Nat → XV} (hMc : x_mcf φ top (fr + 1) pc_ sp mm mi fM) {st re rs fl : Nat → Nat} (hSt : x_vrow φ 456 4096 st) (hRe : x_irow φ 462 8 re) (hRs : x_irow φ 463 8 rs) (hFl : x_irow φ 464 8 fl) {v : Nat} {m : MV} (hv : x_mv φ v m) (hk : rs fr = 4294967293) (hf8 : fr < 8) (hflb : fl fr < 4096) : x_f x_P (d + 4) 199 [(6, 455, 0), (6, v, 0), (11, 0, 0), (11, 0, 0)] φ n sl (x_vR n sl (fun φ2 => x_mc φ2 (fl fr + 1) fr (re fr) sp mm mi ∧ x_vrow φ2 456 4096 (fun i => if i = fl fr then v else st i) ∧ ∀ j, j ≠ 455 → j ≠ 456 → φ2 j = φ j)) := by
  obtain ⟨fV, s1, l1, la1, h1, c1, hV, hg, hA⟩ := x_mv_g hv
  have ha := hv.2.1
  have hv486 := hv.1
  have hkk : ((0, rs (fr + 1 - 1), 0) : XV) = (0, 4294967293, 0) := by rw [show fr + 1 - 1 = fr from rfl, hk]
  refine x_f_of rfl ?_
  refine q_load (p2 := 1) rfl rfl rfl rfl ?_
  refine q_getv (p2 := 2) rfl hMc.1 (by decide) hMc.2.2.2.2.2.2.2.2.2.2.2.1 rfl ?_
  refine q_if0_s (p2 := 3) rfl (by decide) (by first | omega | (rw [show fr + 1 - 1 = fr from rfl]; omega)) rfl (fun hb => absurd hb (show ¬ (¬ (0 < (fr + 1))) by first | omega | (rw [show fr + 1 - 1 = fr from rfl]; omega))) (fun _ => ?_)
  refine q_load (p2 := 4) rfl rfl rfl rfl ?_
  refine q_getv (p2 := 5) rfl hMc.1 (by decide) hMc.2.2.2.2.2.2.2.2.2.2.2.2.2.1 rfl ?_
  refine q_load (p2 := 6) rfl rfl rfl rfl ?_
  refine q_getv (p2 := 7) rfl hMc.1 (by decide) hMc.2.2.2.2.2.2.2.2.2.2.2.1 rfl ?_
  refine q_const (p2 := 8) rfl rfl ?_
  refine q_isub (p2 := 9) rfl (by first | omega | (rw [show fr + 1 - 1 = fr from rfl]; omega)) (by first | omega | (rw [show fr + 1 - 1 = fr from rfl]; omega)) rfl ?_
  refine q_aldv (v := (0, 4294967293, 0)) (p2 := 10) rfl hRs (by first | omega | (rw [show fr + 1 - 1 = fr from rfl]; omega)) (by first | omega | (rw [show fr + 1 - 1 = fr from rfl]; omega)) hkk rfl ?_
  refine q_goto rfl ?_
  refine q_store (p2 := 13) rfl rfl rfl rfl rfl ?_
  refine q_load (p2 := 14) rfl rfl rfl rfl ?_
  refine q_if0 (p2 := 15) rfl (by decide) rfl (fun hb => absurd hb (show ¬ (¬ (2147483645 < 2147483648)) by decide)) (fun _ => ?_)
  refine q_load (p2 := 16) rfl rfl rfl rfl ?_
  refine q_goto rfl ?_
  refine q_store (p2 := 23) rfl rfl rfl rfl rfl ?_
  refine q_load (p2 := 24) rfl rfl rfl rfl ?_
  refine q_load (p2 := 25) rfl rfl rfl rfl ?_
  refine q_if0 (p2 := 26) rfl (by decide) rfl (fun _ => ?_) (fun hb => absurd (show 2147483645 < 2147483648 by decide) hb)
  refine q_load (p2 := 33) rfl rfl rfl rfl ?_
  refine q_goto rfl ?_
  refine q_callvE (xs := [(6, v, 0), (6, 455, 0)]) (p2 := 37) rfl rfl rfl rfl (x_rcv_s 455 hMc.1) rfl (e_endFrame hMc hSt hRe hFl hV hv486 hf8 hflb) (Nat.le_refl _) (Nat.le_refl _) rfl (fun φ1 hR1 => ?_)
  obtain ⟨hMc9, hSt9, hf9⟩ := hR1
  exact q_ret rfl (⟨rfl, rfl, rfl, hMc9, hSt9, hf9⟩)
theorem e_close_2 {d n sl : Nat} {φ : FH} {A B made sv svm st : Nat} {fP : Nat → XV} (hP : x_pop φ A B made sv svm st fP) (hSc : x_sch φ) {top fr pc_ sp mm mi : Nat} {fM : Nat → XV} (hMc : x_mcf φ top (fr + 1) pc_ sp mm mi fM) {st re rs fl : Nat → Nat} (hSt : x_vrow φ 456 4096 st) (hRe : x_irow φ 462 8 re) (hRs : x_irow φ 463 8 rs) (hFl : x_irow φ 464 8 fl) {v : Nat} {m : MV} (hv : x_mv φ v m) (hk : rs fr = 2) (h01 : m.1 ≤ 1) (hf8 : fr < 8) (hflb : fl fr < 4096) : x_f x_P (d + 4) 199 [(6, 455, 0), (6, v, 0), (11, 0, 0), (11, 0, 0)] φ n sl (x_vR n sl (fun φ2 => x_mc φ2 (fl fr + 1) fr (re fr) sp mm mi ∧ x_vrow φ2 456 4096 (fun i => if i = fl fr then v else st i) ∧ ∀ j, j ≠ 455 → j ≠ 456 → φ2 j = φ j)) := by
  obtain ⟨fV, s1, l1, la1, h1, c1, hV, hg, hA⟩ := x_mv_g hv
  have ha := hv.2.1
  have hv486 := hv.1
  have hkk : ((0, rs (fr + 1 - 1), 0) : XV) = (0, 2, 0) := by rw [show fr + 1 - 1 = fr from rfl, hk]
  refine x_f_of rfl ?_
  refine q_load (p2 := 1) rfl rfl rfl rfl ?_
  refine q_getv (p2 := 2) rfl hMc.1 (by decide) hMc.2.2.2.2.2.2.2.2.2.2.2.1 rfl ?_
  refine q_if0_s (p2 := 3) rfl (by decide) (by first | omega | (rw [show fr + 1 - 1 = fr from rfl]; omega)) rfl (fun hb => absurd hb (show ¬ (¬ (0 < (fr + 1))) by first | omega | (rw [show fr + 1 - 1 = fr from rfl]; omega))) (fun _ => ?_)
  refine q_load (p2 := 4) rfl rfl rfl rfl ?_
  refine q_getv (p2 := 5) rfl hMc.1 (by decide) hMc.2.2.2.2.2.2.2.2.2.2.2.2.2.1 rfl ?_
  refine q_load (p2 := 6) rfl rfl rfl rfl ?_
  refine q_getv (p2 := 7) rfl hMc.1 (by decide) hMc.2.2.2.2.2.2.2.2.2.2.2.1 rfl ?_
  refine q_const (p2 := 8) rfl rfl ?_
  refine q_isub (p2 := 9) rfl (by first | omega | (rw [show fr + 1 - 1 = fr from rfl]; omega)) (by first | omega | (rw [show fr + 1 - 1 = fr from rfl]; omega)) rfl ?_
  refine q_aldv (v := (0, 2, 0)) (p2 := 10) rfl hRs (by first | omega | (rw [show fr + 1 - 1 = fr from rfl]; omega)) (by first | omega | (rw [show fr + 1 - 1 = fr from rfl]; omega)) hkk rfl ?_
  refine q_goto rfl ?_
  refine q_store (p2 := 13) rfl rfl rfl rfl rfl ?_
  refine q_load (p2 := 14) rfl rfl rfl rfl ?_
  refine q_if0_s (p2 := 15) rfl (by decide) (by first | omega | (rw [show fr + 1 - 1 = fr from rfl]; omega)) rfl (fun _ => ?_) (fun hb => absurd (show ¬ (2 < 0) by first | omega | (rw [show fr + 1 - 1 = fr from rfl]; omega)) hb)
  refine q_load (p2 := 18) rfl rfl rfl rfl ?_
  refine q_getv (p2 := 19) rfl hMc.1 (by decide) hMc.2.1 rfl ?_
  refine q_load (p2 := 20) rfl rfl rfl rfl ?_
  refine q_load (p2 := 21) rfl rfl rfl rfl ?_
  refine q_callr (xs := [(0, 2, 0), (6, v, 0), (6, 7, 0)]) (p2 := 22) rfl rfl rfl rfl (x_rcv_s 7 hP.1) rfl (e_conv_2 hP hV hg hA ha hSc) (Nat.le_refl _) (Nat.le_refl _) rfl ?_
  refine q_store (p2 := 23) rfl rfl rfl rfl rfl ?_
  refine q_load (p2 := 24) rfl rfl rfl rfl ?_
  refine q_load (p2 := 25) rfl rfl rfl rfl ?_
  refine q_if0_s (p2 := 26) rfl (by decide) (by first | omega | (rw [show fr + 1 - 1 = fr from rfl]; omega)) rfl (fun hb => absurd hb (show ¬ (2 < 0) by first | omega | (rw [show fr + 1 - 1 = fr from rfl]; omega))) (fun _ => ?_)
  refine q_load (p2 := 27) rfl rfl rfl rfl ?_
  refine q_getv (p2 := 28) rfl hMc.1 (by decide) hMc.2.1 rfl ?_
  refine q_load (p2 := 29) rfl rfl rfl rfl ?_
  refine q_load (p2 := 30) rfl rfl rfl rfl ?_
  refine q_callr (xs := [(0, 2, 0), (6, v, 0), (6, 7, 0)]) (p2 := 31) rfl rfl rfl rfl (x_rcv_s 7 hP.1) rfl (e_fits_2 hP hV hg hA ha hSc h01) (Nat.le_refl _) (Nat.le_refl _) rfl ?_
  refine q_if0_s (p2 := 32) rfl (by decide) (by first | omega | (rw [show fr + 1 - 1 = fr from rfl]; omega)) rfl (fun hb => absurd hb (show ¬ (1 = 0) by first | omega | (rw [show fr + 1 - 1 = fr from rfl]; omega))) (fun _ => ?_)
  refine q_load (p2 := 33) rfl rfl rfl rfl ?_
  refine q_goto rfl ?_
  refine q_callvE (xs := [(6, v, 0), (6, 455, 0)]) (p2 := 37) rfl rfl rfl rfl (x_rcv_s 455 hMc.1) rfl (e_endFrame hMc hSt hRe hFl hV hv486 hf8 hflb) (Nat.le_refl _) (Nat.le_refl _) rfl (fun φ1 hR1 => ?_)
  obtain ⟨hMc9, hSt9, hf9⟩ := hR1
  exact q_ret rfl (⟨rfl, rfl, rfl, hMc9, hSt9, hf9⟩)
theorem e_close_6 {d n sl : Nat} {φ : FH} {A B made sv svm st : Nat} {fP : Nat → XV} (hP : x_pop φ A B made sv svm st fP) (hSc : x_sch φ) {top fr pc_ sp mm mi : Nat} {fM : Nat → XV} (hMc : x_mcf φ top (fr + 1) pc_ sp mm mi fM) {st re rs fl : Nat → Nat} (hSt : x_vrow φ 456 4096 st) (hRe : x_irow φ 462 8 re) (hRs : x_irow φ 463 8 rs) (hFl : x_irow φ 464 8 fl) {v : Nat} {m : MV} (hv : x_mv φ v m) (hk : rs fr = 6) (h01 : m.1 ≤ 1) (hf8 : fr < 8) (hflb : fl fr < 4096) : x_f x_P (d + 4) 199 [(6, 455, 0), (6, v, 0), (11, 0, 0), (11, 0, 0)] φ n sl (x_vR n sl (fun φ2 => x_mc φ2 (fl fr + 1) fr (re fr) sp mm mi ∧ x_vrow φ2 456 4096 (fun i => if i = fl fr then v else st i) ∧ ∀ j, j ≠ 455 → j ≠ 456 → φ2 j = φ j)) := by
  obtain ⟨fV, s1, l1, la1, h1, c1, hV, hg, hA⟩ := x_mv_g hv
  have ha := hv.2.1
  have hv486 := hv.1
  have hkk : ((0, rs (fr + 1 - 1), 0) : XV) = (0, 6, 0) := by rw [show fr + 1 - 1 = fr from rfl, hk]
  refine x_f_of rfl ?_
  refine q_load (p2 := 1) rfl rfl rfl rfl ?_
  refine q_getv (p2 := 2) rfl hMc.1 (by decide) hMc.2.2.2.2.2.2.2.2.2.2.2.1 rfl ?_
  refine q_if0_s (p2 := 3) rfl (by decide) (by first | omega | (rw [show fr + 1 - 1 = fr from rfl]; omega)) rfl (fun hb => absurd hb (show ¬ (¬ (0 < (fr + 1))) by first | omega | (rw [show fr + 1 - 1 = fr from rfl]; omega))) (fun _ => ?_)
  refine q_load (p2 := 4) rfl rfl rfl rfl ?_
  refine q_getv (p2 := 5) rfl hMc.1 (by decide) hMc.2.2.2.2.2.2.2.2.2.2.2.2.2.1 rfl ?_
  refine q_load (p2 := 6) rfl rfl rfl rfl ?_
  refine q_getv (p2 := 7) rfl hMc.1 (by decide) hMc.2.2.2.2.2.2.2.2.2.2.2.1 rfl ?_
  refine q_const (p2 := 8) rfl rfl ?_
  refine q_isub (p2 := 9) rfl (by first | omega | (rw [show fr + 1 - 1 = fr from rfl]; omega)) (by first | omega | (rw [show fr + 1 - 1 = fr from rfl]; omega)) rfl ?_
  refine q_aldv (v := (0, 6, 0)) (p2 := 10) rfl hRs (by first | omega | (rw [show fr + 1 - 1 = fr from rfl]; omega)) (by first | omega | (rw [show fr + 1 - 1 = fr from rfl]; omega)) hkk rfl ?_
  refine q_goto rfl ?_
  refine q_store (p2 := 13) rfl rfl rfl rfl rfl ?_
  refine q_load (p2 := 14) rfl rfl rfl rfl ?_
  refine q_if0_s (p2 := 15) rfl (by decide) (by first | omega | (rw [show fr + 1 - 1 = fr from rfl]; omega)) rfl (fun _ => ?_) (fun hb => absurd (show ¬ (6 < 0) by first | omega | (rw [show fr + 1 - 1 = fr from rfl]; omega)) hb)
  refine q_load (p2 := 18) rfl rfl rfl rfl ?_
  refine q_getv (p2 := 19) rfl hMc.1 (by decide) hMc.2.1 rfl ?_
  refine q_load (p2 := 20) rfl rfl rfl rfl ?_
  refine q_load (p2 := 21) rfl rfl rfl rfl ?_
  refine q_callr (xs := [(0, 6, 0), (6, v, 0), (6, 7, 0)]) (p2 := 22) rfl rfl rfl rfl (x_rcv_s 7 hP.1) rfl (e_conv_6 hP hV hg hA ha hSc) (Nat.le_refl _) (Nat.le_refl _) rfl ?_
  refine q_store (p2 := 23) rfl rfl rfl rfl rfl ?_
  refine q_load (p2 := 24) rfl rfl rfl rfl ?_
  refine q_load (p2 := 25) rfl rfl rfl rfl ?_
  refine q_if0_s (p2 := 26) rfl (by decide) (by first | omega | (rw [show fr + 1 - 1 = fr from rfl]; omega)) rfl (fun hb => absurd hb (show ¬ (6 < 0) by first | omega | (rw [show fr + 1 - 1 = fr from rfl]; omega))) (fun _ => ?_)
  refine q_load (p2 := 27) rfl rfl rfl rfl ?_
  refine q_getv (p2 := 28) rfl hMc.1 (by decide) hMc.2.1 rfl ?_
  refine q_load (p2 := 29) rfl rfl rfl rfl ?_
  refine q_load (p2 := 30) rfl rfl rfl rfl ?_
  refine q_callr (xs := [(0, 6, 0), (6, v, 0), (6, 7, 0)]) (p2 := 31) rfl rfl rfl rfl (x_rcv_s 7 hP.1) rfl (e_fits_6 hP hV hg hA ha hSc h01) (Nat.le_refl _) (Nat.le_refl _) rfl ?_
  refine q_if0_s (p2 := 32) rfl (by decide) (by first | omega | (rw [show fr + 1 - 1 = fr from rfl]; omega)) rfl (fun hb => absurd hb (show ¬ (1 = 0) by first | omega | (rw [show fr + 1 - 1 = fr from rfl]; omega))) (fun _ => ?_)
  refine q_load (p2 := 33) rfl rfl rfl rfl ?_
  refine q_goto rfl ?_
  refine q_callvE (xs := [(6, v, 0), (6, 455, 0)]) (p2 := 37) rfl rfl rfl rfl (x_rcv_s 455 hMc.1) rfl (e_endFrame hMc hSt hRe hFl hV hv486 hf8 hflb) (Nat.le_refl _) (Nat.le_refl _) rfl (fun φ1 hR1 => ?_)
  obtain ⟨hMc9, hSt9, hf9⟩ := hR1
  exact q_ret rfl (⟨rfl, rfl, rfl, hMc9, hSt9, hf9⟩)
end FPOP23
