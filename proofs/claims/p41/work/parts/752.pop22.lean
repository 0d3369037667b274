section FPOP22
/-- the Machine: its fields -/
def x_mcf (φ : FH) (top fr pc_ sp mm mi : Nat) (f : Nat → XV) : Prop := φ 455 = some (0, 6, 20, f) ∧ f 0 = (6, 7, 0) ∧ f 1 = (6, 466, 0) ∧ f 2 = (6, 225, 0) ∧ f 3 = (6, 456, 0) ∧ f 4 = (0, top, 0) ∧ f 5 = (6, 457, 0) ∧ f 6 = (6, 458, 0) ∧ f 7 = (6, 459, 0) ∧ f 8 = (6, 460, 0) ∧ f 9 = (6, 461, 0) ∧ f 10 = (0, fr, 0) ∧ f 11 = (6, 462, 0) ∧ f 12 = (6, 463, 0) ∧ f 13 = (6, 464, 0) ∧ f 14 = (6, 465, 0) ∧ f 15 = (0, pc_, 0) ∧ f 16 = (0, sp, 0) ∧ f 17 = (0, 1000, 0) ∧ f 18 = (0, mm, 0) ∧ f 19 = (0, mi, 0)
def x_mc (φ : FH) (top fr pc_ sp mm mi : Nat) : Prop := ∃ f, x_mcf φ top fr pc_ sp mm mi f
/-- a row of references to Values -/
def x_vrow (φ : FH) (c len : Nat) (st : Nat → Nat) : Prop := φ c = some (8, 0, len, fun i => (6, st i, 0))
/-- a row of numbers -/
def x_irow (φ : FH) (c len : Nat) (st : Nat → Nat) : Prop := φ c = some (1, 0, len, fun i => (0, st i, 0))
theorem x_vrow_at {φ φ1 : FH} {c len : Nat} {st : Nat → Nat} (h : x_vrow φ c len st) (e : φ1 c = φ c) : x_vrow φ1 c len st := Eq.trans e h
theorem x_irow_at {φ φ1 : FH} {c len : Nat} {st : Nat → Nat} (h : x_irow φ c len st) (e : φ1 c = φ c) : x_irow φ1 c len st := Eq.trans e h
theorem x_mc_at {φ φ1 : FH} {top fr pc_ sp mm mi : Nat} (h : x_mc φ top fr pc_ sp mm mi) (e : φ1 455 = φ 455) : x_mc φ1 top fr pc_ sp mm mi := h.imp (fun _ q => ⟨e.trans q.1, q.2⟩)
theorem x_vrow_upd {φ1 : FH} {c len j v : Nat} {st : Nat → Nat} {f1 : Nat → XV} (h : φ1 c = some (8, 0, len, f1)) (h1 : f1 j = (6, v, 0)) (h2 : ∀ i, i ≠ j → f1 i = (6, st i, 0)) : x_vrow φ1 c len (fun i => if i = j then v else st i) := by
  unfold x_vrow
  rw [h]
  congr 4
  funext i
  show f1 i = (6, if i = j then v else st i, 0)
  by_cases hi : i = j
  · rw [if_pos hi, hi, h1]
  · rw [h2 i hi, if_neg hi]
theorem x_irow_upd {φ1 : FH} {c len j v : Nat} {st : Nat → Nat} {f1 : Nat → XV} (h : φ1 c = some (1, 0, len, f1)) (h1 : f1 j = (0, v, 0)) (h2 : ∀ i, i ≠ j → f1 i = (0, st i, 0)) : x_irow φ1 c len (fun i => if i = j then v else st i) := by
  unfold x_irow
  rw [h]
  congr 4
  funext i
  show f1 i = (0, if i = j then v else st i, 0)
  by_cases hi : i = j
  · rw [if_pos hi, hi, h1]
  · rw [h2 i hi, if_neg hi]
theorem x_vrow_eq {φ : FH} {c len : Nat} {a b : Nat → Nat} (h : x_vrow φ c len a) (e : ∀ i, a i = b i) : x_vrow φ c len b := by
  rw [← funext e]
  exact h
theorem e_push {d n sl : Nat} {φ : FH} {top fr pc_ sp mm mi : Nat} {fM : Nat → XV} (hMc : x_mcf φ top fr pc_ sp mm mi fM) {st : Nat → Nat} (hSt : x_vrow φ 456 4096 st) {v : Nat} {fV : Nat → XV} (hV : φ v = some (0, 10, 7, fV)) (hv5 : v ≠ 455 ∧ v ≠ 456) (ht : top < 4096) : x_f x_P (d + 1) 180 [(6, 455, 0), (6, v, 0)] φ n sl (x_vR n sl (fun φ2 => x_mc φ2 (top + 1) fr pc_ sp mm mi ∧ x_vrow φ2 456 4096 (fun i => if i = top then v else st i) ∧ ∀ j, j ≠ 455 → j ≠ 456 → φ2 j = φ j)) := by
  refine x_f_of rfl ?_
  refine q_load (p2 := 1) rfl rfl rfl rfl ?_
  refine q_getv (p2 := 2) rfl hMc.1 (by decide) hMc.2.2.2.2.2.1 rfl ?_
  refine q_if0_s (p2 := 3) rfl (by decide) (by omega) rfl (fun hb => absurd hb (show ¬ (top < 0) by omega)) (fun _ => ?_)
  refine q_load (p2 := 4) rfl rfl rfl rfl ?_
  refine q_getv (p2 := 5) rfl hMc.1 (by decide) hMc.2.2.2.2.2.1 rfl ?_
  refine q_load (p2 := 6) rfl rfl rfl rfl ?_
  refine q_getv (p2 := 7) rfl hMc.1 (by decide) hMc.2.2.2.2.1 rfl ?_
  refine q_alen (p2 := 8) rfl hSt rfl (by omega) rfl ?_
  refine q_icmp_s (p2 := 9) rfl (by decide) (by omega) (by omega) rfl (fun hb => absurd hb (show ¬ (¬ (top < 4096)) by omega)) (fun _ => ?_)
  refine q_load (p2 := 10) rfl rfl rfl rfl ?_
  refine q_getv (p2 := 11) rfl hMc.1 (by decide) hMc.2.2.2.2.1 rfl ?_
  refine q_load (p2 := 12) rfl rfl rfl rfl ?_
  refine q_getv (p2 := 13) rfl hMc.1 (by decide) hMc.2.2.2.2.2.1 rfl ?_
  refine q_load (p2 := 14) rfl rfl rfl rfl ?_
  refine q_astE (p2 := 15) rfl hSt (by omega) (by omega) (x_ok_r hV rfl) (x_nv_same rfl (by decide)) rfl (fun φ1 f1 hh1 hg1 ho1 fr1 => ?_)
  refine q_load (p2 := 16) rfl rfl rfl rfl ?_
  refine q_dup (p2 := 17) rfl rfl rfl ?_
  refine q_getv (p2 := 18) rfl ((fr1 455 (by omega)).trans hMc.1) (by decide) hMc.2.2.2.2.2.1 rfl ?_
  refine q_const (p2 := 19) rfl rfl ?_
  refine q_iadd (p2 := 20) rfl (by omega) rfl ?_
  refine q_putfE (p2 := 21) rfl ((fr1 455 (by omega)).trans hMc.1) (by decide) rfl rfl (fun φ2 f2 hh2 hg2 ho2 fr2 => ?_)
  exact q_ret rfl (⟨rfl, rfl, rfl, ⟨_, hh2, ((ho2 0 (by decide)).trans hMc.2.1), ((ho2 1 (by decide)).trans hMc.2.2.1), ((ho2 2 (by decide)).trans hMc.2.2.2.1), ((ho2 3 (by decide)).trans hMc.2.2.2.2.1), hg2, ((ho2 5 (by decide)).trans hMc.2.2.2.2.2.2.1), ((ho2 6 (by decide)).trans hMc.2.2.2.2.2.2.2.1), ((ho2 7 (by decide)).trans hMc.2.2.2.2.2.2.2.2.1), ((ho2 8 (by decide)).trans hMc.2.2.2.2.2.2.2.2.2.1), ((ho2 9 (by decide)).trans hMc.2.2.2.2.2.2.2.2.2.2.1), ((ho2 10 (by decide)).trans hMc.2.2.2.2.2.2.2.2.2.2.2.1), ((ho2 11 (by decide)).trans hMc.2.2.2.2.2.2.2.2.2.2.2.2.1), ((ho2 12 (by decide)).trans hMc.2.2.2.2.2.2.2.2.2.2.2.2.2.1), ((ho2 13 (by decide)).trans hMc.2.2.2.2.2.2.2.2.2.2.2.2.2.2.1), ((ho2 14 (by decide)).trans hMc.2.2.2.2.2.2.2.2.2.2.2.2.2.2.2.1), ((ho2 15 (by decide)).trans hMc.2.2.2.2.2.2.2.2.2.2.2.2.2.2.2.2.1), ((ho2 16 (by decide)).trans hMc.2.2.2.2.2.2.2.2.2.2.2.2.2.2.2.2.2.1), ((ho2 17 (by decide)).trans hMc.2.2.2.2.2.2.2.2.2.2.2.2.2.2.2.2.2.2.1), ((ho2 18 (by decide)).trans hMc.2.2.2.2.2.2.2.2.2.2.2.2.2.2.2.2.2.2.2.1), ((ho2 19 (by decide)).trans hMc.2.2.2.2.2.2.2.2.2.2.2.2.2.2.2.2.2.2.2.2)⟩, x_vrow_upd ((fr2 456 (by omega)).trans hh1) hg1 ho1, fun j h5 h6 => ((fr2 j h5).trans ((fr1 j h6).trans rfl))⟩)
theorem e_pop {d n sl : Nat} {φ : FH} {top fr pc_ sp mm mi : Nat} {fM : Nat → XV} (hMc : x_mcf φ (top + 1) fr pc_ sp mm mi fM) {st : Nat → Nat} (hSt : x_vrow φ 456 4096 st) (ht : top < 4096) : x_f x_P (d + 1) 112 [(6, 455, 0)] φ n sl (x_rR (6, st top, 0) n sl (fun φ2 => x_mc φ2 top fr pc_ sp mm mi ∧ ∀ j, j ≠ 455 → φ2 j = φ j)) := by
  refine x_f_of rfl ?_
  refine q_load (p2 := 1) rfl rfl rfl rfl ?_
  refine q_dup (p2 := 2) rfl rfl rfl ?_
  refine q_getv (p2 := 3) rfl hMc.1 (by decide) hMc.2.2.2.2.2.1 rfl ?_
  refine q_load (p2 := 4) rfl rfl rfl rfl ?_
  refine q_getv (p2 := 5) rfl hMc.1 (by decide) hMc.2.2.2.2.2.1 rfl ?_
  refine q_if0_s (p2 := 6) rfl (by decide) (by omega) rfl (fun hb => absurd hb (show ¬ (¬ (0 < (top + 1))) by omega)) (fun _ => ?_)
  refine q_const (p2 := 7) rfl rfl ?_
  refine q_goto rfl ?_
  refine q_isub (p2 := 10) rfl (by omega) (by omega) rfl ?_
  refine q_putfE (p2 := 11) rfl hMc.1 (by decide) rfl rfl (fun φ1 f1 hh1 hg1 ho1 fr1 => ?_)
  refine q_load (p2 := 12) rfl rfl rfl rfl ?_
  refine q_getv (p2 := 13) rfl hh1 (by decide) hg1 rfl ?_
  refine q_load (p2 := 14) rfl rfl rfl rfl ?_
  refine q_getv (p2 := 15) rfl hh1 (by decide) ((ho1 3 (by decide)).trans hMc.2.2.2.2.1) rfl ?_
  refine q_alen (p2 := 16) rfl ((fr1 456 (by omega)).trans hSt) rfl (by omega) rfl ?_
  refine q_icmp_s (p2 := 17) rfl (by decide) (by omega) (by omega) rfl (fun hb => absurd hb (show ¬ (¬ (((top + 1) - 1) < 4096)) by omega)) (fun _ => ?_)
  refine q_load (p2 := 18) rfl rfl rfl rfl ?_
  refine q_getv (p2 := 19) rfl hh1 (by decide) ((ho1 3 (by decide)).trans hMc.2.2.2.2.1) rfl ?_
  refine q_load (p2 := 20) rfl rfl rfl rfl ?_
  refine q_getv (p2 := 21) rfl hh1 (by decide) hg1 rfl ?_
  refine q_aldv (v := (6, (st ((top + 1) - 1)), 0)) (p2 := 22) rfl ((fr1 456 (by omega)).trans hSt) (by omega) (by omega) rfl rfl ?_
  refine q_goto rfl ?_
  exact q_retv rfl rfl (⟨rfl, by rw [show top + 1 - 1 = top from rfl], rfl, rfl, ⟨_, hh1, ((ho1 0 (by decide)).trans hMc.2.1), ((ho1 1 (by decide)).trans hMc.2.2.1), ((ho1 2 (by decide)).trans hMc.2.2.2.1), ((ho1 3 (by decide)).trans hMc.2.2.2.2.1), hg1, ((ho1 5 (by decide)).trans hMc.2.2.2.2.2.2.1), ((ho1 6 (by decide)).trans hMc.2.2.2.2.2.2.2.1), ((ho1 7 (by decide)).trans hMc.2.2.2.2.2.2.2.2.1), ((ho1 8 (by decide)).trans hMc.2.2.2.2.2.2.2.2.2.1), ((ho1 9 (by decide)).trans hMc.2.2.2.2.2.2.2.2.2.2.1), ((ho1 10 (by decide)).trans hMc.2.2.2.2.2.2.2.2.2.2.2.1), ((ho1 11 (by decide)).trans hMc.2.2.2.2.2.2.2.2.2.2.2.2.1), ((ho1 12 (by decide)).trans hMc.2.2.2.2.2.2.2.2.2.2.2.2.2.1), ((ho1 13 (by decide)).trans hMc.2.2.2.2.2.2.2.2.2.2.2.2.2.2.1), ((ho1 14 (by decide)).trans hMc.2.2.2.2.2.2.2.2.2.2.2.2.2.2.2.1), ((ho1 15 (by decide)).trans hMc.2.2.2.2.2.2.2.2.2.2.2.2.2.2.2.2.1), ((ho1 16 (by decide)).trans hMc.2.2.2.2.2.2.2.2.2.2.2.2.2.2.2.2.2.1), ((ho1 17 (by decide)).trans hMc.2.2.2.2.2.2.2.2.2.2.2.2.2.2.2.2.2.2.1), ((ho1 18 (by decide)).trans hMc.2.2.2.2.2.2.2.2.2.2.2.2.2.2.2.2.2.2.2.1), ((ho1 19 (by decide)).trans hMc.2.2.2.2.2.2.2.2.2.2.2.2.2.2.2.2.2.2.2.2)⟩, fun j h5 => ((fr1 j h5).trans rfl)⟩)
theorem e_fetch {d n sl : Nat} {φ : FH} {A B made sv svm st : Nat} {fP : Nat → XV} (hP : x_pop φ A B made sv svm st fP) (hSc : x_sch φ) {top fr pc_ sp mm mi : Nat} {fM : Nat → XV} (hMc : x_mcf φ top fr pc_ sp mm mi fM) {co : Nat → Nat} (hCo : x_irow φ 450 12288 co) (hpc : pc_ < 12288) : x_f x_P (d + 1) 108 [(6, 455, 0), (11, 0, 0), (11, 0, 0)] φ n sl (x_rR (0, co pc_, 0) n sl (fun φ2 => x_mc φ2 top fr (pc_ + 1) sp mm mi ∧ ∀ j, j ≠ 455 → φ2 j = φ j)) := by
  obtain ⟨fS, hs237⟩ := hSc.1
  refine x_f_of rfl ?_
  refine q_load (p2 := 1) rfl rfl rfl rfl ?_
  refine q_getv (p2 := 2) rfl hMc.1 (by decide) hMc.2.1 rfl ?_
  refine q_getv (p2 := 3) rfl hP.1 (by decide) hP.2.1 rfl ?_
  refine q_getv (p2 := 4) rfl hs237.1 (by decide) hs237.2.2.2.2.2.2.2.2.2.2.2.2.2.1 rfl ?_
  refine q_store (p2 := 5) rfl rfl rfl rfl rfl ?_
  refine q_load (p2 := 6) rfl rfl rfl rfl ?_
  refine q_getv (p2 := 7) rfl hMc.1 (by decide) hMc.2.2.2.2.2.2.2.2.2.2.2.2.2.2.2.2.1 rfl ?_
  refine q_if0_s (p2 := 8) rfl (by decide) (by omega) rfl (fun hb => absurd hb (show ¬ (pc_ < 0) by omega)) (fun _ => ?_)
  refine q_load (p2 := 9) rfl rfl rfl rfl ?_
  refine q_getv (p2 := 10) rfl hMc.1 (by decide) hMc.2.2.2.2.2.2.2.2.2.2.2.2.2.2.2.2.1 rfl ?_
  refine q_load (p2 := 11) rfl rfl rfl rfl ?_
  refine q_alen (p2 := 12) rfl hCo rfl (by omega) rfl ?_
  refine q_icmp_s (p2 := 13) rfl (by decide) (by omega) (by omega) rfl (fun hb => absurd hb (show ¬ (¬ (pc_ < 12288)) by omega)) (fun _ => ?_)
  refine q_load (p2 := 14) rfl rfl rfl rfl ?_
  refine q_load (p2 := 15) rfl rfl rfl rfl ?_
  refine q_getv (p2 := 16) rfl hMc.1 (by decide) hMc.2.2.2.2.2.2.2.2.2.2.2.2.2.2.2.2.1 rfl ?_
  refine q_aldv (v := (0, (co pc_), 0)) (p2 := 17) rfl hCo (by omega) (by omega) rfl rfl ?_
  refine q_goto rfl ?_
  refine q_store (p2 := 20) rfl rfl rfl rfl rfl ?_
  refine q_load (p2 := 21) rfl rfl rfl rfl ?_
  refine q_dup (p2 := 22) rfl rfl rfl ?_
  refine q_getv (p2 := 23) rfl hMc.1 (by decide) hMc.2.2.2.2.2.2.2.2.2.2.2.2.2.2.2.2.1 rfl ?_
  refine q_const (p2 := 24) rfl rfl ?_
  refine q_iadd (p2 := 25) rfl (by omega) rfl ?_
  refine q_putfE (p2 := 26) rfl hMc.1 (by decide) rfl rfl (fun φ1 f1 hh1 hg1 ho1 fr1 => ?_)
  refine q_load (p2 := 27) rfl rfl rfl rfl ?_
  exact q_retv rfl rfl (⟨rfl, rfl, rfl, rfl, ⟨_, hh1, ((ho1 0 (by decide)).trans hMc.2.1), ((ho1 1 (by decide)).trans hMc.2.2.1), ((ho1 2 (by decide)).trans hMc.2.2.2.1), ((ho1 3 (by decide)).trans hMc.2.2.2.2.1), ((ho1 4 (by decide)).trans hMc.2.2.2.2.2.1), ((ho1 5 (by decide)).trans hMc.2.2.2.2.2.2.1), ((ho1 6 (by decide)).trans hMc.2.2.2.2.2.2.2.1), ((ho1 7 (by decide)).trans hMc.2.2.2.2.2.2.2.2.1), ((ho1 8 (by decide)).trans hMc.2.2.2.2.2.2.2.2.2.1), ((ho1 9 (by decide)).trans hMc.2.2.2.2.2.2.2.2.2.2.1), ((ho1 10 (by decide)).trans hMc.2.2.2.2.2.2.2.2.2.2.2.1), ((ho1 11 (by decide)).trans hMc.2.2.2.2.2.2.2.2.2.2.2.2.1), ((ho1 12 (by decide)).trans hMc.2.2.2.2.2.2.2.2.2.2.2.2.2.1), ((ho1 13 (by decide)).trans hMc.2.2.2.2.2.2.2.2.2.2.2.2.2.2.1), ((ho1 14 (by decide)).trans hMc.2.2.2.2.2.2.2.2.2.2.2.2.2.2.2.1), hg1, ((ho1 16 (by decide)).trans hMc.2.2.2.2.2.2.2.2.2.2.2.2.2.2.2.2.2.1), ((ho1 17 (by decide)).trans hMc.2.2.2.2.2.2.2.2.2.2.2.2.2.2.2.2.2.2.1), ((ho1 18 (by decide)).trans hMc.2.2.2.2.2.2.2.2.2.2.2.2.2.2.2.2.2.2.2.1), ((ho1 19 (by decide)).trans hMc.2.2.2.2.2.2.2.2.2.2.2.2.2.2.2.2.2.2.2.2)⟩, fun j h5 => ((fr1 j h5).trans rfl)⟩)
theorem e_step {d n sl : Nat} {φ : FH} {top fr pc_ sp mm mi : Nat} {fM : Nat → XV} (hMc : x_mcf φ top fr pc_ sp mm mi fM) {c : Nat} (hc1 : mm + c ≤ 1000) (hc2 : mi + c ≤ 20000) : x_f x_P (d + 1) 179 [(6, 455, 0), (0, c, 0), (11, 0, 0)] φ n sl (x_vR n sl (fun φ2 => x_mc φ2 top fr pc_ 0 (mm + c) (mi + c) ∧ ∀ j, j ≠ 455 → φ2 j = φ j)) := by
  refine x_f_of rfl ?_
  refine q_load (p2 := 1) rfl rfl rfl rfl ?_
  refine q_getv (p2 := 2) rfl hMc.1 (by decide) hMc.2.2.2.2.2.2.2.2.2.2.2.2.2.2.2.2.2.2.1 rfl ?_
  refine q_load (p2 := 3) rfl rfl rfl rfl ?_
  refine q_getv (p2 := 4) rfl hMc.1 (by decide) hMc.2.2.2.2.2.2.2.2.2.2.2.2.2.2.2.2.2.2.2.1 rfl ?_
  refine q_isub (p2 := 5) rfl (by omega) (by omega) rfl ?_
  refine q_const (p2 := 6) rfl rfl ?_
  refine q_load (p2 := 7) rfl rfl rfl rfl ?_
  refine q_getv (p2 := 8) rfl hMc.1 (by decide) hMc.2.2.2.2.2.2.2.2.2.2.2.2.2.2.2.2.2.2.2.2 rfl ?_
  refine q_isub (p2 := 9) rfl (by omega) (by omega) rfl ?_
  by_cases hm9 : (20000 - mi) ≤ (1000 - mm)
  · refine q_min_t (p2 := 10) rfl rfl (by omega) (by omega) rfl ?_
    refine q_store (p2 := 11) rfl rfl rfl rfl rfl ?_
    refine q_load (p2 := 12) rfl rfl rfl rfl ?_
    refine q_load (p2 := 13) rfl rfl rfl rfl ?_
    refine q_load (p2 := 14) rfl rfl rfl rfl ?_
    refine q_icmp_s (p2 := 15) rfl (by decide) (by omega) (by omega) rfl (fun _ => ?_) (fun hb => absurd (show ¬ ((20000 - mi) < c) by omega) hb)
    refine q_const (p2 := 18) rfl rfl ?_
    refine q_putfE (p2 := 19) rfl hMc.1 (by decide) rfl rfl (fun φ1 f1 hh1 hg1 ho1 fr1 => ?_)
    refine q_load (p2 := 20) rfl rfl rfl rfl ?_
    refine q_dup (p2 := 21) rfl rfl rfl ?_
    refine q_getv (p2 := 22) rfl hh1 (by decide) ((ho1 18 (by decide)).trans hMc.2.2.2.2.2.2.2.2.2.2.2.2.2.2.2.2.2.2.2.1) rfl ?_
    refine q_load (p2 := 23) rfl rfl rfl rfl ?_
    refine q_getv (p2 := 24) rfl hh1 (by decide) hg1 rfl ?_
    refine q_if0_s (p2 := 25) rfl (by decide) (by omega) rfl (fun _ => ?_) (fun hb => absurd (show 0 = 0 by omega) hb)
    refine q_load (p2 := 28) rfl rfl rfl rfl ?_
    refine q_iadd (p2 := 29) rfl (by omega) rfl ?_
    refine q_putfE (p2 := 30) rfl hh1 (by decide) rfl rfl (fun φ2 f2 hh2 hg2 ho2 fr2 => ?_)
    refine q_load (p2 := 31) rfl rfl rfl rfl ?_
    refine q_dup (p2 := 32) rfl rfl rfl ?_
    refine q_getv (p2 := 33) rfl hh2 (by decide) ((ho2 19 (by decide)).trans ((ho1 19 (by decide)).trans hMc.2.2.2.2.2.2.2.2.2.2.2.2.2.2.2.2.2.2.2.2)) rfl ?_
    refine q_load (p2 := 34) rfl rfl rfl rfl ?_
    refine q_getv (p2 := 35) rfl hh2 (by decide) ((ho2 16 (by decide)).trans hg1) rfl ?_
    refine q_if0_s (p2 := 36) rfl (by decide) (by omega) rfl (fun _ => ?_) (fun hb => absurd (show 0 = 0 by omega) hb)
    refine q_load (p2 := 39) rfl rfl rfl rfl ?_
    refine q_iadd (p2 := 40) rfl (by omega) rfl ?_
    refine q_putfE (p2 := 41) rfl hh2 (by decide) rfl rfl (fun φ3 f3 hh3 hg3 ho3 fr3 => ?_)
    exact q_ret rfl (⟨rfl, rfl, rfl, ⟨_, hh3, ((ho3 0 (by decide)).trans ((ho2 0 (by decide)).trans ((ho1 0 (by decide)).trans hMc.2.1))), ((ho3 1 (by decide)).trans ((ho2 1 (by decide)).trans ((ho1 1 (by decide)).trans hMc.2.2.1))), ((ho3 2 (by decide)).trans ((ho2 2 (by decide)).trans ((ho1 2 (by decide)).trans hMc.2.2.2.1))), ((ho3 3 (by decide)).trans ((ho2 3 (by decide)).trans ((ho1 3 (by decide)).trans hMc.2.2.2.2.1))), ((ho3 4 (by decide)).trans ((ho2 4 (by decide)).trans ((ho1 4 (by decide)).trans hMc.2.2.2.2.2.1))), ((ho3 5 (by decide)).trans ((ho2 5 (by decide)).trans ((ho1 5 (by decide)).trans hMc.2.2.2.2.2.2.1))), ((ho3 6 (by decide)).trans ((ho2 6 (by decide)).trans ((ho1 6 (by decide)).trans hMc.2.2.2.2.2.2.2.1))), ((ho3 7 (by decide)).trans ((ho2 7 (by decide)).trans ((ho1 7 (by decide)).trans hMc.2.2.2.2.2.2.2.2.1))), ((ho3 8 (by decide)).trans ((ho2 8 (by decide)).trans ((ho1 8 (by decide)).trans hMc.2.2.2.2.2.2.2.2.2.1))), ((ho3 9 (by decide)).trans ((ho2 9 (by decide)).trans ((ho1 9 (by decide)).trans hMc.2.2.2.2.2.2.2.2.2.2.1))), ((ho3 10 (by decide)).trans ((ho2 10 (by decide)).trans ((ho1 10 (by decide)).trans hMc.2.2.2.2.2.2.2.2.2.2.2.1))), ((ho3 11 (by decide)).trans ((ho2 11 (by decide)).trans ((ho1 11 (by decide)).trans hMc.2.2.2.2.2.2.2.2.2.2.2.2.1))), ((ho3 12 (by decide)).trans ((ho2 12 (by decide)).trans ((ho1 12 (by decide)).trans hMc.2.2.2.2.2.2.2.2.2.2.2.2.2.1))), ((ho3 13 (by decide)).trans ((ho2 13 (by decide)).trans ((ho1 13 (by decide)).trans hMc.2.2.2.2.2.2.2.2.2.2.2.2.2.2.1))), ((ho3 14 (by decide)).trans ((ho2 14 (by decide)).trans ((ho1 14 (by decide)).trans hMc.2.2.2.2.2.2.2.2.2.2.2.2.2.2.2.1))), ((ho3 15 (by decide)).trans ((ho2 15 (by decide)).trans ((ho1 15 (by decide)).trans hMc.2.2.2.2.2.2.2.2.2.2.2.2.2.2.2.2.1))), ((ho3 16 (by decide)).trans ((ho2 16 (by decide)).trans hg1)), ((ho3 17 (by decide)).trans ((ho2 17 (by decide)).trans ((ho1 17 (by decide)).trans hMc.2.2.2.2.2.2.2.2.2.2.2.2.2.2.2.2.2.2.1))), ((ho3 18 (by decide)).trans hg2), hg3⟩, fun j h5 => ((fr3 j h5).trans ((fr2 j h5).trans ((fr1 j h5).trans rfl)))⟩)
  · refine q_min_b (p2 := 10) rfl rfl (by omega) (by omega) rfl ?_
    refine q_store (p2 := 11) rfl rfl rfl rfl rfl ?_
    refine q_load (p2 := 12) rfl rfl rfl rfl ?_
    refine q_load (p2 := 13) rfl rfl rfl rfl ?_
    refine q_load (p2 := 14) rfl rfl rfl rfl ?_
    refine q_icmp_s (p2 := 15) rfl (by decide) (by omega) (by omega) rfl (fun _ => ?_) (fun hb => absurd (show ¬ ((1000 - mm) < c) by omega) hb)
    refine q_const (p2 := 18) rfl rfl ?_
    refine q_putfE (p2 := 19) rfl hMc.1 (by decide) rfl rfl (fun φ4 f4 hh4 hg4 ho4 fr4 => ?_)
    refine q_load (p2 := 20) rfl rfl rfl rfl ?_
    refine q_dup (p2 := 21) rfl rfl rfl ?_
    refine q_getv (p2 := 22) rfl hh4 (by decide) ((ho4 18 (by decide)).trans hMc.2.2.2.2.2.2.2.2.2.2.2.2.2.2.2.2.2.2.2.1) rfl ?_
    refine q_load (p2 := 23) rfl rfl rfl rfl ?_
    refine q_getv (p2 := 24) rfl hh4 (by decide) hg4 rfl ?_
    refine q_if0_s (p2 := 25) rfl (by decide) (by omega) rfl (fun _ => ?_) (fun hb => absurd (show 0 = 0 by omega) hb)
    refine q_load (p2 := 28) rfl rfl rfl rfl ?_
    refine q_iadd (p2 := 29) rfl (by omega) rfl ?_
    refine q_putfE (p2 := 30) rfl hh4 (by decide) rfl rfl (fun φ5 f5 hh5 hg5 ho5 fr5 => ?_)
    refine q_load (p2 := 31) rfl rfl rfl rfl ?_
    refine q_dup (p2 := 32) rfl rfl rfl ?_
    refine q_getv (p2 := 33) rfl hh5 (by decide) ((ho5 19 (by decide)).trans ((ho4 19 (by decide)).trans hMc.2.2.2.2.2.2.2.2.2.2.2.2.2.2.2.2.2.2.2.2)) rfl ?_
    refine q_load (p2 := 34) rfl rfl rfl rfl ?_
    refine q_getv (p2 := 35) rfl hh5 (by decide) ((ho5 16 (by decide)).trans hg4) rfl ?_
    refine q_if0_s (p2 := 36) rfl (by decide) (by omega) rfl (fun _ => ?_) (fun hb => absurd (show 0 = 0 by omega) hb)
    refine q_load (p2 := 39) rfl rfl rfl rfl ?_
    refine q_iadd (p2 := 40) rfl (by omega) rfl ?_
    refine q_putfE (p2 := 41) rfl hh5 (by decide) rfl rfl (fun φ6 f6 hh6 hg6 ho6 fr6 => ?_)
    exact q_ret rfl (⟨rfl, rfl, rfl, ⟨_, hh6, ((ho6 0 (by decide)).trans ((ho5 0 (by decide)).trans ((ho4 0 (by decide)).trans hMc.2.1))), ((ho6 1 (by decide)).trans ((ho5 1 (by decide)).trans ((ho4 1 (by decide)).trans hMc.2.2.1))), ((ho6 2 (by decide)).trans ((ho5 2 (by decide)).trans ((ho4 2 (by decide)).trans hMc.2.2.2.1))), ((ho6 3 (by decide)).trans ((ho5 3 (by decide)).trans ((ho4 3 (by decide)).trans hMc.2.2.2.2.1))), ((ho6 4 (by decide)).trans ((ho5 4 (by decide)).trans ((ho4 4 (by decide)).trans hMc.2.2.2.2.2.1))), ((ho6 5 (by decide)).trans ((ho5 5 (by decide)).trans ((ho4 5 (by decide)).trans hMc.2.2.2.2.2.2.1))), ((ho6 6 (by decide)).trans ((ho5 6 (by decide)).trans ((ho4 6 (by decide)).trans hMc.2.2.2.2.2.2.2.1))), ((ho6 7 (by decide)).trans ((ho5 7 (by decide)).trans ((ho4 7 (by decide)).trans hMc.2.2.2.2.2.2.2.2.1))), ((ho6 8 (by decide)).trans ((ho5 8 (by decide)).trans ((ho4 8 (by decide)).trans hMc.2.2.2.2.2.2.2.2.2.1))), ((ho6 9 (by decide)).trans ((ho5 9 (by decide)).trans ((ho4 9 (by decide)).trans hMc.2.2.2.2.2.2.2.2.2.2.1))), ((ho6 10 (by decide)).trans ((ho5 10 (by decide)).trans ((ho4 10 (by decide)).trans hMc.2.2.2.2.2.2.2.2.2.2.2.1))), ((ho6 11 (by decide)).trans ((ho5 11 (by decide)).trans ((ho4 11 (by decide)).trans hMc.2.2.2.2.2.2.2.2.2.2.2.2.1))), ((ho6 12 (by decide)).trans ((ho5 12 (by decide)).trans ((ho4 12 (by decide)).trans hMc.2.2.2.2.2.2.2.2.2.2.2.2.2.1))), ((ho6 13 (by decide)).trans ((ho5 13 (by decide)).trans ((ho4 13 (by decide)).trans hMc.2.2.2.2.2.2.2.2.2.2.2.2.2.2.1))), ((ho6 14 (by decide)).trans ((ho5 14 (by decide)).trans ((ho4 14 (by decide)).trans hMc.2.2.2.2.2.2.2.2.2.2.2.2.2.2.2.1))), ((ho6 15 (by decide)).trans ((ho5 15 (by decide)).trans ((ho4 15 (by decide)).trans hMc.2.2.2.2.2.2.2.2.2.2.2.2.2.2.2.2.1))), ((ho6 16 (by decide)).trans ((ho5 16 (by decide)).trans hg4)), ((ho6 17 (by decide)).trans ((ho5 17 (by decide)).trans ((ho4 17 (by decide)).trans hMc.2.2.2.2.2.2.2.2.2.2.2.2.2.2.2.2.2.2.1))), ((ho6 18 (by decide)).trans hg5), hg6⟩, fun j h5 => ((fr6 j h5).trans ((fr5 j h5).trans ((fr4 j h5).trans rfl)))⟩)
end FPOP22
