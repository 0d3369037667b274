section FPOP68
/-- what judge has noted behind the instances below p; q: who is told -/
def JI (q : Nat → Prop) [DecidablePred q] (p noted verd : Nat) (ins ver : Nat → Nat) : Prop :=
  noted = (x_fl q p).length ∧ (noted = 0 → verd = 1) ∧ (noted ≠ 0 → verd = 0 ∧ ins 0 = (x_fl q p).getD 0 0 ∧ ver 0 = 0)
theorem JI_0 {q : Nat → Prop} [DecidablePred q] {ins ver : Nat → Nat} : JI q 0 0 1 ins ver := ⟨rfl, fun _ => rfl, fun h => absurd rfl h⟩
theorem JI_out {q : Nat → Prop} [DecidablePred q] {p noted verd : Nat} {ins ver : Nat → Nat} (h : JI q p noted verd ins ver) (hq : ¬ q p) : JI q (p + 1) noted verd ins ver := by
  unfold JI
  rw [x_fl_out hq]; exact h
theorem JI_in {q : Nat → Prop} [DecidablePred q] {p noted verd : Nat} {ins ver : Nat → Nat} (h : JI q p noted verd ins ver) (hq : q p) : JI q (p + 1) (noted + 1) 0 (x_s ins noted p) (x_s ver noted 0) := by
  obtain ⟨h1, h2, h3⟩ := h
  refine ⟨?_, fun z => absurd z (by omega), fun _ => ⟨rfl, ?_, ?_⟩⟩
  · rw [x_fl_in hq, List.length_append, ← h1]; rfl
  · rw [x_fl_in hq]
    by_cases hz : noted = 0
    · subst hz
      have : x_fl q p = [] := List.length_eq_zero_iff.mp h1.symm
      rw [this]; rfl
    · rw [x_s_ne (fun z => hz z.symm), (h3 hz).2.1]
      have hl : 0 < (x_fl q p).length := by omega
      rw [List.getD_eq_getElem?_getD, List.getD_eq_getElem?_getD, List.getElem?_append_left hl]
  · by_cases hz : noted = 0
    · subst hz; rfl
    · rw [x_s_ne (fun z => hz z.symm)]; exact (h3 hz).2.2
theorem JI_le {q : Nat → Prop} [DecidablePred q] {p noted verd : Nat} {ins ver : Nat → Nat} (h : JI q p noted verd ins ver) : noted ≤ p := by rw [h.1]; exact x_fl_le
theorem JI_cases {q : Nat → Prop} [DecidablePred q] {p noted verd : Nat} {ins ver : Nat → Nat} (h : JI q p noted verd ins ver) : (noted = 0 ∧ verd = 1) ∨ (noted ≠ 0 ∧ verd = 0) := by
  by_cases hz : noted = 0
  · exact Or.inl ⟨hz, h.2.1 hz⟩
  · exact Or.inr ⟨hz, (h.2.2 hz).1⟩
/-- nobody is told -/
def qF : Nat → Prop := fun _ => False
noncomputable def qFd : DecidablePred qF := fun _ => isFalse (fun z => z)
/-- what instances hold -/
def zI0 (hm : Nat → MV) (x : Nat) : Prop := (hm (x * 40 + 0) = MV0 ∨ ∃ k, k < 1024 ∧ hm (x * 40 + 0) = (1, k, 0, 0, []))
def zI1 (hm : Nat → MV) (x : Nat) : Prop := (hm (x * 40 + 1) = MV0 ∨ ∃ L : List Nat, L.length ≤ 2 ∧ (∀ y, y ∈ L → y < 8) ∧ hm (x * 40 + 1) = (6, 0, 3, 5, L))
def zI3 (hm : Nat → MV) (x : Nat) : Prop := (hm (x * 40 + 3) = MV0 ∨ ∃ y, y < 8 ∧ hm (x * 40 + 3) = (5, y, 0, 0, []))
theorem zc_jb0 {d n sl : Nat} {φ : FH} {A : Nat} {B : Nat} {made : Nat} {sv : Nat} {svm : Nat} {s9 : Nat} {comb : Nat → Nat} {hm : Nat → MV} {noted : Nat} {verd : Nat} {ins : Nat → Nat} {ver : Nat → Nat} {x : Nat} (hPS : x_PS φ A B made sv svm s9 comb hm) (hS : x_sch φ) (hJ : zq_J φ noted verd ins ver) (hn0 : 486 ≤ n) (hx : x < 40) (h0 : zI0 hm x) (h1 : zI1 hm x) : x_f x_P (d + 4) 121 [(6, 468, 0), (0, x, 0), (0, 0, 0), (11, 0, 0), (11, 0, 0), (11, 0, 0)] φ n sl (x_r φ n sl (0, 1, 0)) := by
  rcases h0 with h0 | ⟨ka, -, h0⟩ <;> rcases h1 with h1 | ⟨L, hL, -, h1⟩
  · exact zc_jb0_00 (d := d + 2) hPS hS hJ hn0 hx h0 h1
  · exact zc_jb0_06 hPS hS hJ hn0 hx h0 h1 hL
  · exact zc_jb0_10 (d := d + 2) hPS hS hJ hn0 hx h0 h1
  · exact zc_jb0_16 hPS hS hJ hn0 hx h0 h1 hL
theorem zc_jb1 {d n sl : Nat} {φ : FH} {A : Nat} {B : Nat} {made : Nat} {sv : Nat} {svm : Nat} {s9 : Nat} {comb : Nat → Nat} {hm : Nat → MV} {noted : Nat} {verd : Nat} {ins : Nat → Nat} {ver : Nat → Nat} {x : Nat} (hPS : x_PS φ A B made sv svm s9 comb hm) (hS : x_sch φ) (hJ : zq_J φ noted verd ins ver) (hn0 : 486 ≤ n) (hx : x < 40) (h3 : zI3 hm x) : x_f x_P (d + 2) 121 [(6, 468, 0), (0, x, 0), (0, 1, 0), (11, 0, 0), (11, 0, 0), (11, 0, 0)] φ n sl (x_r φ n sl (0, 1, 0)) := by
  rcases h3 with h3 | ⟨ka, -, h3⟩
  · exact zc_jb1_0 hPS hS hJ hn0 hx h3
  · exact zc_jb1_5 hPS hS hJ hn0 hx h3
theorem zc_jb2 {d n sl : Nat} {φ : FH} {A : Nat} {B : Nat} {made : Nat} {sv : Nat} {svm : Nat} {s9 : Nat} {comb : Nat → Nat} {hm : Nat → MV} {noted : Nat} {verd : Nat} {ins : Nat → Nat} {ver : Nat → Nat} {x : Nat} (hPS : x_PS φ A B made sv svm s9 comb hm) (hS : x_sch φ) (hJ : zq_J φ noted verd ins ver) (hn0 : 486 ≤ n) (hx : x < 40) : x_f x_P (d + 4) 121 [(6, 468, 0), (0, x, 0), (0, 2, 0), (11, 0, 0), (11, 0, 0), (11, 0, 0)] φ n sl (x_r φ n sl (0, if (x_fl (fun y => comb y ≠ 0 ∧ x_ho (hm (y * 40 + 3)) x) made).length ≤ 1 then 1 else 0, 0)) := by
  by_cases hcu : (x_fl (fun y => comb y ≠ 0 ∧ x_ho (hm (y * 40 + 3)) x) made).length ≤ 1
  · rw [if_pos hcu]; exact zc_jb2_y hPS hS hJ hn0 hx hcu
  · rw [if_neg hcu]; exact zc_jb2_n hPS hS hJ hn0 hx hcu (Nat.lt_of_le_of_lt x_fl_le (by have := x_PS_lt hPS; omega))
theorem zc_iu_loop0 {d n sl : Nat} {φ : FH} {A : Nat} {B : Nat} {made : Nat} {sv : Nat} {svm : Nat} {s9 : Nat} {comb : Nat → Nat} {hm : Nat → MV} {noted : Nat} {verd : Nat} {ins : Nat → Nat} {ver : Nat → Nat} {x : Nat} (hPS : x_PS φ A B made sv svm s9 comb hm) (hS : x_sch φ) (hJ : zq_J φ noted verd ins ver) (hn0 : 486 ≤ n) (hx : x < 40) (k : Nat) : ∀ (y : Nat) (q4 : XV), y + k = x → x_n x_P d xc_123 2 [] [(6, 468, 0), (0, x, 0), (0, 0, 0), (0, y, 0), q4] φ n sl (x_r φ n sl (0, 1, 0)) := by
  induction k with
  | zero =>
    intro y q4 hk
    refine q_load (v := (0, y, 0)) (p2 := 3) rfl rfl rfl rfl ?_
    refine q_load (v := (0, x, 0)) (p2 := 4) rfl rfl rfl rfl ?_
    refine q_icmp_s (p2 := 5) rfl (by decide) (by omega) (by omega) rfl (fun _ => ?_) (fun hb => absurd (show ¬ (y < x) by omega) hb)
    refine q_const (p2 := 45) rfl rfl ?_
    exact q_retv (v := (0, 1, 0)) rfl rfl (⟨rfl, rfl, rfl, rfl, rfl⟩)
  | succ k ih =>
    intro y q4 hk
    refine q_load (v := (0, y, 0)) (p2 := 3) rfl rfl rfl rfl ?_
    refine q_load (v := (0, x, 0)) (p2 := 4) rfl rfl rfl rfl ?_
    refine q_icmp_s (p2 := 5) rfl (by decide) (by omega) (by omega) rfl (fun hb => absurd hb (show ¬ (¬ (y < x)) by omega)) (fun _ => ?_)
    refine q_const (p2 := 6) rfl rfl ?_
    refine q_store (loc2 := [(6, 468, 0), (0, x, 0), (0, 0, 0), (0, y, 0), (0, 0, 0)]) (p2 := 7) rfl rfl rfl rfl rfl ?_
    refine q_load (v := (0, 0, 0)) (p2 := 8) rfl rfl rfl rfl ?_
    refine q_load (v := (6, 468, 0)) (p2 := 9) rfl rfl rfl rfl ?_
    refine q_getv (v := (6, 7, 0)) (p2 := 10) rfl hJ.1 (by decide) rfl rfl ?_
    refine q_getv (v := (6, 237, 0)) (p2 := 11) rfl hPS.1.choose_spec.1 (by decide) hPS.1.choose_spec.2.1 rfl ?_
    refine q_getv (v := (6, 257, 0)) (p2 := 12) rfl hS.1.choose_spec.1 (by decide) hS.1.choose_spec.2.2.2.2.2.2.1 rfl ?_
    refine q_load (v := (0, 0, 0)) (p2 := 13) rfl rfl rfl rfl ?_
    refine q_aldv (v := (6, 258, 0)) (p2 := 14) rfl (x_sc_257 hS) (by omega) (by omega) rfl rfl ?_
    refine q_const (p2 := 15) rfl rfl ?_
    refine q_aldv (v := (0, 0, 0)) (p2 := 16) rfl (x_sc_258 hS) (by omega) (by omega) rfl rfl ?_
    refine q_icmp_s (p2 := 17) rfl (by decide) (by omega) (by omega) rfl (fun _ => ?_) (fun hb => absurd (show ¬ (0 < 0) by omega) hb)
    refine q_iinc (z := y + 1) (loc2 := [(6, 468, 0), (0, x, 0), (0, 0, 0), (0, y + 1, 0), (0, 0, 0)]) (p2 := 43) rfl rfl (Nat.mod_eq_of_lt (by omega)) rfl rfl ?_
    refine q_goto rfl ?_
    exact ih (y + 1) _ (by omega)
theorem zc_iu0 {d n sl : Nat} {φ : FH} {A : Nat} {B : Nat} {made : Nat} {sv : Nat} {svm : Nat} {s9 : Nat} {comb : Nat → Nat} {hm : Nat → MV} {noted : Nat} {verd : Nat} {ins : Nat → Nat} {ver : Nat → Nat} {x : Nat} (hPS : x_PS φ A B made sv svm s9 comb hm) (hS : x_sch φ) (hJ : zq_J φ noted verd ins ver) (hn0 : 486 ≤ n) (hx : x < 40) : x_f x_P (d + 1) 123 [(6, 468, 0), (0, x, 0), (0, 0, 0), (11, 0, 0), (11, 0, 0)] φ n sl (x_r φ n sl (0, 1, 0)) := by
  refine x_f_of rfl ?_
  refine q_const (p2 := 1) rfl rfl ?_
  refine q_store (loc2 := [(6, 468, 0), (0, x, 0), (0, 0, 0), (0, 0, 0), (11, 0, 0)]) (p2 := 2) rfl rfl rfl rfl rfl ?_
  exact zc_iu_loop0 hPS hS hJ hn0 hx x 0 _ (by omega)
theorem zc_iu_loop1 {d n sl : Nat} {φ : FH} {A : Nat} {B : Nat} {made : Nat} {sv : Nat} {svm : Nat} {s9 : Nat} {comb : Nat → Nat} {hm : Nat → MV} {noted : Nat} {verd : Nat} {ins : Nat → Nat} {ver : Nat → Nat} {x : Nat} (hPS : x_PS φ A B made sv svm s9 comb hm) (hS : x_sch φ) (hJ : zq_J φ noted verd ins ver) (hn0 : 486 ≤ n) (hx : x < 40) (k : Nat) : ∀ (y : Nat) (q4 : XV), y + k = x → x_n x_P d xc_123 2 [] [(6, 468, 0), (0, x, 0), (0, 1, 0), (0, y, 0), q4] φ n sl (x_r φ n sl (0, 1, 0)) := by
  induction k with
  | zero =>
    intro y q4 hk
    refine q_load (v := (0, y, 0)) (p2 := 3) rfl rfl rfl rfl ?_
    refine q_load (v := (0, x, 0)) (p2 := 4) rfl rfl rfl rfl ?_
    refine q_icmp_s (p2 := 5) rfl (by decide) (by omega) (by omega) rfl (fun _ => ?_) (fun hb => absurd (show ¬ (y < x) by omega) hb)
    refine q_const (p2 := 45) rfl rfl ?_
    exact q_retv (v := (0, 1, 0)) rfl rfl (⟨rfl, rfl, rfl, rfl, rfl⟩)
  | succ k ih =>
    intro y q4 hk
    refine q_load (v := (0, y, 0)) (p2 := 3) rfl rfl rfl rfl ?_
    refine q_load (v := (0, x, 0)) (p2 := 4) rfl rfl rfl rfl ?_
    refine q_icmp_s (p2 := 5) rfl (by decide) (by omega) (by omega) rfl (fun hb => absurd hb (show ¬ (¬ (y < x)) by omega)) (fun _ => ?_)
    refine q_const (p2 := 6) rfl rfl ?_
    refine q_store (loc2 := [(6, 468, 0), (0, x, 0), (0, 1, 0), (0, y, 0), (0, 0, 0)]) (p2 := 7) rfl rfl rfl rfl rfl ?_
    refine q_load (v := (0, 0, 0)) (p2 := 8) rfl rfl rfl rfl ?_
    refine q_load (v := (6, 468, 0)) (p2 := 9) rfl rfl rfl rfl ?_
    refine q_getv (v := (6, 7, 0)) (p2 := 10) rfl hJ.1 (by decide) rfl rfl ?_
    refine q_getv (v := (6, 237, 0)) (p2 := 11) rfl hPS.1.choose_spec.1 (by decide) hPS.1.choose_spec.2.1 rfl ?_
    refine q_getv (v := (6, 257, 0)) (p2 := 12) rfl hS.1.choose_spec.1 (by decide) hS.1.choose_spec.2.2.2.2.2.2.1 rfl ?_
    refine q_load (v := (0, 1, 0)) (p2 := 13) rfl rfl rfl rfl ?_
    refine q_aldv (v := (6, 259, 0)) (p2 := 14) rfl (x_sc_257 hS) (by omega) (by omega) rfl rfl ?_
    refine q_const (p2 := 15) rfl rfl ?_
    refine q_aldv (v := (0, 0, 0)) (p2 := 16) rfl (x_sc_259 hS) (by omega) (by omega) rfl rfl ?_
    refine q_icmp_s (p2 := 17) rfl (by decide) (by omega) (by omega) rfl (fun _ => ?_) (fun hb => absurd (show ¬ (0 < 0) by omega) hb)
    refine q_iinc (z := y + 1) (loc2 := [(6, 468, 0), (0, x, 0), (0, 1, 0), (0, y + 1, 0), (0, 0, 0)]) (p2 := 43) rfl rfl (Nat.mod_eq_of_lt (by omega)) rfl rfl ?_
    refine q_goto rfl ?_
    exact ih (y + 1) _ (by omega)
theorem zc_iu1 {d n sl : Nat} {φ : FH} {A : Nat} {B : Nat} {made : Nat} {sv : Nat} {svm : Nat} {s9 : Nat} {comb : Nat → Nat} {hm : Nat → MV} {noted : Nat} {verd : Nat} {ins : Nat → Nat} {ver : Nat → Nat} {x : Nat} (hPS : x_PS φ A B made sv svm s9 comb hm) (hS : x_sch φ) (hJ : zq_J φ noted verd ins ver) (hn0 : 486 ≤ n) (hx : x < 40) : x_f x_P (d + 1) 123 [(6, 468, 0), (0, x, 0), (0, 1, 0), (11, 0, 0), (11, 0, 0)] φ n sl (x_r φ n sl (0, 1, 0)) := by
  refine x_f_of rfl ?_
  refine q_const (p2 := 1) rfl rfl ?_
  refine q_store (loc2 := [(6, 468, 0), (0, x, 0), (0, 1, 0), (0, 0, 0), (11, 0, 0)]) (p2 := 2) rfl rfl rfl rfl rfl ?_
  exact zc_iu_loop1 hPS hS hJ hn0 hx x 0 _ (by omega)
theorem zc_iu_loop2 {d n sl : Nat} {φ : FH} {A : Nat} {B : Nat} {made : Nat} {sv : Nat} {svm : Nat} {s9 : Nat} {comb : Nat → Nat} {hm : Nat → MV} {noted : Nat} {verd : Nat} {ins : Nat → Nat} {ver : Nat → Nat} {x : Nat} (hPS : x_PS φ A B made sv svm s9 comb hm) (hS : x_sch φ) (hJ : zq_J φ noted verd ins ver) (hn0 : 486 ≤ n) (hx : x < 40) (k : Nat) : ∀ (y : Nat) (q4 : XV), y + k = x → x_n x_P d xc_123 2 [] [(6, 468, 0), (0, x, 0), (0, 2, 0), (0, y, 0), q4] φ n sl (x_r φ n sl (0, 1, 0)) := by
  induction k with
  | zero =>
    intro y q4 hk
    refine q_load (v := (0, y, 0)) (p2 := 3) rfl rfl rfl rfl ?_
    refine q_load (v := (0, x, 0)) (p2 := 4) rfl rfl rfl rfl ?_
    refine q_icmp_s (p2 := 5) rfl (by decide) (by omega) (by omega) rfl (fun _ => ?_) (fun hb => absurd (show ¬ (y < x) by omega) hb)
    refine q_const (p2 := 45) rfl rfl ?_
    exact q_retv (v := (0, 1, 0)) rfl rfl (⟨rfl, rfl, rfl, rfl, rfl⟩)
  | succ k ih =>
    intro y q4 hk
    refine q_load (v := (0, y, 0)) (p2 := 3) rfl rfl rfl rfl ?_
    refine q_load (v := (0, x, 0)) (p2 := 4) rfl rfl rfl rfl ?_
    refine q_icmp_s (p2 := 5) rfl (by decide) (by omega) (by omega) rfl (fun hb => absurd hb (show ¬ (¬ (y < x)) by omega)) (fun _ => ?_)
    refine q_const (p2 := 6) rfl rfl ?_
    refine q_store (loc2 := [(6, 468, 0), (0, x, 0), (0, 2, 0), (0, y, 0), (0, 0, 0)]) (p2 := 7) rfl rfl rfl rfl rfl ?_
    refine q_load (v := (0, 0, 0)) (p2 := 8) rfl rfl rfl rfl ?_
    refine q_load (v := (6, 468, 0)) (p2 := 9) rfl rfl rfl rfl ?_
    refine q_getv (v := (6, 7, 0)) (p2 := 10) rfl hJ.1 (by decide) rfl rfl ?_
    refine q_getv (v := (6, 237, 0)) (p2 := 11) rfl hPS.1.choose_spec.1 (by decide) hPS.1.choose_spec.2.1 rfl ?_
    refine q_getv (v := (6, 257, 0)) (p2 := 12) rfl hS.1.choose_spec.1 (by decide) hS.1.choose_spec.2.2.2.2.2.2.1 rfl ?_
    refine q_load (v := (0, 2, 0)) (p2 := 13) rfl rfl rfl rfl ?_
    refine q_aldv (v := (6, 260, 0)) (p2 := 14) rfl (x_sc_257 hS) (by omega) (by omega) rfl rfl ?_
    refine q_const (p2 := 15) rfl rfl ?_
    refine q_aldv (v := (0, 0, 0)) (p2 := 16) rfl (x_sc_260 hS) (by omega) (by omega) rfl rfl ?_
    refine q_icmp_s (p2 := 17) rfl (by decide) (by omega) (by omega) rfl (fun _ => ?_) (fun hb => absurd (show ¬ (0 < 0) by omega) hb)
    refine q_iinc (z := y + 1) (loc2 := [(6, 468, 0), (0, x, 0), (0, 2, 0), (0, y + 1, 0), (0, 0, 0)]) (p2 := 43) rfl rfl (Nat.mod_eq_of_lt (by omega)) rfl rfl ?_
    refine q_goto rfl ?_
    exact ih (y + 1) _ (by omega)
theorem zc_iu2 {d n sl : Nat} {φ : FH} {A : Nat} {B : Nat} {made : Nat} {sv : Nat} {svm : Nat} {s9 : Nat} {comb : Nat → Nat} {hm : Nat → MV} {noted : Nat} {verd : Nat} {ins : Nat → Nat} {ver : Nat → Nat} {x : Nat} (hPS : x_PS φ A B made sv svm s9 comb hm) (hS : x_sch φ) (hJ : zq_J φ noted verd ins ver) (hn0 : 486 ≤ n) (hx : x < 40) : x_f x_P (d + 1) 123 [(6, 468, 0), (0, x, 0), (0, 2, 0), (11, 0, 0), (11, 0, 0)] φ n sl (x_r φ n sl (0, 1, 0)) := by
  refine x_f_of rfl ?_
  refine q_const (p2 := 1) rfl rfl ?_
  refine q_store (loc2 := [(6, 468, 0), (0, x, 0), (0, 2, 0), (0, 0, 0), (11, 0, 0)]) (p2 := 2) rfl rfl rfl rfl rfl ?_
  exact zc_iu_loop2 hPS hS hJ hn0 hx x 0 _ (by omega)
end FPOP68
