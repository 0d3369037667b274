section FPOP50
theorem x_KS_put_4 {φ φ1 : FH} {top fr pc_ mm mi : Nat} {st lo re rs fl se co : Nat → Nat} {x_new : Nat} {f1 : Nat → XV} (h : x_KS φ top fr pc_ mm mi st lo re rs fl se co) (hh : φ1 455 = some (0, 6, 20, f1)) (hg : f1 4 = (0, x_new, 0)) (ho : ∀ i, i ≠ 4 → f1 i = h.1.choose i) (fr_ : ∀ j, j ≠ 455 → φ1 j = φ j) : x_KS φ1 x_new fr pc_ mm mi st lo re rs fl se co := by
  obtain ⟨-, a2, a3, a4, a5, a6, a7, a8, a9, b1⟩ := id h
  have g := h.1.choose_spec.2
  refine ⟨⟨f1, hh, (ho 0 (by decide)).trans g.1, (ho 1 (by decide)).trans g.2.1, (ho 2 (by decide)).trans g.2.2.1, (ho 3 (by decide)).trans g.2.2.2.1, hg, (ho 5 (by decide)).trans g.2.2.2.2.2.1, (ho 6 (by decide)).trans g.2.2.2.2.2.2.1, (ho 7 (by decide)).trans g.2.2.2.2.2.2.2.1, (ho 8 (by decide)).trans g.2.2.2.2.2.2.2.2.1, (ho 9 (by decide)).trans g.2.2.2.2.2.2.2.2.2.1, (ho 10 (by decide)).trans g.2.2.2.2.2.2.2.2.2.2.1, (ho 11 (by decide)).trans g.2.2.2.2.2.2.2.2.2.2.2.1, (ho 12 (by decide)).trans g.2.2.2.2.2.2.2.2.2.2.2.2.1, (ho 13 (by decide)).trans g.2.2.2.2.2.2.2.2.2.2.2.2.2.1, (ho 14 (by decide)).trans g.2.2.2.2.2.2.2.2.2.2.2.2.2.2.1, (ho 15 (by decide)).trans g.2.2.2.2.2.2.2.2.2.2.2.2.2.2.2.1, (ho 16 (by decide)).trans g.2.2.2.2.2.2.2.2.2.2.2.2.2.2.2.2.1, (ho 17 (by decide)).trans g.2.2.2.2.2.2.2.2.2.2.2.2.2.2.2.2.2.1, (ho 18 (by decide)).trans g.2.2.2.2.2.2.2.2.2.2.2.2.2.2.2.2.2.2.1, (ho 19 (by decide)).trans g.2.2.2.2.2.2.2.2.2.2.2.2.2.2.2.2.2.2.2⟩, x_vrow_at a2 (fr_ _ (by decide)), x_vrow_at a3 (fr_ _ (by decide)), x_irow_at a4 (fr_ _ (by decide)), x_irow_at a5 (fr_ _ (by decide)), x_irow_at a6 (fr_ _ (by decide)), x_vrow_at a7 (fr_ _ (by decide)), x_irow_at a8 (fr_ _ (by decide)), x_ops_at a9 (fr_ _ (by decide)), x_sch_at b1 (fun j _ _ => fr_ j (by omega))⟩
theorem x_KS_put_10 {φ φ1 : FH} {top fr pc_ mm mi : Nat} {st lo re rs fl se co : Nat → Nat} {x_new : Nat} {f1 : Nat → XV} (h : x_KS φ top fr pc_ mm mi st lo re rs fl se co) (hh : φ1 455 = some (0, 6, 20, f1)) (hg : f1 10 = (0, x_new, 0)) (ho : ∀ i, i ≠ 10 → f1 i = h.1.choose i) (fr_ : ∀ j, j ≠ 455 → φ1 j = φ j) : x_KS φ1 top x_new pc_ mm mi st lo re rs fl se co := by
  obtain ⟨-, a2, a3, a4, a5, a6, a7, a8, a9, b1⟩ := id h
  have g := h.1.choose_spec.2
  refine ⟨⟨f1, hh, (ho 0 (by decide)).trans g.1, (ho 1 (by decide)).trans g.2.1, (ho 2 (by decide)).trans g.2.2.1, (ho 3 (by decide)).trans g.2.2.2.1, (ho 4 (by decide)).trans g.2.2.2.2.1, (ho 5 (by decide)).trans g.2.2.2.2.2.1, (ho 6 (by decide)).trans g.2.2.2.2.2.2.1, (ho 7 (by decide)).trans g.2.2.2.2.2.2.2.1, (ho 8 (by decide)).trans g.2.2.2.2.2.2.2.2.1, (ho 9 (by decide)).trans g.2.2.2.2.2.2.2.2.2.1, hg, (ho 11 (by decide)).trans g.2.2.2.2.2.2.2.2.2.2.2.1, (ho 12 (by decide)).trans g.2.2.2.2.2.2.2.2.2.2.2.2.1, (ho 13 (by decide)).trans g.2.2.2.2.2.2.2.2.2.2.2.2.2.1, (ho 14 (by decide)).trans g.2.2.2.2.2.2.2.2.2.2.2.2.2.2.1, (ho 15 (by decide)).trans g.2.2.2.2.2.2.2.2.2.2.2.2.2.2.2.1, (ho 16 (by decide)).trans g.2.2.2.2.2.2.2.2.2.2.2.2.2.2.2.2.1, (ho 17 (by decide)).trans g.2.2.2.2.2.2.2.2.2.2.2.2.2.2.2.2.2.1, (ho 18 (by decide)).trans g.2.2.2.2.2.2.2.2.2.2.2.2.2.2.2.2.2.2.1, (ho 19 (by decide)).trans g.2.2.2.2.2.2.2.2.2.2.2.2.2.2.2.2.2.2.2⟩, x_vrow_at a2 (fr_ _ (by decide)), x_vrow_at a3 (fr_ _ (by decide)), x_irow_at a4 (fr_ _ (by decide)), x_irow_at a5 (fr_ _ (by decide)), x_irow_at a6 (fr_ _ (by decide)), x_vrow_at a7 (fr_ _ (by decide)), x_irow_at a8 (fr_ _ (by decide)), x_ops_at a9 (fr_ _ (by decide)), x_sch_at b1 (fun j _ _ => fr_ j (by omega))⟩
theorem x_KS_put_15 {φ φ1 : FH} {top fr pc_ mm mi : Nat} {st lo re rs fl se co : Nat → Nat} {x_new : Nat} {f1 : Nat → XV} (h : x_KS φ top fr pc_ mm mi st lo re rs fl se co) (hh : φ1 455 = some (0, 6, 20, f1)) (hg : f1 15 = (0, x_new, 0)) (ho : ∀ i, i ≠ 15 → f1 i = h.1.choose i) (fr_ : ∀ j, j ≠ 455 → φ1 j = φ j) : x_KS φ1 top fr x_new mm mi st lo re rs fl se co := by
  obtain ⟨-, a2, a3, a4, a5, a6, a7, a8, a9, b1⟩ := id h
  have g := h.1.choose_spec.2
  refine ⟨⟨f1, hh, (ho 0 (by decide)).trans g.1, (ho 1 (by decide)).trans g.2.1, (ho 2 (by decide)).trans g.2.2.1, (ho 3 (by decide)).trans g.2.2.2.1, (ho 4 (by decide)).trans g.2.2.2.2.1, (ho 5 (by decide)).trans g.2.2.2.2.2.1, (ho 6 (by decide)).trans g.2.2.2.2.2.2.1, (ho 7 (by decide)).trans g.2.2.2.2.2.2.2.1, (ho 8 (by decide)).trans g.2.2.2.2.2.2.2.2.1, (ho 9 (by decide)).trans g.2.2.2.2.2.2.2.2.2.1, (ho 10 (by decide)).trans g.2.2.2.2.2.2.2.2.2.2.1, (ho 11 (by decide)).trans g.2.2.2.2.2.2.2.2.2.2.2.1, (ho 12 (by decide)).trans g.2.2.2.2.2.2.2.2.2.2.2.2.1, (ho 13 (by decide)).trans g.2.2.2.2.2.2.2.2.2.2.2.2.2.1, (ho 14 (by decide)).trans g.2.2.2.2.2.2.2.2.2.2.2.2.2.2.1, hg, (ho 16 (by decide)).trans g.2.2.2.2.2.2.2.2.2.2.2.2.2.2.2.2.1, (ho 17 (by decide)).trans g.2.2.2.2.2.2.2.2.2.2.2.2.2.2.2.2.2.1, (ho 18 (by decide)).trans g.2.2.2.2.2.2.2.2.2.2.2.2.2.2.2.2.2.2.1, (ho 19 (by decide)).trans g.2.2.2.2.2.2.2.2.2.2.2.2.2.2.2.2.2.2.2⟩, x_vrow_at a2 (fr_ _ (by decide)), x_vrow_at a3 (fr_ _ (by decide)), x_irow_at a4 (fr_ _ (by decide)), x_irow_at a5 (fr_ _ (by decide)), x_irow_at a6 (fr_ _ (by decide)), x_vrow_at a7 (fr_ _ (by decide)), x_irow_at a8 (fr_ _ (by decide)), x_ops_at a9 (fr_ _ (by decide)), x_sch_at b1 (fun j _ _ => fr_ j (by omega))⟩
theorem x_KS_put_16 {φ φ1 : FH} {top fr pc_ mm mi : Nat} {st lo re rs fl se co : Nat → Nat} {f1 : Nat → XV} (h : x_KS φ top fr pc_ mm mi st lo re rs fl se co) (hh : φ1 455 = some (0, 6, 20, f1)) (hg : f1 16 = (0, 0, 0)) (ho : ∀ i, i ≠ 16 → f1 i = h.1.choose i) (fr_ : ∀ j, j ≠ 455 → φ1 j = φ j) : x_KS φ1 top fr pc_ mm mi st lo re rs fl se co := by
  obtain ⟨-, a2, a3, a4, a5, a6, a7, a8, a9, b1⟩ := id h
  have g := h.1.choose_spec.2
  refine ⟨⟨f1, hh, (ho 0 (by decide)).trans g.1, (ho 1 (by decide)).trans g.2.1, (ho 2 (by decide)).trans g.2.2.1, (ho 3 (by decide)).trans g.2.2.2.1, (ho 4 (by decide)).trans g.2.2.2.2.1, (ho 5 (by decide)).trans g.2.2.2.2.2.1, (ho 6 (by decide)).trans g.2.2.2.2.2.2.1, (ho 7 (by decide)).trans g.2.2.2.2.2.2.2.1, (ho 8 (by decide)).trans g.2.2.2.2.2.2.2.2.1, (ho 9 (by decide)).trans g.2.2.2.2.2.2.2.2.2.1, (ho 10 (by decide)).trans g.2.2.2.2.2.2.2.2.2.2.1, (ho 11 (by decide)).trans g.2.2.2.2.2.2.2.2.2.2.2.1, (ho 12 (by decide)).trans g.2.2.2.2.2.2.2.2.2.2.2.2.1, (ho 13 (by decide)).trans g.2.2.2.2.2.2.2.2.2.2.2.2.2.1, (ho 14 (by decide)).trans g.2.2.2.2.2.2.2.2.2.2.2.2.2.2.1, (ho 15 (by decide)).trans g.2.2.2.2.2.2.2.2.2.2.2.2.2.2.2.1, hg, (ho 17 (by decide)).trans g.2.2.2.2.2.2.2.2.2.2.2.2.2.2.2.2.2.1, (ho 18 (by decide)).trans g.2.2.2.2.2.2.2.2.2.2.2.2.2.2.2.2.2.2.1, (ho 19 (by decide)).trans g.2.2.2.2.2.2.2.2.2.2.2.2.2.2.2.2.2.2.2⟩, x_vrow_at a2 (fr_ _ (by decide)), x_vrow_at a3 (fr_ _ (by decide)), x_irow_at a4 (fr_ _ (by decide)), x_irow_at a5 (fr_ _ (by decide)), x_irow_at a6 (fr_ _ (by decide)), x_vrow_at a7 (fr_ _ (by decide)), x_irow_at a8 (fr_ _ (by decide)), x_ops_at a9 (fr_ _ (by decide)), x_sch_at b1 (fun j _ _ => fr_ j (by omega))⟩
theorem x_KS_put_18 {φ φ1 : FH} {top fr pc_ mm mi : Nat} {st lo re rs fl se co : Nat → Nat} {x_new : Nat} {f1 : Nat → XV} (h : x_KS φ top fr pc_ mm mi st lo re rs fl se co) (hh : φ1 455 = some (0, 6, 20, f1)) (hg : f1 18 = (0, x_new, 0)) (ho : ∀ i, i ≠ 18 → f1 i = h.1.choose i) (fr_ : ∀ j, j ≠ 455 → φ1 j = φ j) : x_KS φ1 top fr pc_ x_new mi st lo re rs fl se co := by
  obtain ⟨-, a2, a3, a4, a5, a6, a7, a8, a9, b1⟩ := id h
  have g := h.1.choose_spec.2
  refine ⟨⟨f1, hh, (ho 0 (by decide)).trans g.1, (ho 1 (by decide)).trans g.2.1, (ho 2 (by decide)).trans g.2.2.1, (ho 3 (by decide)).trans g.2.2.2.1, (ho 4 (by decide)).trans g.2.2.2.2.1, (ho 5 (by decide)).trans g.2.2.2.2.2.1, (ho 6 (by decide)).trans g.2.2.2.2.2.2.1, (ho 7 (by decide)).trans g.2.2.2.2.2.2.2.1, (ho 8 (by decide)).trans g.2.2.2.2.2.2.2.2.1, (ho 9 (by decide)).trans g.2.2.2.2.2.2.2.2.2.1, (ho 10 (by decide)).trans g.2.2.2.2.2.2.2.2.2.2.1, (ho 11 (by decide)).trans g.2.2.2.2.2.2.2.2.2.2.2.1, (ho 12 (by decide)).trans g.2.2.2.2.2.2.2.2.2.2.2.2.1, (ho 13 (by decide)).trans g.2.2.2.2.2.2.2.2.2.2.2.2.2.1, (ho 14 (by decide)).trans g.2.2.2.2.2.2.2.2.2.2.2.2.2.2.1, (ho 15 (by decide)).trans g.2.2.2.2.2.2.2.2.2.2.2.2.2.2.2.1, (ho 16 (by decide)).trans g.2.2.2.2.2.2.2.2.2.2.2.2.2.2.2.2.1, (ho 17 (by decide)).trans g.2.2.2.2.2.2.2.2.2.2.2.2.2.2.2.2.2.1, hg, (ho 19 (by decide)).trans g.2.2.2.2.2.2.2.2.2.2.2.2.2.2.2.2.2.2.2⟩, x_vrow_at a2 (fr_ _ (by decide)), x_vrow_at a3 (fr_ _ (by decide)), x_irow_at a4 (fr_ _ (by decide)), x_irow_at a5 (fr_ _ (by decide)), x_irow_at a6 (fr_ _ (by decide)), x_vrow_at a7 (fr_ _ (by decide)), x_irow_at a8 (fr_ _ (by decide)), x_ops_at a9 (fr_ _ (by decide)), x_sch_at b1 (fun j _ _ => fr_ j (by omega))⟩
theorem x_KS_put_19 {φ φ1 : FH} {top fr pc_ mm mi : Nat} {st lo re rs fl se co : Nat → Nat} {x_new : Nat} {f1 : Nat → XV} (h : x_KS φ top fr pc_ mm mi st lo re rs fl se co) (hh : φ1 455 = some (0, 6, 20, f1)) (hg : f1 19 = (0, x_new, 0)) (ho : ∀ i, i ≠ 19 → f1 i = h.1.choose i) (fr_ : ∀ j, j ≠ 455 → φ1 j = φ j) : x_KS φ1 top fr pc_ mm x_new st lo re rs fl se co := by
  obtain ⟨-, a2, a3, a4, a5, a6, a7, a8, a9, b1⟩ := id h
  have g := h.1.choose_spec.2
  refine ⟨⟨f1, hh, (ho 0 (by decide)).trans g.1, (ho 1 (by decide)).trans g.2.1, (ho 2 (by decide)).trans g.2.2.1, (ho 3 (by decide)).trans g.2.2.2.1, (ho 4 (by decide)).trans g.2.2.2.2.1, (ho 5 (by decide)).trans g.2.2.2.2.2.1, (ho 6 (by decide)).trans g.2.2.2.2.2.2.1, (ho 7 (by decide)).trans g.2.2.2.2.2.2.2.1, (ho 8 (by decide)).trans g.2.2.2.2.2.2.2.2.1, (ho 9 (by decide)).trans g.2.2.2.2.2.2.2.2.2.1, (ho 10 (by decide)).trans g.2.2.2.2.2.2.2.2.2.2.1, (ho 11 (by decide)).trans g.2.2.2.2.2.2.2.2.2.2.2.1, (ho 12 (by decide)).trans g.2.2.2.2.2.2.2.2.2.2.2.2.1, (ho 13 (by decide)).trans g.2.2.2.2.2.2.2.2.2.2.2.2.2.1, (ho 14 (by decide)).trans g.2.2.2.2.2.2.2.2.2.2.2.2.2.2.1, (ho 15 (by decide)).trans g.2.2.2.2.2.2.2.2.2.2.2.2.2.2.2.1, (ho 16 (by decide)).trans g.2.2.2.2.2.2.2.2.2.2.2.2.2.2.2.2.1, (ho 17 (by decide)).trans g.2.2.2.2.2.2.2.2.2.2.2.2.2.2.2.2.2.1, (ho 18 (by decide)).trans g.2.2.2.2.2.2.2.2.2.2.2.2.2.2.2.2.2.2.1, hg⟩, x_vrow_at a2 (fr_ _ (by decide)), x_vrow_at a3 (fr_ _ (by decide)), x_irow_at a4 (fr_ _ (by decide)), x_irow_at a5 (fr_ _ (by decide)), x_irow_at a6 (fr_ _ (by decide)), x_vrow_at a7 (fr_ _ (by decide)), x_irow_at a8 (fr_ _ (by decide)), x_ops_at a9 (fr_ _ (by decide)), x_sch_at b1 (fun j _ _ => fr_ j (by omega))⟩
theorem x_KS_st_456 {φ φ1 : FH} {top fr pc_ mm mi : Nat} {st lo re rs fl se co : Nat → Nat} {x_j x_new : Nat} {f1 : Nat → XV} (h : x_KS φ top fr pc_ mm mi st lo re rs fl se co) (hh : φ1 456 = some (8, 0, 4096, f1)) (hg : f1 x_j = (6, x_new, 0)) (ho : ∀ i, i ≠ x_j → f1 i = (6, st i, 0)) (fr_ : ∀ j, j ≠ 456 → φ1 j = φ j) : x_KS φ1 top fr pc_ mm mi (x_s st x_j x_new) lo re rs fl se co := by
  obtain ⟨a1, -, a3, a4, a5, a6, a7, a8, a9, b1⟩ := h
  exact ⟨x_mc_at a1 (fr_ _ (by decide)), hh.trans (x_arf hg ho), x_vrow_at a3 (fr_ _ (by decide)), x_irow_at a4 (fr_ _ (by decide)), x_irow_at a5 (fr_ _ (by decide)), x_irow_at a6 (fr_ _ (by decide)), x_vrow_at a7 (fr_ _ (by decide)), x_irow_at a8 (fr_ _ (by decide)), x_ops_at a9 (fr_ _ (by decide)), x_sch_at b1 (fun j _ _ => fr_ j (by omega))⟩
theorem x_KS_st_457 {φ φ1 : FH} {top fr pc_ mm mi : Nat} {st lo re rs fl se co : Nat → Nat} {x_j x_new : Nat} {f1 : Nat → XV} (h : x_KS φ top fr pc_ mm mi st lo re rs fl se co) (hh : φ1 457 = some (8, 0, 256, f1)) (hg : f1 x_j = (6, x_new, 0)) (ho : ∀ i, i ≠ x_j → f1 i = (6, lo i, 0)) (fr_ : ∀ j, j ≠ 457 → φ1 j = φ j) : x_KS φ1 top fr pc_ mm mi st (x_s lo x_j x_new) re rs fl se co := by
  obtain ⟨a1, a2, -, a4, a5, a6, a7, a8, a9, b1⟩ := h
  exact ⟨x_mc_at a1 (fr_ _ (by decide)), x_vrow_at a2 (fr_ _ (by decide)), hh.trans (x_arf hg ho), x_irow_at a4 (fr_ _ (by decide)), x_irow_at a5 (fr_ _ (by decide)), x_irow_at a6 (fr_ _ (by decide)), x_vrow_at a7 (fr_ _ (by decide)), x_irow_at a8 (fr_ _ (by decide)), x_ops_at a9 (fr_ _ (by decide)), x_sch_at b1 (fun j _ _ => fr_ j (by omega))⟩
def x_z0 : Nat → Nat := fun _ => 0
theorem x_mv_gS {φ : FH} {v k b : Nat} (h : x_mv φ v (k, b, 0, 0, [])) (hk : k < 6) : ∃ f, φ v = some (0, 10, 7, f) ∧ x_vg f k b 0 0 0 0 (12, 0, 0) := by
  rcases h.2.2.2 with q | q
  · exact q.2.2.2.2
  · exact absurd q.1 (by show ¬ k = 6; omega)
theorem x_PS_N {φ : FH} {A B made sv svm s9 : Nat} {comb : Nat → Nat} {hm : Nat → MV} (h : x_PS φ A B made sv svm s9 comb hm) : x_mv φ 225 MV0 := h.2.2.choose_spec.2.2
theorem x_PS_H {φ : FH} {A B made sv svm s9 : Nat} {comb : Nat → Nat} {hm : Nat → MV} (h : x_PS φ A B made sv svm s9 comb hm) : x_held φ 227 h.2.2.choose := h.2.2.choose_spec.1
theorem x_PS_M {φ : FH} {A B made sv svm s9 : Nat} {comb : Nat → Nat} {hm : Nat → MV} (h : x_PS φ A B made sv svm s9 comb hm) : ∀ i, i < 1600 → x_mv φ (h.2.2.choose i) (hm i) := h.2.2.choose_spec.2.1
def x_KJ (φ : FH) (mi : Nat) (co : Nat → Nat) : Prop := ∃ top fr pc_ mm st lo re rs fl se, x_KS φ top fr pc_ mm mi st lo re rs fl se co
theorem k_plain_1w {d n sl top fr pc_ mm mi A B made sv svm s9 : Nat} {st lo re rs fl se co : Nat → Nat} {φ : FH} {fP : Nat → XV} {w : Nat} (hw0 : co pc_ = w) (hP : x_pop φ A B made sv svm s9 fP) (hK : x_KS φ top fr pc_ mm mi st lo re rs fl se co) (hpc : pc_ + 8 < 12288) (ht : top < 4096) (hc1 : mm + w ≤ 1000) (hc2 : mi + w ≤ 20000) : x_f x_P (d + 2) 109 [(6, 455, 0), (0, 1, 0), (11, 0, 0), (11, 0, 0), (11, 0, 0)] φ n sl (x_bV n sl 0 0 (fun φ2 => x_KS φ2 top fr (pc_ + 1) (mm + w) (mi + w) st lo re rs fl se co ∧ x_kf φ φ2)) := by
  subst hw0
  exact k_plain_1 hP hK hpc ht hc1 hc2
theorem k_plain_3w {d n sl top fr pc_ mm mi A B made sv svm s9 : Nat} {st lo re rs fl se co : Nat → Nat} {φ : FH} {fP : Nat → XV} {w : Nat} (hw0 : co pc_ = w) (hP : x_pop φ A B made sv svm s9 fP) (hK : x_KS φ top fr pc_ mm mi st lo re rs fl se co) (hpc : pc_ + 8 < 12288) (ht : top < 4096) (hn : 486 ≤ n) (hbits : w < 2147483648) : x_f x_P (d + 2) 109 [(6, 455, 0), (0, 3, 0), (11, 0, 0), (11, 0, 0), (11, 0, 0)] φ n sl (x_bV n sl 1 7 (fun φ2 => ∃ v, x_KS φ2 (top + 1) fr (pc_ + 1) mm mi (fun i => if i = top then v else st i) lo re rs fl se co ∧ x_mv φ2 v (1, w, 0, 0, []) ∧ ∀ j, j < n → (j < 455 ∨ 466 ≤ j) → φ2 j = φ j)) := by
  subst hw0
  exact k_plain_3 hP hK hpc ht hn hbits
theorem k_plain_7w {d n sl top fr pc_ mm mi A B made sv svm s9 : Nat} {st lo re rs fl se co comb : Nat → Nat} {φ : FH} {fP : Nat → XV} {w : Nat} (hw0 : co pc_ = w) (hP : x_pop φ A B made sv svm s9 fP) (hK : x_KS φ top fr pc_ mm mi st lo re rs fl se co) (hpc : pc_ + 8 < 12288) (ht : top < 4096) (hC : x_comb φ 226 comb) (hN : x_mv φ 225 MV0) (hn : 486 ≤ n) (hbits : w < 2147483648) : x_f x_P (d + 2) 109 [(6, 455, 0), (0, 7, 0), (11, 0, 0), (11, 0, 0), (11, 0, 0)] φ n sl (x_bV n sl 1 7 (fun φ2 => ∃ v, x_KS φ2 (top + 1) fr (pc_ + 1) mm mi (fun i => if i = top then v else st i) lo re rs fl se co ∧ x_mv φ2 v (if w < made ∧ comb (w) ≠ 0 then (5, w, 0, 0, []) else MV0) ∧ ∀ j, j < n → (j < 455 ∨ 466 ≤ j) → φ2 j = φ j)) := by
  subst hw0
  exact k_plain_7 hP hK hpc ht hC hN hn hbits
theorem k_plain_10w {d n sl top fr pc_ mm mi A B made sv svm s9 : Nat} {st lo re rs fl se co : Nat → Nat} {φ : FH} {fP : Nat → XV} {w : Nat} (hw0 : co pc_ = w) (hP : x_pop φ A B made sv svm s9 fP) (hK : x_KS φ top (fr + 1) pc_ mm mi st lo re rs fl se co) (hpc : pc_ + 8 < 12288) (ht : top < 4096) {m : MV} (hv : x_mv φ (lo (fr * 32 + w)) m) (hf8 : fr < 8) (hs : w < 32) : x_f x_P (d + 2) 109 [(6, 455, 0), (0, 10, 0), (11, 0, 0), (11, 0, 0), (11, 0, 0)] φ n sl (x_bV n sl 0 0 (fun φ2 => x_KS φ2 (top + 1) (fr + 1) (pc_ + 1) mm mi (fun i => if i = top then (lo (fr * 32 + w)) else st i) lo re rs fl se co ∧ x_kf φ φ2)) := by
  subst hw0
  exact k_plain_10 hP hK hpc ht hv hf8 hs
theorem k_lead_27w {d n sl top fr pc_ mm mi A B made sv svm s9 : Nat} {st lo re rs fl se co : Nat → Nat} {φ : FH} {fP : Nat → XV} {w : Nat} (hw0 : co pc_ = w) (hP : x_pop φ A B made sv svm s9 fP) (hK : x_KS φ (top + 1) fr pc_ mm mi st lo re rs fl se co) (hpc : pc_ + 8 < 12288) (ht : top < 4096) {m : MV} (hv : x_mv φ (st top) m) (hco : w < 2147483648) : x_f x_P (d + 2) 111 [(6, 455, 0), (0, 27, 0), (11, 0, 0), (11, 0, 0)] φ n sl (x_bV n sl 0 0 (fun φ2 => x_KS φ2 top fr (if m.1 = 3 ∧ m.2.1 = 2 then pc_ + 1 else w) mm mi st lo re rs fl se co ∧ x_kf φ φ2)) := by
  subst hw0
  exact k_lead_27 hP hK hpc ht hv hco
theorem k_fetchw {d n sl top fr pc_ mm mi : Nat} {st lo re rs fl se co : Nat → Nat} {φ : FH} {w : Nat} (hw0 : co pc_ = w) {A B made sv svm s9 : Nat} {fP : Nat → XV} (hP : x_pop φ A B made sv svm s9 fP) (hK : x_KS φ top fr pc_ mm mi st lo re rs fl se co) (hpc : pc_ < 12288) : x_f x_P (d + 1) 108 [(6, 455, 0), (11, 0, 0), (11, 0, 0)] φ n sl (x_rR (0, w, 0) n sl (fun φ2 => x_KS φ2 top fr (pc_ + 1) mm mi st lo re rs fl se co ∧ x_kf φ φ2)) := by
  subst hw0
  exact k_fetch hP hK hpc
set_option maxHeartbeats 1000000 in
theorem zc_run_whole {d n sl : Nat} {φ : FH} {A : Nat} {B : Nat} {made : Nat} {sv : Nat} {svm : Nat} {s9 : Nat} {comb : Nat → Nat} {hm : Nat → MV} {top : Nat} {fr : Nat} {pc_ : Nat} {mm : Nat} {mi : Nat} {st : Nat → Nat} {lo : Nat → Nat} {re : Nat → Nat} {rs : Nat → Nat} {fl : Nat → Nat} {se : Nat → Nat} {co : Nat → Nat} {w : Nat} (hPS : x_PS φ A B made sv svm s9 comb hm) (hKS : x_KS φ top fr pc_ mm mi st lo re rs fl se co) (hn0 : 486 ≤ n) (hmi : mi + 30 ≤ 20000) (hc60 : co 60 = 1) (hc61 : co 61 = 1) (hc62 : co 62 = 3) (hc63 : co 63 = w) (hc64 : co 64 = 31) (hw : w < 2147483648) : x_f x_P (d + 6) 56 [(6, 455, 0), (0, 60, 0), (6, 225, 0), (11, 0, 0), (11, 0, 0)] φ n sl (x_bR n sl 1 7 (fun zw φ2 => ∃ v, zw = (6, v, 0) ∧ x_KJ φ2 (mi + 1) co ∧ x_mv φ2 v ((1, w, 0, 0, [])) ∧ ∀ j, j < n → (j < 455 ∨ 466 ≤ j) → φ2 j = φ j)) := by
  refine x_f_of rfl ?_
  refine x_n_lt (fun hlt0 => ?_)
  refine q_load (v := (6, 455, 0)) (p2 := 1) rfl rfl rfl rfl ?_
  refine q_const (p2 := 2) rfl rfl ?_
  refine q_putfE (v := (0, 0, 0)) (p2 := 3) rfl (x_KS_455 hKS) (by decide) rfl rfl (fun φ1 f1 hh1 hg1 ho1 fr1 => ?_)
  have hs1 := x_KS_put_18 hKS hh1 hg1 ho1 fr1
  refine q_load (v := (6, 455, 0)) (p2 := 4) rfl rfl rfl rfl ?_
  refine q_const (p2 := 5) rfl rfl ?_
  refine q_putfE (v := (0, 0, 0)) (p2 := 6) rfl (x_KS_455 hs1) (by decide) rfl rfl (fun φ2 f2 hh2 hg2 ho2 fr2 => ?_)
  have hs2 := x_KS_put_16 hs1 hh2 hg2 ho2 fr2
  refine q_load (v := (6, 455, 0)) (p2 := 7) rfl rfl rfl rfl ?_
  refine q_const (p2 := 8) rfl rfl ?_
  refine q_putfE (v := (0, 0, 0)) (p2 := 9) rfl (x_KS_455 hs2) (by decide) rfl rfl (fun φ3 f3 hh3 hg3 ho3 fr3 => ?_)
  have hs3 := x_KS_put_4 hs2 hh3 hg3 ho3 fr3
  refine q_load (v := (6, 455, 0)) (p2 := 10) rfl rfl rfl rfl ?_
  refine q_const (p2 := 11) rfl rfl ?_
  refine q_putfE (v := (0, 0, 0)) (p2 := 12) rfl (x_KS_455 hs3) (by decide) rfl rfl (fun φ4 f4 hh4 hg4 ho4 fr4 => ?_)
  have hs4 := x_KS_put_10 hs3 hh4 hg4 ho4 fr4
  refine q_load (v := (6, 455, 0)) (p2 := 13) rfl rfl rfl rfl ?_
  refine q_load (v := (0, 60, 0)) (p2 := 14) rfl rfl rfl rfl ?_
  refine q_const (p2 := 15) rfl rfl ?_
  refine q_load (v := (6, 225, 0)) (p2 := 16) rfl rfl rfl rfl ?_
  refine x_n_lt (fun hlt6 => ?_)
  have hm5 := (x_PS_at hPS (fun j hj hne => by have hj2 := x_some_lt hlt0 hne; exact ((fr4 j (by omega)).trans ((fr3 j (by omega)).trans ((fr2 j (by omega)).trans (fr1 j (by omega)))))))
  have hv7 := x_mv_at (x_PS_N hPS) (fun j hj hne => by have hj2 := x_some_lt hlt0 hne; exact ((fr4 j (by omega)).trans ((fr3 j (by omega)).trans ((fr2 j (by omega)).trans (fr1 j (by omega))))))
  refine q_callvE (xs := [(6, 225, 0), (0, 4294967293, 0), (0, 60, 0), (6, 455, 0)]) (p2 := 17) rfl rfl rfl rfl (x_rcv_s 455 (x_KS_455 hs4)) rfl (k_open hs4 (x_PS_N hm5) hv7 (by omega)) (Nat.le_refl _) (Nat.le_refl _) rfl (fun φ8 hR8 => ?_)
  obtain ⟨hK8, frn8⟩ := hR8
  refine q_const (p2 := 18) rfl rfl ?_
  refine q_store (loc2 := [(6, 455, 0), (0, 60, 0), (6, 225, 0), (0, 0, 0), (11, 0, 0)]) (p2 := 19) rfl rfl rfl rfl rfl ?_
  refine q_load (v := (0, 0, 0)) (p2 := 20) rfl rfl rfl rfl ?_
  refine q_const (p2 := 21) rfl rfl ?_
  refine q_icmp_s (p2 := 22) rfl (by decide) (by omega) (by omega) rfl (fun hb => absurd hb (show ¬ (¬ (0 < 1000000)) by omega)) (fun _ => ?_)
  refine q_load (v := (6, 455, 0)) (p2 := 23) rfl rfl rfl rfl ?_
  refine q_getv (v := (0, 1, 0)) (p2 := 24) rfl (x_KS_455 hK8) (by decide) hK8.1.choose_spec.2.2.2.2.2.2.2.2.2.2.2.1 rfl ?_
  refine q_if0_s (p2 := 25) rfl (by decide) (by omega) rfl (fun hb => absurd hb (show ¬ (¬ (0 < 1)) by omega)) (fun _ => ?_)
  refine q_load (v := (6, 455, 0)) (p2 := 26) rfl rfl rfl rfl ?_
  refine q_getv (v := (0, 0, 0)) (p2 := 27) rfl (x_KS_455 hK8) (by decide) hK8.1.choose_spec.2.2.2.2.2.2.2.2.2.2.2.2.2.2.2.2.2.1 rfl ?_
  refine q_if0_s (p2 := 28) rfl (by decide) (by omega) rfl (fun hb => absurd hb (show ¬ (¬ (0 = 0)) by omega)) (fun _ => ?_)
  refine q_load (v := (6, 455, 0)) (p2 := 29) rfl rfl rfl rfl ?_
  refine x_n_lt (fun hlt10 => ?_)
  have hm9 := (x_PS_at hm5 (fun j hj hne => by have hj2 := x_some_lt hlt6 hne; exact (frn8 j (by omega))))
  refine q_callrE (xs := [(6, 455, 0)]) (p2 := 30) rfl rfl rfl rfl (x_rcv_s 455 (x_KS_455 hK8)) rfl (k_fetchw hc60 hm9.1.choose_spec hK8 (by omega)) (Nat.le_refl _) (Nat.le_refl _) rfl (fun φ11 hR11 => ?_)
  obtain ⟨hK11, frn11⟩ := hR11
  refine q_store (loc2 := [(6, 455, 0), (0, 60, 0), (6, 225, 0), (0, 0, 0), (0, 1, 0)]) (p2 := 31) rfl rfl rfl rfl rfl ?_
  refine q_load (v := (0, 1, 0)) (p2 := 32) rfl rfl rfl rfl ?_
  refine q_const (p2 := 33) rfl rfl ?_
  refine q_icmp_s (p2 := 34) rfl (by decide) (by omega) (by omega) rfl (fun hb => absurd hb (show ¬ (10 < 1) by omega)) (fun _ => ?_)
  refine q_load (v := (6, 455, 0)) (p2 := 35) rfl rfl rfl rfl ?_
  refine q_load (v := (0, 1, 0)) (p2 := 36) rfl rfl rfl rfl ?_
  refine x_n_lt (fun hlt13 => ?_)
  have hm12 := (x_PS_at hm9 (fun j hj hne => by have hj2 := x_some_lt hlt10 hne; exact (frn11 j (by omega))))
  refine q_callvB (xs := [(0, 1, 0), (6, 455, 0)]) (p2 := 37) rfl rfl rfl rfl (x_rcv_s 455 (x_KS_455 hK11)) rfl (k_plain_1w hc61 hm12.1.choose_spec hK11 (by omega) (by omega) (by omega) (by omega)) rfl (fun φ14 n14 sl14 hn14 hN14 hs14 hT14 hR14 => ?_)
  obtain ⟨hK14, frn14⟩ := hR14
  refine q_goto rfl ?_
  refine q_iinc (z := 1) (loc2 := [(6, 455, 0), (0, 60, 0), (6, 225, 0), (0, 1, 0), (0, 1, 0)]) (p2 := 49) rfl rfl (by decide) rfl rfl ?_
  refine q_goto rfl ?_
  refine q_load (v := (0, 1, 0)) (p2 := 20) rfl rfl rfl rfl ?_
  refine q_const (p2 := 21) rfl rfl ?_
  refine q_icmp_s (p2 := 22) rfl (by decide) (by omega) (by omega) rfl (fun hb => absurd hb (show ¬ (¬ (1 < 1000000)) by omega)) (fun _ => ?_)
  refine q_load (v := (6, 455, 0)) (p2 := 23) rfl rfl rfl rfl ?_
  refine q_getv (v := (0, 1, 0)) (p2 := 24) rfl (x_KS_455 hK14) (by decide) hK14.1.choose_spec.2.2.2.2.2.2.2.2.2.2.2.1 rfl ?_
  refine q_if0_s (p2 := 25) rfl (by decide) (by omega) rfl (fun hb => absurd hb (show ¬ (¬ (0 < 1)) by omega)) (fun _ => ?_)
  refine q_load (v := (6, 455, 0)) (p2 := 26) rfl rfl rfl rfl ?_
  refine q_getv (v := (0, 0, 0)) (p2 := 27) rfl (x_KS_455 hK14) (by decide) hK14.1.choose_spec.2.2.2.2.2.2.2.2.2.2.2.2.2.2.2.2.2.1 rfl ?_
  refine q_if0_s (p2 := 28) rfl (by decide) (by omega) rfl (fun hb => absurd hb (show ¬ (¬ (0 = 0)) by omega)) (fun _ => ?_)
  refine q_load (v := (6, 455, 0)) (p2 := 29) rfl rfl rfl rfl ?_
  refine x_n_lt (fun hlt16 => ?_)
  have hm15 := (x_PS_at hm12 (fun j hj hne => by have hj2 := x_some_lt hlt13 hne; exact (frn14 j (by omega))))
  refine q_callrE (xs := [(6, 455, 0)]) (p2 := 30) rfl rfl rfl rfl (x_rcv_s 455 (x_KS_455 hK14)) rfl (k_fetchw hc62 hm15.1.choose_spec hK14 (by omega)) (Nat.le_refl _) (Nat.le_refl _) rfl (fun φ17 hR17 => ?_)
  obtain ⟨hK17, frn17⟩ := hR17
  refine q_store (loc2 := [(6, 455, 0), (0, 60, 0), (6, 225, 0), (0, 1, 0), (0, 3, 0)]) (p2 := 31) rfl rfl rfl rfl rfl ?_
  refine q_load (v := (0, 3, 0)) (p2 := 32) rfl rfl rfl rfl ?_
  refine q_const (p2 := 33) rfl rfl ?_
  refine q_icmp_s (p2 := 34) rfl (by decide) (by omega) (by omega) rfl (fun hb => absurd hb (show ¬ (10 < 3) by omega)) (fun _ => ?_)
  refine q_load (v := (6, 455, 0)) (p2 := 35) rfl rfl rfl rfl ?_
  refine q_load (v := (0, 3, 0)) (p2 := 36) rfl rfl rfl rfl ?_
  refine x_n_lt (fun hlt19 => ?_)
  have hm18 := (x_PS_at hm15 (fun j hj hne => by have hj2 := x_some_lt hlt16 hne; exact (frn17 j (by omega))))
  refine q_callvB (xs := [(0, 3, 0), (6, 455, 0)]) (p2 := 37) rfl rfl rfl rfl (x_rcv_s 455 (x_KS_455 hK17)) rfl (k_plain_3w hc63 hm18.1.choose_spec hK17 (by omega) (by omega) (by omega) (by omega)) rfl (fun φ20 n20 sl20 hn20 hN20 hs20 hT20 hR20 => ?_)
  obtain ⟨v20, hK20, hV20, frn20⟩ := hR20
  refine x_n_lt (fun hlt21 => ?_)
  refine q_goto rfl ?_
  refine q_iinc (z := 2) (loc2 := [(6, 455, 0), (0, 60, 0), (6, 225, 0), (0, 2, 0), (0, 3, 0)]) (p2 := 49) rfl rfl (by decide) rfl rfl ?_
  refine q_goto rfl ?_
  refine q_load (v := (0, 2, 0)) (p2 := 20) rfl rfl rfl rfl ?_
  refine q_const (p2 := 21) rfl rfl ?_
  refine q_icmp_s (p2 := 22) rfl (by decide) (by omega) (by omega) rfl (fun hb => absurd hb (show ¬ (¬ (2 < 1000000)) by omega)) (fun _ => ?_)
  refine q_load (v := (6, 455, 0)) (p2 := 23) rfl rfl rfl rfl ?_
  refine q_getv (v := (0, 1, 0)) (p2 := 24) rfl (x_KS_455 hK20) (by decide) hK20.1.choose_spec.2.2.2.2.2.2.2.2.2.2.2.1 rfl ?_
  refine q_if0_s (p2 := 25) rfl (by decide) (by omega) rfl (fun hb => absurd hb (show ¬ (¬ (0 < 1)) by omega)) (fun _ => ?_)
  refine q_load (v := (6, 455, 0)) (p2 := 26) rfl rfl rfl rfl ?_
  refine q_getv (v := (0, 0, 0)) (p2 := 27) rfl (x_KS_455 hK20) (by decide) hK20.1.choose_spec.2.2.2.2.2.2.2.2.2.2.2.2.2.2.2.2.2.1 rfl ?_
  refine q_if0_s (p2 := 28) rfl (by decide) (by omega) rfl (fun hb => absurd hb (show ¬ (¬ (0 = 0)) by omega)) (fun _ => ?_)
  refine q_load (v := (6, 455, 0)) (p2 := 29) rfl rfl rfl rfl ?_
  have hm22 := (x_PS_at hm18 (fun j hj hne => by have hj2 := x_some_lt hlt19 hne; exact (frn20 j (by omega) (by omega))))
  refine q_callrE (xs := [(6, 455, 0)]) (p2 := 30) rfl rfl rfl rfl (x_rcv_s 455 (x_KS_455 hK20)) rfl (k_fetchw hc64 hm22.1.choose_spec hK20 (by omega)) (Nat.le_refl _) (Nat.le_refl _) rfl (fun φ23 hR23 => ?_)
  obtain ⟨hK23, frn23⟩ := hR23
  refine q_store (loc2 := [(6, 455, 0), (0, 60, 0), (6, 225, 0), (0, 2, 0), (0, 31, 0)]) (p2 := 31) rfl rfl rfl rfl rfl ?_
  refine q_load (v := (0, 31, 0)) (p2 := 32) rfl rfl rfl rfl ?_
  refine q_const (p2 := 33) rfl rfl ?_
  refine q_icmp_s (p2 := 34) rfl (by decide) (by omega) (by omega) rfl (fun _ => ?_) (fun hb => absurd (show 10 < 31 by omega) hb)
  refine q_load (v := (0, 31, 0)) (p2 := 39) rfl rfl rfl rfl ?_
  refine q_const (p2 := 40) rfl rfl ?_
  refine q_icmp_s (p2 := 41) rfl (by decide) (by omega) (by omega) rfl (fun _ => ?_) (fun hb => absurd (show 19 < 31 by omega) hb)
  refine q_load (v := (6, 455, 0)) (p2 := 46) rfl rfl rfl rfl ?_
  refine q_load (v := (0, 31, 0)) (p2 := 47) rfl rfl rfl rfl ?_
  refine x_n_lt (fun hlt25 => ?_)
  have hm24 := (x_PS_at hm22 (fun j hj hne => by have hj2 := x_some_lt hlt21 hne; exact (frn23 j (by omega))))
  have hv26 := x_mv_at hV20 (fun j hj hne => by have hj2 := x_some_lt hlt21 hne; exact (frn23 j (by omega)))
  refine q_callvB (xs := [(0, 31, 0), (6, 455, 0)]) (p2 := 48) rfl rfl rfl rfl (x_rcv_s 455 (x_KS_455 hK23)) rfl (k_lead_31 (top := 0) (fr := 0) hm24.1.choose_spec hK23 (by omega) (by omega) hv26 (Or.inl rfl) (by omega) (by show (0 : Nat) < 4096; decide)) rfl (fun φ27 n27 sl27 hn27 hN27 hs27 hT27 hR27 => ?_)
  obtain ⟨hK27, frn27⟩ := hR27
  refine q_iinc (z := 3) (loc2 := [(6, 455, 0), (0, 60, 0), (6, 225, 0), (0, 3, 0), (0, 31, 0)]) (p2 := 49) rfl rfl (by decide) rfl rfl ?_
  refine q_goto rfl ?_
  refine q_load (v := (0, 3, 0)) (p2 := 20) rfl rfl rfl rfl ?_
  refine q_const (p2 := 21) rfl rfl ?_
  refine q_icmp_s (p2 := 22) rfl (by decide) (by omega) (by omega) rfl (fun hb => absurd hb (show ¬ (¬ (3 < 1000000)) by omega)) (fun _ => ?_)
  refine q_load (v := (6, 455, 0)) (p2 := 23) rfl rfl rfl rfl ?_
  refine q_getv (v := (0, 0, 0)) (p2 := 24) rfl (x_KS_455 hK27) (by decide) hK27.1.choose_spec.2.2.2.2.2.2.2.2.2.2.2.1 rfl ?_
  refine q_if0_s (p2 := 25) rfl (by decide) (by omega) rfl (fun _ => ?_) (fun hb => absurd (show ¬ (0 < 0) by omega) hb)
  refine q_load (v := (6, 455, 0)) (p2 := 51) rfl rfl rfl rfl ?_
  refine q_getv (v := (0, 0, 0)) (p2 := 52) rfl (x_KS_455 hK27) (by decide) hK27.1.choose_spec.2.2.2.2.2.2.2.2.2.2.2.2.2.2.2.2.2.1 rfl ?_
  refine q_if0_s (p2 := 53) rfl (by decide) (by omega) rfl (fun _ => ?_) (fun hb => absurd (show 0 = 0 by omega) hb)
  refine q_load (v := (6, 455, 0)) (p2 := 57) rfl rfl rfl rfl ?_
  refine q_callrE (xs := [(6, 455, 0)]) (p2 := 58) rfl rfl rfl rfl (x_rcv_s 455 (x_KS_455 hK27)) rfl (k_pop (top := 0) hK27 (by omega)) (Nat.le_refl _) (Nat.le_refl _) rfl (fun φ28 hR28 => ?_)
  obtain ⟨hK28, frn28⟩ := hR28
  refine x_n_lt (fun hlt30 => ?_)
  have hv29 := x_mv_at hv26 (fun j hj hne => by have hj2 := x_some_lt hlt25 hne; exact ((frn28 j (by omega)).trans (frn27 j (by omega))))
  exact q_retv (v := (6, v20, 0)) rfl rfl (⟨rfl, ⟨by omega, by omega⟩, ⟨by omega, by omega⟩, v20, rfl, ⟨_, _, _, _, _, _, _, _, _, _, hK28⟩, hv29, fun j hj1 hj2 => ((frn28 j (by omega)).trans ((frn27 j (by omega)).trans ((frn23 j (by omega)).trans ((frn20 j (by omega) (by omega)).trans ((frn17 j (by omega)).trans ((frn14 j (by omega)).trans ((frn11 j (by omega)).trans ((frn8 j (by omega)).trans ((fr4 j (by omega)).trans ((fr3 j (by omega)).trans ((fr2 j (by omega)).trans (fr1 j (by omega)))))))))))))⟩)
set_option maxHeartbeats 1000000 in
theorem zc_run_inst {d n sl : Nat} {φ : FH} {A : Nat} {B : Nat} {made : Nat} {sv : Nat} {svm : Nat} {s9 : Nat} {comb : Nat → Nat} {hm : Nat → MV} {top : Nat} {fr : Nat} {pc_ : Nat} {mm : Nat} {mi : Nat} {st : Nat → Nat} {lo : Nat → Nat} {re : Nat → Nat} {rs : Nat → Nat} {fl : Nat → Nat} {se : Nat → Nat} {co : Nat → Nat} {w : Nat} (hPS : x_PS φ A B made sv svm s9 comb hm) (hKS : x_KS φ top fr pc_ mm mi st lo re rs fl se co) (hn0 : 486 ≤ n) (hmi : mi + 30 ≤ 20000) (hc60 : co 60 = 1) (hc61 : co 61 = 1) (hc62 : co 62 = 7) (hc63 : co 63 = w) (hc64 : co 64 = 31) (hw : w < 2147483648) : x_f x_P (d + 6) 56 [(6, 455, 0), (0, 60, 0), (6, 225, 0), (11, 0, 0), (11, 0, 0)] φ n sl (x_bR n sl 1 7 (fun zw φ2 => ∃ v, zw = (6, v, 0) ∧ x_KJ φ2 (mi + 1) co ∧ x_mv φ2 v (if w < made ∧ comb w ≠ 0 then (5, w, 0, 0, []) else MV0) ∧ ∀ j, j < n → (j < 455 ∨ 466 ≤ j) → φ2 j = φ j)) := by
  refine x_f_of rfl ?_
  refine x_n_lt (fun hlt0 => ?_)
  refine q_load (v := (6, 455, 0)) (p2 := 1) rfl rfl rfl rfl ?_
  refine q_const (p2 := 2) rfl rfl ?_
  refine q_putfE (v := (0, 0, 0)) (p2 := 3) rfl (x_KS_455 hKS) (by decide) rfl rfl (fun φ1 f1 hh1 hg1 ho1 fr1 => ?_)
  have hs1 := x_KS_put_18 hKS hh1 hg1 ho1 fr1
  refine q_load (v := (6, 455, 0)) (p2 := 4) rfl rfl rfl rfl ?_
  refine q_const (p2 := 5) rfl rfl ?_
  refine q_putfE (v := (0, 0, 0)) (p2 := 6) rfl (x_KS_455 hs1) (by decide) rfl rfl (fun φ2 f2 hh2 hg2 ho2 fr2 => ?_)
  have hs2 := x_KS_put_16 hs1 hh2 hg2 ho2 fr2
  refine q_load (v := (6, 455, 0)) (p2 := 7) rfl rfl rfl rfl ?_
  refine q_const (p2 := 8) rfl rfl ?_
  refine q_putfE (v := (0, 0, 0)) (p2 := 9) rfl (x_KS_455 hs2) (by decide) rfl rfl (fun φ3 f3 hh3 hg3 ho3 fr3 => ?_)
  have hs3 := x_KS_put_4 hs2 hh3 hg3 ho3 fr3
  refine q_load (v := (6, 455, 0)) (p2 := 10) rfl rfl rfl rfl ?_
  refine q_const (p2 := 11) rfl rfl ?_
  refine q_putfE (v := (0, 0, 0)) (p2 := 12) rfl (x_KS_455 hs3) (by decide) rfl rfl (fun φ4 f4 hh4 hg4 ho4 fr4 => ?_)
  have hs4 := x_KS_put_10 hs3 hh4 hg4 ho4 fr4
  refine q_load (v := (6, 455, 0)) (p2 := 13) rfl rfl rfl rfl ?_
  refine q_load (v := (0, 60, 0)) (p2 := 14) rfl rfl rfl rfl ?_
  refine q_const (p2 := 15) rfl rfl ?_
  refine q_load (v := (6, 225, 0)) (p2 := 16) rfl rfl rfl rfl ?_
  refine x_n_lt (fun hlt6 => ?_)
  have hm5 := (x_PS_at hPS (fun j hj hne => by have hj2 := x_some_lt hlt0 hne; exact ((fr4 j (by omega)).trans ((fr3 j (by omega)).trans ((fr2 j (by omega)).trans (fr1 j (by omega)))))))
  have hv7 := x_mv_at (x_PS_N hPS) (fun j hj hne => by have hj2 := x_some_lt hlt0 hne; exact ((fr4 j (by omega)).trans ((fr3 j (by omega)).trans ((fr2 j (by omega)).trans (fr1 j (by omega))))))
  refine q_callvE (xs := [(6, 225, 0), (0, 4294967293, 0), (0, 60, 0), (6, 455, 0)]) (p2 := 17) rfl rfl rfl rfl (x_rcv_s 455 (x_KS_455 hs4)) rfl (k_open hs4 (x_PS_N hm5) hv7 (by omega)) (Nat.le_refl _) (Nat.le_refl _) rfl (fun φ8 hR8 => ?_)
  obtain ⟨hK8, frn8⟩ := hR8
  refine q_const (p2 := 18) rfl rfl ?_
  refine q_store (loc2 := [(6, 455, 0), (0, 60, 0), (6, 225, 0), (0, 0, 0), (11, 0, 0)]) (p2 := 19) rfl rfl rfl rfl rfl ?_
  refine q_load (v := (0, 0, 0)) (p2 := 20) rfl rfl rfl rfl ?_
  refine q_const (p2 := 21) rfl rfl ?_
  refine q_icmp_s (p2 := 22) rfl (by decide) (by omega) (by omega) rfl (fun hb => absurd hb (show ¬ (¬ (0 < 1000000)) by omega)) (fun _ => ?_)
  refine q_load (v := (6, 455, 0)) (p2 := 23) rfl rfl rfl rfl ?_
  refine q_getv (v := (0, 1, 0)) (p2 := 24) rfl (x_KS_455 hK8) (by decide) hK8.1.choose_spec.2.2.2.2.2.2.2.2.2.2.2.1 rfl ?_
  refine q_if0_s (p2 := 25) rfl (by decide) (by omega) rfl (fun hb => absurd hb (show ¬ (¬ (0 < 1)) by omega)) (fun _ => ?_)
  refine q_load (v := (6, 455, 0)) (p2 := 26) rfl rfl rfl rfl ?_
  refine q_getv (v := (0, 0, 0)) (p2 := 27) rfl (x_KS_455 hK8) (by decide) hK8.1.choose_spec.2.2.2.2.2.2.2.2.2.2.2.2.2.2.2.2.2.1 rfl ?_
  refine q_if0_s (p2 := 28) rfl (by decide) (by omega) rfl (fun hb => absurd hb (show ¬ (¬ (0 = 0)) by omega)) (fun _ => ?_)
  refine q_load (v := (6, 455, 0)) (p2 := 29) rfl rfl rfl rfl ?_
  refine x_n_lt (fun hlt10 => ?_)
  have hm9 := (x_PS_at hm5 (fun j hj hne => by have hj2 := x_some_lt hlt6 hne; exact (frn8 j (by omega))))
  refine q_callrE (xs := [(6, 455, 0)]) (p2 := 30) rfl rfl rfl rfl (x_rcv_s 455 (x_KS_455 hK8)) rfl (k_fetchw hc60 hm9.1.choose_spec hK8 (by omega)) (Nat.le_refl _) (Nat.le_refl _) rfl (fun φ11 hR11 => ?_)
  obtain ⟨hK11, frn11⟩ := hR11
  refine q_store (loc2 := [(6, 455, 0), (0, 60, 0), (6, 225, 0), (0, 0, 0), (0, 1, 0)]) (p2 := 31) rfl rfl rfl rfl rfl ?_
  refine q_load (v := (0, 1, 0)) (p2 := 32) rfl rfl rfl rfl ?_
  refine q_const (p2 := 33) rfl rfl ?_
  refine q_icmp_s (p2 := 34) rfl (by decide) (by omega) (by omega) rfl (fun hb => absurd hb (show ¬ (10 < 1) by omega)) (fun _ => ?_)
  refine q_load (v := (6, 455, 0)) (p2 := 35) rfl rfl rfl rfl ?_
  refine q_load (v := (0, 1, 0)) (p2 := 36) rfl rfl rfl rfl ?_
  refine x_n_lt (fun hlt13 => ?_)
  have hm12 := (x_PS_at hm9 (fun j hj hne => by have hj2 := x_some_lt hlt10 hne; exact (frn11 j (by omega))))
  refine q_callvB (xs := [(0, 1, 0), (6, 455, 0)]) (p2 := 37) rfl rfl rfl rfl (x_rcv_s 455 (x_KS_455 hK11)) rfl (k_plain_1w hc61 hm12.1.choose_spec hK11 (by omega) (by omega) (by omega) (by omega)) rfl (fun φ14 n14 sl14 hn14 hN14 hs14 hT14 hR14 => ?_)
  obtain ⟨hK14, frn14⟩ := hR14
  refine q_goto rfl ?_
  refine q_iinc (z := 1) (loc2 := [(6, 455, 0), (0, 60, 0), (6, 225, 0), (0, 1, 0), (0, 1, 0)]) (p2 := 49) rfl rfl (by decide) rfl rfl ?_
  refine q_goto rfl ?_
  refine q_load (v := (0, 1, 0)) (p2 := 20) rfl rfl rfl rfl ?_
  refine q_const (p2 := 21) rfl rfl ?_
  refine q_icmp_s (p2 := 22) rfl (by decide) (by omega) (by omega) rfl (fun hb => absurd hb (show ¬ (¬ (1 < 1000000)) by omega)) (fun _ => ?_)
  refine q_load (v := (6, 455, 0)) (p2 := 23) rfl rfl rfl rfl ?_
  refine q_getv (v := (0, 1, 0)) (p2 := 24) rfl (x_KS_455 hK14) (by decide) hK14.1.choose_spec.2.2.2.2.2.2.2.2.2.2.2.1 rfl ?_
  refine q_if0_s (p2 := 25) rfl (by decide) (by omega) rfl (fun hb => absurd hb (show ¬ (¬ (0 < 1)) by omega)) (fun _ => ?_)
  refine q_load (v := (6, 455, 0)) (p2 := 26) rfl rfl rfl rfl ?_
  refine q_getv (v := (0, 0, 0)) (p2 := 27) rfl (x_KS_455 hK14) (by decide) hK14.1.choose_spec.2.2.2.2.2.2.2.2.2.2.2.2.2.2.2.2.2.1 rfl ?_
  refine q_if0_s (p2 := 28) rfl (by decide) (by omega) rfl (fun hb => absurd hb (show ¬ (¬ (0 = 0)) by omega)) (fun _ => ?_)
  refine q_load (v := (6, 455, 0)) (p2 := 29) rfl rfl rfl rfl ?_
  refine x_n_lt (fun hlt16 => ?_)
  have hm15 := (x_PS_at hm12 (fun j hj hne => by have hj2 := x_some_lt hlt13 hne; exact (frn14 j (by omega))))
  refine q_callrE (xs := [(6, 455, 0)]) (p2 := 30) rfl rfl rfl rfl (x_rcv_s 455 (x_KS_455 hK14)) rfl (k_fetchw hc62 hm15.1.choose_spec hK14 (by omega)) (Nat.le_refl _) (Nat.le_refl _) rfl (fun φ17 hR17 => ?_)
  obtain ⟨hK17, frn17⟩ := hR17
  refine q_store (loc2 := [(6, 455, 0), (0, 60, 0), (6, 225, 0), (0, 1, 0), (0, 7, 0)]) (p2 := 31) rfl rfl rfl rfl rfl ?_
  refine q_load (v := (0, 7, 0)) (p2 := 32) rfl rfl rfl rfl ?_
  refine q_const (p2 := 33) rfl rfl ?_
  refine q_icmp_s (p2 := 34) rfl (by decide) (by omega) (by omega) rfl (fun hb => absurd hb (show ¬ (10 < 7) by omega)) (fun _ => ?_)
  refine q_load (v := (6, 455, 0)) (p2 := 35) rfl rfl rfl rfl ?_
  refine q_load (v := (0, 7, 0)) (p2 := 36) rfl rfl rfl rfl ?_
  refine x_n_lt (fun hlt19 => ?_)
  have hm18 := (x_PS_at hm15 (fun j hj hne => by have hj2 := x_some_lt hlt16 hne; exact (frn17 j (by omega))))
  refine q_callvB (xs := [(0, 7, 0), (6, 455, 0)]) (p2 := 37) rfl rfl rfl rfl (x_rcv_s 455 (x_KS_455 hK17)) rfl (k_plain_7w hc63 hm18.1.choose_spec hK17 (by omega) (by omega) hm18.2.1 (x_PS_N hm18) (by omega) (by omega)) rfl (fun φ20 n20 sl20 hn20 hN20 hs20 hT20 hR20 => ?_)
  obtain ⟨v20, hK20, hV20, frn20⟩ := hR20
  refine x_n_lt (fun hlt21 => ?_)
  refine q_goto rfl ?_
  refine q_iinc (z := 2) (loc2 := [(6, 455, 0), (0, 60, 0), (6, 225, 0), (0, 2, 0), (0, 7, 0)]) (p2 := 49) rfl rfl (by decide) rfl rfl ?_
  refine q_goto rfl ?_
  refine q_load (v := (0, 2, 0)) (p2 := 20) rfl rfl rfl rfl ?_
  refine q_const (p2 := 21) rfl rfl ?_
  refine q_icmp_s (p2 := 22) rfl (by decide) (by omega) (by omega) rfl (fun hb => absurd hb (show ¬ (¬ (2 < 1000000)) by omega)) (fun _ => ?_)
  refine q_load (v := (6, 455, 0)) (p2 := 23) rfl rfl rfl rfl ?_
  refine q_getv (v := (0, 1, 0)) (p2 := 24) rfl (x_KS_455 hK20) (by decide) hK20.1.choose_spec.2.2.2.2.2.2.2.2.2.2.2.1 rfl ?_
  refine q_if0_s (p2 := 25) rfl (by decide) (by omega) rfl (fun hb => absurd hb (show ¬ (¬ (0 < 1)) by omega)) (fun _ => ?_)
  refine q_load (v := (6, 455, 0)) (p2 := 26) rfl rfl rfl rfl ?_
  refine q_getv (v := (0, 0, 0)) (p2 := 27) rfl (x_KS_455 hK20) (by decide) hK20.1.choose_spec.2.2.2.2.2.2.2.2.2.2.2.2.2.2.2.2.2.1 rfl ?_
  refine q_if0_s (p2 := 28) rfl (by decide) (by omega) rfl (fun hb => absurd hb (show ¬ (¬ (0 = 0)) by omega)) (fun _ => ?_)
  refine q_load (v := (6, 455, 0)) (p2 := 29) rfl rfl rfl rfl ?_
  have hm22 := (x_PS_at hm18 (fun j hj hne => by have hj2 := x_some_lt hlt19 hne; exact (frn20 j (by omega) (by omega))))
  refine q_callrE (xs := [(6, 455, 0)]) (p2 := 30) rfl rfl rfl rfl (x_rcv_s 455 (x_KS_455 hK20)) rfl (k_fetchw hc64 hm22.1.choose_spec hK20 (by omega)) (Nat.le_refl _) (Nat.le_refl _) rfl (fun φ23 hR23 => ?_)
  obtain ⟨hK23, frn23⟩ := hR23
  refine q_store (loc2 := [(6, 455, 0), (0, 60, 0), (6, 225, 0), (0, 2, 0), (0, 31, 0)]) (p2 := 31) rfl rfl rfl rfl rfl ?_
  refine q_load (v := (0, 31, 0)) (p2 := 32) rfl rfl rfl rfl ?_
  refine q_const (p2 := 33) rfl rfl ?_
  refine q_icmp_s (p2 := 34) rfl (by decide) (by omega) (by omega) rfl (fun _ => ?_) (fun hb => absurd (show 10 < 31 by omega) hb)
  refine q_load (v := (0, 31, 0)) (p2 := 39) rfl rfl rfl rfl ?_
  refine q_const (p2 := 40) rfl rfl ?_
  refine q_icmp_s (p2 := 41) rfl (by decide) (by omega) (by omega) rfl (fun _ => ?_) (fun hb => absurd (show 19 < 31 by omega) hb)
  refine q_load (v := (6, 455, 0)) (p2 := 46) rfl rfl rfl rfl ?_
  refine q_load (v := (0, 31, 0)) (p2 := 47) rfl rfl rfl rfl ?_
  refine x_n_lt (fun hlt25 => ?_)
  have hm24 := (x_PS_at hm22 (fun j hj hne => by have hj2 := x_some_lt hlt21 hne; exact (frn23 j (by omega))))
  have hv26 := x_mv_at hV20 (fun j hj hne => by have hj2 := x_some_lt hlt21 hne; exact (frn23 j (by omega)))
  refine q_callvB (xs := [(0, 31, 0), (6, 455, 0)]) (p2 := 48) rfl rfl rfl rfl (x_rcv_s 455 (x_KS_455 hK23)) rfl (k_lead_31 (top := 0) (fr := 0) hm24.1.choose_spec hK23 (by omega) (by omega) hv26 (Or.inl rfl) (by omega) (by show (0 : Nat) < 4096; decide)) rfl (fun φ27 n27 sl27 hn27 hN27 hs27 hT27 hR27 => ?_)
  obtain ⟨hK27, frn27⟩ := hR27
  refine q_iinc (z := 3) (loc2 := [(6, 455, 0), (0, 60, 0), (6, 225, 0), (0, 3, 0), (0, 31, 0)]) (p2 := 49) rfl rfl (by decide) rfl rfl ?_
  refine q_goto rfl ?_
  refine q_load (v := (0, 3, 0)) (p2 := 20) rfl rfl rfl rfl ?_
  refine q_const (p2 := 21) rfl rfl ?_
  refine q_icmp_s (p2 := 22) rfl (by decide) (by omega) (by omega) rfl (fun hb => absurd hb (show ¬ (¬ (3 < 1000000)) by omega)) (fun _ => ?_)
  refine q_load (v := (6, 455, 0)) (p2 := 23) rfl rfl rfl rfl ?_
  refine q_getv (v := (0, 0, 0)) (p2 := 24) rfl (x_KS_455 hK27) (by decide) hK27.1.choose_spec.2.2.2.2.2.2.2.2.2.2.2.1 rfl ?_
  refine q_if0_s (p2 := 25) rfl (by decide) (by omega) rfl (fun _ => ?_) (fun hb => absurd (show ¬ (0 < 0) by omega) hb)
  refine q_load (v := (6, 455, 0)) (p2 := 51) rfl rfl rfl rfl ?_
  refine q_getv (v := (0, 0, 0)) (p2 := 52) rfl (x_KS_455 hK27) (by decide) hK27.1.choose_spec.2.2.2.2.2.2.2.2.2.2.2.2.2.2.2.2.2.1 rfl ?_
  refine q_if0_s (p2 := 53) rfl (by decide) (by omega) rfl (fun _ => ?_) (fun hb => absurd (show 0 = 0 by omega) hb)
  refine q_load (v := (6, 455, 0)) (p2 := 57) rfl rfl rfl rfl ?_
  refine q_callrE (xs := [(6, 455, 0)]) (p2 := 58) rfl rfl rfl rfl (x_rcv_s 455 (x_KS_455 hK27)) rfl (k_pop (top := 0) hK27 (by omega)) (Nat.le_refl _) (Nat.le_refl _) rfl (fun φ28 hR28 => ?_)
  obtain ⟨hK28, frn28⟩ := hR28
  refine x_n_lt (fun hlt30 => ?_)
  have hv29 := x_mv_at hv26 (fun j hj hne => by have hj2 := x_some_lt hlt25 hne; exact ((frn28 j (by omega)).trans (frn27 j (by omega))))
  exact q_retv (v := (6, v20, 0)) rfl rfl (⟨rfl, ⟨by omega, by omega⟩, ⟨by omega, by omega⟩, v20, rfl, ⟨_, _, _, _, _, _, _, _, _, _, hK28⟩, hv29, fun j hj1 hj2 => ((frn28 j (by omega)).trans ((frn27 j (by omega)).trans ((frn23 j (by omega)).trans ((frn20 j (by omega) (by omega)).trans ((frn17 j (by omega)).trans ((frn14 j (by omega)).trans ((frn11 j (by omega)).trans ((frn8 j (by omega)).trans ((fr4 j (by omega)).trans ((fr3 j (by omega)).trans ((fr2 j (by omega)).trans (fr1 j (by omega)))))))))))))⟩)
end FPOP50
