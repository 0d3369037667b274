section FPOP25
/-- the Machine: top, frames, place, steps of this run and of all; its rows; the code; the Operators; the schema -/
def x_KS (φ : FH) (top fr pc_ mm mi : Nat) (st lo re rs fl se co : Nat → Nat) : Prop :=
  x_mc φ top fr pc_ 0 mm mi ∧ x_vrow φ 456 4096 st ∧ x_vrow φ 457 256 lo ∧ x_irow φ 462 8 re ∧ x_irow φ 463 8 rs ∧ x_irow φ 464 8 fl ∧ x_vrow φ 465 8 se ∧ x_irow φ 450 12288 co ∧ x_ops466 φ ∧ x_sch φ
theorem x_ops_at {φ φ1 : FH} (h : x_ops466 φ) (e : φ1 466 = φ 466) : x_ops466 φ1 := h.imp (fun _ q => ⟨e.trans q.1, q.2⟩)
/-- another top, place, frame; another stack -/
theorem x_KS_st {φ φ2 : FH} {top fr pc_ mm mi top2 fr2 pc2 mm2 mi2 : Nat} {st lo re rs fl se co st2 : Nat → Nat} (h : x_KS φ top fr pc_ mm mi st lo re rs fl se co) (h1 : x_mc φ2 top2 fr2 pc2 0 mm2 mi2) (h2 : x_vrow φ2 456 4096 st2) (e : ∀ j, j ≠ 455 → j ≠ 456 → φ2 j = φ j) : x_KS φ2 top2 fr2 pc2 mm2 mi2 st2 lo re rs fl se co := by
  obtain ⟨-, -, a3, a4, a5, a6, a7, a8, a9, b1⟩ := h
  exact ⟨h1, h2, x_vrow_at a3 (e _ (by decide) (by decide)), x_irow_at a4 (e _ (by decide) (by decide)), x_irow_at a5 (e _ (by decide) (by decide)), x_irow_at a6 (e _ (by decide) (by decide)), x_vrow_at a7 (e _ (by decide) (by decide)), x_irow_at a8 (e _ (by decide) (by decide)), x_ops_at a9 (e _ (by decide) (by decide)), x_sch_at b1 (fun j _ hj => e j (by omega) (by omega))⟩
/-- nothing of it has changed -/
theorem x_KS_at {φ φ2 : FH} {top fr pc_ mm mi : Nat} {st lo re rs fl se co : Nat → Nat} (h : x_KS φ top fr pc_ mm mi st lo re rs fl se co) (e : ∀ j, 237 ≤ j → j ≤ 466 → φ2 j = φ j) : x_KS φ2 top fr pc_ mm mi st lo re rs fl se co := by
  obtain ⟨a1, a2, a3, a4, a5, a6, a7, a8, a9, b1⟩ := h
  exact ⟨x_mc_at a1 (e _ (by decide) (by decide)), x_vrow_at a2 (e _ (by decide) (by decide)), x_vrow_at a3 (e _ (by decide) (by decide)), x_irow_at a4 (e _ (by decide) (by decide)), x_irow_at a5 (e _ (by decide) (by decide)), x_irow_at a6 (e _ (by decide) (by decide)), x_vrow_at a7 (e _ (by decide) (by decide)), x_irow_at a8 (e _ (by decide) (by decide)), x_ops_at a9 (e _ (by decide) (by decide)), x_sch_at b1 (fun j h1 h2 => e j h1 (by omega))⟩
/-- the Machine's cells apart, all is as it was -/
abbrev x_kf (φ φ2 : FH) : Prop := ∀ j, j < 455 ∨ 466 ≤ j → φ2 j = φ j
variable {d n sl top fr pc_ mm mi : Nat} {st lo re rs fl se co : Nat → Nat} {φ : FH}
theorem k_push {v : Nat} {m : MV} (hK : x_KS φ top fr pc_ mm mi st lo re rs fl se co) (hv : x_mv φ v m) (ht : top < 4096) : x_f x_P (d + 1) 180 [(6, 455, 0), (6, v, 0)] φ n sl (x_vR n sl (fun φ2 => x_KS φ2 (top + 1) fr pc_ mm mi (fun i => if i = top then v else st i) lo re rs fl se co ∧ x_kf φ φ2)) := by
  obtain ⟨fV, hV⟩ := x_mv_obj hv
  have ⟨⟨fM, hMc⟩, hSt, _⟩ := hK
  have h9 := hv.1
  refine x_f_mono (e_push hMc hSt hV (by omega) ht) (fun u w φ2 n2 sl2 q => ?_)
  obtain ⟨q1, q2, q3, q4, q5, q6⟩ := q
  exact ⟨q1, q2, q3, x_KS_st hK q4 q5 q6, fun j hj => q6 j (by omega) (by omega)⟩
theorem k_pop (hK : x_KS φ (top + 1) fr pc_ mm mi st lo re rs fl se co) (ht : top < 4096) : x_f x_P (d + 1) 112 [(6, 455, 0)] φ n sl (x_rR (6, st top, 0) n sl (fun φ2 => x_KS φ2 top fr pc_ mm mi st lo re rs fl se co ∧ x_kf φ φ2)) := by
  have ⟨⟨fM, hMc⟩, hSt, _⟩ := hK
  refine x_f_mono (e_pop hMc hSt ht) (fun u w φ2 n2 sl2 q => ?_)
  obtain ⟨q1, q2, q3, q4, q5, q6⟩ := q
  exact ⟨q1, q2, q3, q4, x_KS_st hK q5 (x_vrow_at hSt (q6 _ (by decide))) (fun j h1 _ => q6 j h1), fun j hj => q6 j (by omega)⟩
theorem k_fetch {A B made sv svm s9 : Nat} {fP : Nat → XV} (hP : x_pop φ A B made sv svm s9 fP) (hK : x_KS φ top fr pc_ mm mi st lo re rs fl se co) (hpc : pc_ < 12288) : x_f x_P (d + 1) 108 [(6, 455, 0), (11, 0, 0), (11, 0, 0)] φ n sl (x_rR (0, co pc_, 0) n sl (fun φ2 => x_KS φ2 top fr (pc_ + 1) mm mi st lo re rs fl se co ∧ x_kf φ φ2)) := by
  have ⟨⟨fM, hMc⟩, hSt, _, _, _, _, _, hCo, _, hSc⟩ := hK
  refine x_f_mono (e_fetch hP hSc hMc hCo hpc) (fun u w φ2 n2 sl2 q => ?_)
  obtain ⟨q1, q2, q3, q4, q5, q6⟩ := q
  exact ⟨q1, q2, q3, q4, x_KS_st hK q5 (x_vrow_at hSt (q6 _ (by decide))) (fun j h1 _ => q6 j h1), fun j hj => q6 j (by omega)⟩
theorem k_step {c : Nat} (hK : x_KS φ top fr pc_ mm mi st lo re rs fl se co) (hc1 : mm + c ≤ 1000) (hc2 : mi + c ≤ 20000) : x_f x_P (d + 1) 179 [(6, 455, 0), (0, c, 0), (11, 0, 0)] φ n sl (x_vR n sl (fun φ2 => x_KS φ2 top fr pc_ (mm + c) (mi + c) st lo re rs fl se co ∧ x_kf φ φ2)) := by
  have ⟨⟨fM, hMc⟩, hSt, _⟩ := hK
  refine x_f_mono (e_step hMc hc1 hc2) (fun u w φ2 n2 sl2 q => ?_)
  obtain ⟨q1, q2, q3, q5, q6⟩ := q
  exact ⟨q1, q2, q3, x_KS_st hK q5 (x_vrow_at hSt (q6 _ (by decide))) (fun j h1 _ => q6 j h1), fun j hj => q6 j (by omega)⟩
theorem k_open {start kind self : Nat} {m m0 : MV} (hK : x_KS φ top fr pc_ mm mi st lo re rs fl se co) (hN : x_mv φ 225 m0) (hv : x_mv φ self m) (hf8 : fr < 8) : x_f x_P (d + 1) 107 [(6, 455, 0), (0, start, 0), (0, kind, 0), (6, self, 0), (11, 0, 0)] φ n sl (x_vR n sl (fun φ2 => x_KS φ2 top (fr + 1) start mm mi st (x_lo lo fr 32) (fun i => if i = fr then pc_ else re i) (fun i => if i = fr then kind else rs i) (fun i => if i = fr then top else fl i) (fun i => if i = fr then self else se i) co ∧ x_kf φ φ2)) := by
  obtain ⟨fV, hV⟩ := x_mv_obj hv
  obtain ⟨fN, hN0⟩ := x_mv_obj hN
  have ⟨⟨fM, hMc⟩, hSt, hLo, hRe, hRs, hFl, hSe, hCo, hO, hSc⟩ := hK
  refine x_f_mono (e_open hMc hLo hRe hRs hFl hSe (start := start) (kind := kind) hN0 hV hv.1 hf8) (fun u w φ2 n2 sl2 q => ?_)
  obtain ⟨q1, q2, q3, r1, r2, r3, r4, r5, r6, q6⟩ := q
  have e : ∀ j, j < 455 ∨ 466 ≤ j → φ2 j = φ j := fun j hj => q6 j (by omega) (by omega) (by omega) (by omega) (by omega) (by omega)
  exact ⟨q1, q2, q3, ⟨r1, x_vrow_at hSt (q6 _ (by decide) (by decide) (by decide) (by decide) (by decide) (by decide)), r6, r2, r3, r4, r5, x_irow_at hCo (e _ (by decide)), x_ops_at hO (e _ (by decide)), x_sch_at hSc (fun j _ h2 => e j (by omega))⟩, e⟩
theorem k_close {A B made sv svm s9 v : Nat} {fP : Nat → XV} {m : MV} (hP : x_pop φ A B made sv svm s9 fP) (hK : x_KS φ top (fr + 1) pc_ mm mi st lo re rs fl se co) (hv : x_mv φ v m) (hk : rs fr = 4294967293 ∨ (rs fr = 2 ∧ m.1 ≤ 1) ∨ (rs fr = 6 ∧ m.1 ≤ 1)) (hf8 : fr < 8) (hflb : fl fr < 4096) : x_f x_P (d + 4) 199 [(6, 455, 0), (6, v, 0), (11, 0, 0), (11, 0, 0)] φ n sl (x_vR n sl (fun φ2 => x_KS φ2 (fl fr + 1) fr (re fr) mm mi (fun i => if i = fl fr then v else st i) lo re rs fl se co ∧ x_kf φ φ2)) := by
  have ⟨⟨fM, hMc⟩, hSt, hLo, hRe, hRs, hFl, hSe, hCo, hO, hSc⟩ := hK
  have key : x_f x_P (d + 4) 199 [(6, 455, 0), (6, v, 0), (11, 0, 0), (11, 0, 0)] φ n sl (x_vR n sl (fun φ2 => x_mc φ2 (fl fr + 1) fr (re fr) 0 mm mi ∧ x_vrow φ2 456 4096 (fun i => if i = fl fr then v else st i) ∧ ∀ j, j ≠ 455 → j ≠ 456 → φ2 j = φ j)) := by
    rcases hk with h | ⟨h, h1⟩ | ⟨h, h1⟩
    · exact e_close_none hP hSc hMc hSt hRe hRs hFl hv h hf8 hflb
    · exact e_close_2 hP hSc hMc hSt hRe hRs hFl hv h h1 hf8 hflb
    · exact e_close_6 hP hSc hMc hSt hRe hRs hFl hv h h1 hf8 hflb
  refine x_f_mono key (fun u w φ2 n2 sl2 q => ?_)
  obtain ⟨q1, q2, q3, q4, q5, q6⟩ := q
  exact ⟨q1, q2, q3, x_KS_st hK q4 q5 q6, fun j hj => q6 j (by omega) (by omega)⟩
end FPOP25
