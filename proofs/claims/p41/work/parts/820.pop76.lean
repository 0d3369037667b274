section FPOP76
abbrev St : Type := Nat × (Nat → Nat) × (Nat → MV)
def mkA (made : Nat) (comb : Nat → Nat) (hm : Nat → MV) (r : Nat) : Nat × St := if made < 40 then (made, made + 1, x_s comb made r, x_em made hm) else (4294967294, made, comb, hm)
def st2 (made : Nat) (comb : Nat → Nat) (hm : Nat → MV) (i v : Nat) : Nat × St := if x_isA made comb i 0 then (1, made, comb, zhm hm (i * 40 + 0) (1, v, 0, 0, [])) else (4294967295, made, comb, hm)
def st5 (made : Nat) (comb : Nat → Nat) (hm : Nat → MV) (i j : Nat) : Nat × St := if x_isA made comb j 0 then (if (i < made ∧ comb i ≠ 0) ∧ (j < made ∧ comb j ≠ 0) then (6, made, comb, zhm hm (j * 40 + 1) (6, 0, 3, 5, x_dd (x_lks made comb hm) made [] [i, j])) else (0, made, comb, zhm hm (j * 40 + 1) MV0)) else (4294967295, made, comb, hm)
def st6 (made : Nat) (comb : Nat → Nat) (hm : Nat → MV) (i j : Nat) : Nat × St := if x_isA made comb j 1 then (if (i < made ∧ comb i ≠ 0) then (5, made, comb, zhm hm (j * 40 + 3) (5, i, 0, 0, [])) else (0, made, comb, zhm hm (j * 40 + 3) MV0)) else (4294967295, made, comb, hm)
def st8d (made : Nat) (comb : Nat → Nat) (hm : Nat → MV) (i : Nat) : Nat × St := if i < made ∧ comb i ≠ 0 then (1, made, x_s comb i 0, x_rm i (x_em i hm) (made * 40)) else (4294967295, made, comb, hm)
def st8 (made : Nat) (comb : Nat → Nat) (hm : Nat → MV) (i j : Nat) : Nat := match j with
  | 0 => if x_isA made comb i 0 then (hm (i * 40 + 0)).1 else 4294967295
  | 1 => if x_isA made comb i 0 then (hm (i * 40 + 1)).1 else 4294967295
  | 2 => if x_isA made comb i 0 then (hm (i * 40 + 0)).1 else 4294967295
  | 3 => if x_isA made comb i 1 then (hm (i * 40 + 3)).1 else 4294967295
  | 4 => if x_isA made comb i 2 then (if (x_fl (fun y => comb y ≠ 0 ∧ x_ho (hm (y * 40 + 3)) i) made).length ≤ 24 then 6 else 0) else 4294967295
  | _ => 4294967295
def st9 (made : Nat) (comb : Nat → Nat) (hm : Nat → MV) (r : Nat) : Nat := match r with
  | 6 => if (x_fl (q6 made comb hm) made).length = 0 then 1 else 0
  | 8 => if (x_fl (q8 made comb hm) made).length = 0 then 1 else 0
  | 0 => 1
  | 1 => 1
  | 2 => 1
  | 3 => 1
  | 4 => 1
  | 5 => 1
  | 7 => 1
  | _ => 4294967295
def st10 (made : Nat) (comb : Nat → Nat) (hm : Nat → MV) (i : Nat) : Nat := if i < made ∧ comb i ≠ 0 then (hm (i * 40 + 0)).1 else 0
def st11 (made : Nat) (comb : Nat → Nat) (hm : Nat → MV) (i : Nat) : Nat := if i < made ∧ comb i ≠ 0 then (if (x_al comb hm i (made * 40)).length ≤ 24 then 6 else 0) else 0
def stpc (c made : Nat) (comb : Nat → Nat) (hm : Nat → MV) (i j v r t : Nat) : Nat × St := match c with
  | 0 => if i % 2 = 0 then (4294967282, made, comb, hm) else mkA made comb hm 3
  | 1 => if i % 2 = 0 then mkA made comb hm 3 else mkA made comb hm 5
  | 2 => st2 made comb hm i v
  | 3 => st2 made comb hm i v
  | 4 => st2 made comb hm i v
  | 5 => st5 made comb hm i j
  | 6 => st6 made comb hm i j
  | 7 => st6 made comb hm i j
  | 8 => if t = 0 then st8d made comb hm i else (st8 made comb hm i j, made, comb, hm)
  | 9 => (st9 made comb hm r, made, comb, hm)
  | 10 => (st10 made comb hm i, made, comb, hm)
  | 11 => (st11 made comb hm i, made, comb, hm)
  | 12 => (3, made, comb, hm)
  | _ => ((wl comb hm made).length, made, comb, hm)
def stp (made : Nat) (comb : Nat → Nat) (hm : Nat → MV) (x : Nat) : Nat × St := stpc (x % 16) made comb hm (x / 16 % 8) (x / 128 % 8) (x / 1024 % 1024) (x / 16 % 16) (x / 1024 % 8)
/-- what the population keeps -/
def MInv (made : Nat) (comb : Nat → Nat) (hm : Nat → MV) : Prop := made ≤ 40 ∧ (∀ i, x_pv2 (hm i)) ∧ (∀ x, x < 40 → zI0 hm x) ∧ (∀ x, x < 40 → zI1 hm x) ∧ (∀ x, x < 40 → zI3 hm x) ∧ (∀ x, x < made → comb x = 0 ∨ comb x = 3 ∨ comb x = 5) ∧ ∀ i, (hm i).1 = 6 → i % 40 = 1
def callP (R : Nat × St) (sv svm mi : Nat) (sc : Nat → Nat) (sm : Nat → MV) : XV → FH → Prop := fun zw φ2 => ∃ (tp : Nat → Nat) (lf mi2 : Nat) (mh : MV) (noted verd : Nat) (ins ver : Nat → Nat) (sz : Nat) (bw : Nat → Nat), zw = (0, R.1, 0) ∧ mi2 ≤ mi + 100 ∧ zG φ2 0 tp lf mi2 R.2.1 sv svm R.2.2.1 R.2.2.2 sc sm mh noted verd ins ver sz bw
theorem CP_of {d M : Nat} {loc : List XV} {φ : FH} {n sl cn cs a mi2 made2 sv svm mi lf noted verd sz : Nat} {comb2 ins ver bw sc : Nat → Nat} {hm2 sm : Nat → MV} {mh : MV} {R : Nat × St} (h : x_f x_P d M loc φ n sl (x_bR n sl cn cs (fun zw φ2 => ∃ tpZ : Nat → Nat, zw = (0, a, 0) ∧ zG φ2 0 tpZ lf mi2 made2 sv svm comb2 hm2 sc sm mh noted verd ins ver sz bw))) (hcn : cn ≤ 400) (hcs : cs ≤ 4000) (hmi : mi2 ≤ mi + 100) (e : R = (a, made2, comb2, hm2)) : x_f x_P d M loc φ n sl (x_bR n sl 400 4000 (callP R sv svm mi sc sm)) := by
  subst e
  refine x_f_mono h (fun u w φ2 n2 sl2 q => ?_)
  obtain ⟨q1, ⟨q2, q3⟩, ⟨q4, q5⟩, tpZ, q6, q7⟩ := q
  exact ⟨q1, ⟨q2, by omega⟩, ⟨q4, by omega⟩, _, _, _, _, _, _, _, _, _, _, q6, hmi, q7⟩
theorem CP_j {d M : Nat} {loc : List XV} {φ : FH} {n sl made sv svm mi lf sz : Nat} {tp comb bw sc : Nat → Nat} {hm sm : Nat → MV} {mh : MV} {R : Nat × St} {q : Nat → Prop} [DecidablePred q] (h : x_f x_P d M loc φ n sl (x_bR n sl 100 600 (fun zw φ2 => ∃ mi2 noted2 verd2 : Nat, ∃ ins2 ver2 : Nat → Nat, zw = (0, verd2, 0) ∧ mi2 ≤ mi + 100 ∧ JI q made noted2 verd2 ins2 ver2 ∧ zG φ2 0 tp lf mi2 made sv svm comb hm sc sm mh noted2 verd2 ins2 ver2 sz bw))) (e : R = (if (x_fl q made).length = 0 then 1 else 0, made, comb, hm)) : x_f x_P d M loc φ n sl (x_bR n sl 400 4000 (callP R sv svm mi sc sm)) := by
  subst e
  refine x_f_mono h (fun u w φ2 n2 sl2 q => ?_)
  obtain ⟨q1, ⟨q2, q3⟩, ⟨q4, q5⟩, mi2, noted2, verd2, ins2, ver2, q6, q7, q8, q9⟩ := q
  refine ⟨q1, ⟨q2, by omega⟩, ⟨q4, by omega⟩, _, _, _, _, _, _, _, _, _, _, ?_, q7, q9⟩
  rw [q6]
  congr 2
  show verd2 = if _ then 1 else 0
  by_cases hz : noted2 = 0
  · rw [if_pos (q8.1 ▸ hz)]; exact q8.2.1 hz
  · rw [if_neg (q8.1 ▸ hz)]; exact (q8.2.2 hz).1
theorem zN_len {made : Nat} {comb : Nat → Nat} {hm : Nat → MV} : (x_fl (qN made comb hm) made).length = 0 := by
  have e : x_fl (qN made comb hm) made = [] := by
    unfold x_fl
    exact List.filter_eq_nil_iff.mpr (fun a _ => by simp)
  rw [e]; rfl
theorem CP_w {d M : Nat} {loc : List XV} {φ : FH} {n sl made sv svm mi lf noted verd : Nat} {tp comb ins ver sc : Nat → Nat} {hm sm : Nat → MV} {mh : MV} {R : Nat × St} {k : Nat} (h : x_f x_P d M loc φ n sl (x_bR n sl 0 0 (fun zw φ2 => ∃ bwZ : Nat → Nat, zw = (0, k, 0) ∧ zG φ2 0 tp lf mi made sv svm comb hm sc sm mh noted verd ins ver k bwZ))) (e : R = (k, made, comb, hm)) : x_f x_P d M loc φ n sl (x_bR n sl 400 4000 (callP R sv svm mi sc sm)) := by
  subst e
  refine x_f_mono h (fun u w φ2 n2 sl2 q => ?_)
  obtain ⟨q1, ⟨q2, q3⟩, ⟨q4, q5⟩, bwZ, q6, q7⟩ := q
  exact ⟨q1, ⟨q2, by omega⟩, ⟨q4, by omega⟩, _, _, _, _, _, _, _, _, _, _, q6, by omega, q7⟩
theorem z_cnt {hm : Nat → MV} (h : ∀ i, (hm i).1 = 6 → i % 40 = 1) (p : Nat) : x_cnt hm p ≤ (p + 38) / 40 := by
  induction p with
  | zero => exact Nat.zero_le _
  | succ p ih =>
    rw [x_cnt_s]
    by_cases hp : (hm p).1 = 6
    · rw [if_pos hp]; have := h p hp; omega
    · rw [if_neg hp]; omega
theorem z_em6 {hm : Nat → MV} {x : Nat} (h : ∀ i, (hm i).1 = 6 → i % 40 = 1) (i : Nat) (h6 : (x_em x hm i).1 = 6) : i % 40 = 1 := by
  unfold x_em at h6
  by_cases hc : x * 40 ≤ i ∧ i < x * 40 + 40
  · rw [if_pos hc] at h6; exact absurd h6 (by show ¬ (0 = 6); decide)
  · rw [if_neg hc] at h6; exact h i h6
theorem z_bit {made i : Nat} {comb : Nat → Nat} (hcb : ∀ x, x < made → comb x = 0 ∨ comb x = 3 ∨ comb x = 5) (h : i < made ∧ comb i ≠ 0) : 1 &&& comb i ≠ 0 := by
  rcases hcb i h.1 with q | q | q
  · exact absurd q h.2
  · rw [q]; decide
  · rw [q]; decide
theorem z_isA0 {made i : Nat} {comb : Nat → Nat} (hcb : ∀ x, x < made → comb x = 0 ∨ comb x = 3 ∨ comb x = 5) (h : i < made ∧ comb i ≠ 0) : x_isA made comb i 0 := by
  refine ⟨h, ?_⟩
  rcases hcb i h.1 with q | q | q
  · exact absurd q h.2
  · rw [q]; decide
  · rw [q]; decide
theorem l15 (x : Nat) : x &&& 15 = x % 16 := Nat.and_two_pow_sub_one_eq_mod x 4
theorem l7 (x : Nat) : x &&& 7 = x % 8 := Nat.and_two_pow_sub_one_eq_mod x 3
theorem l1 (x : Nat) : x &&& 1 = x % 2 := Nat.and_two_pow_sub_one_eq_mod x 1
theorem l1023 (x : Nat) : x &&& 1023 = x % 1024 := Nat.and_two_pow_sub_one_eq_mod x 10
theorem r4 (x : Nat) : x >>> 4 = x / 16 := Nat.shiftRight_eq_div_pow x 4
theorem r7 (x : Nat) : x >>> 7 = x / 128 := Nat.shiftRight_eq_div_pow x 7
theorem r10 (x : Nat) : x >>> 10 = x / 1024 := Nat.shiftRight_eq_div_pow x 10
theorem zHM_of {made : Nat} {comb : Nat → Nat} {hm : Nat → MV} (h : MInv made comb hm) : ∀ x, x < 40 → ∀ a, a = 0 ∨ a = 1 ∨ a = 3 → zHM (hm (x * 40 + a)) := by
  intro x hx a ha
  rcases ha with rfl | rfl | rfl
  · rcases h.2.2.1 x hx with q | ⟨k, hk, q⟩
    · exact Or.inl q
    · exact Or.inr (Or.inl ⟨k, hk, q⟩)
  · rcases h.2.2.2.1 x hx with q | ⟨L, h1, h2, q⟩
    · exact Or.inl q
    · exact Or.inr (Or.inr (Or.inr ⟨L, h1, fun y hy => Nat.lt_trans (h2 y hy) (by decide), q⟩))
  · rcases h.2.2.2.2.1 x hx with q | ⟨y, hy, q⟩
    · exact Or.inl q
    · exact Or.inr (Or.inr (Or.inl ⟨y, Nat.lt_trans hy (by decide), q⟩))
set_option maxHeartbeats 4000000 in
theorem zc_call {d n sl : Nat} {φ : FH} {tp : Nat → Nat} {lf : Nat} {mi : Nat} {made : Nat} {sv : Nat} {svm : Nat} {comb : Nat → Nat} {hm : Nat → MV} {sc : Nat → Nat} {sm : Nat → MV} {mh : MV} {noted : Nat} {verd : Nat} {ins : Nat → Nat} {ver : Nat → Nat} {sz : Nat} {bw : Nat → Nat} {x : Nat} (hG : zG φ 0 tp lf mi made sv svm comb hm sc sm mh noted verd ins ver sz bw) (hI : MInv made comb hm) (hn0 : 486 ≤ n) (hmi : mi + 300 ≤ 20000) (hx32 : x < 4294967296) : x_f x_P (d + 21) 4 [(6, 0, 0), (0, x, 0), (11, 0, 0), (11, 0, 0), (11, 0, 0)] φ n sl (x_bR n sl 400 4000 (callP (stp made comb hm x) sv svm mi sc sm)) := by
  have hz := zHM_of hI
  obtain ⟨hmade, hpv, hI0, hI1, hI3, hcb, h6⟩ := hI
  unfold stp
  match hc : x % 16, Nat.mod_lt x (show 16 > 0 by decide) with
  | 0, _ =>
    show x_f _ _ _ _ _ _ _ (x_bR _ _ _ _ (callP (stpc 0 made comb hm (x / 16 % 8) (x / 128 % 8) (x / 1024 % 1024) (x / 16 % 16) (x / 1024 % 8)) sv svm mi sc sm))
    by_cases hb : x / 16 % 8 % 2 = 0
    · exact CP_of (zc_call_0a (d := d + 16) hG hn0 hpv hmi hx32 (r4 x) (l7 _) (r7 x) (l7 _) (by rw [l15]; exact hc) (by rw [l1]; exact hb) (Nat.mod_lt _ (by decide)) (Nat.mod_lt _ (by decide)) ) (by decide) (by decide) (by omega) (by exact if_pos hb)
    · have hb1 : x / 16 % 8 % 2 = 1 := by omega
      by_cases hr : made < 40
      · exact CP_of (zc_call_0br (d := d + 15) hG hn0 hpv hmi hx32 (r4 x) (l7 _) (r7 x) (l7 _) (by rw [l15]; exact hc) (by rw [l1]; exact hb1) (Nat.mod_lt _ (by decide)) (Nat.mod_lt _ (by decide)) hr) (by decide) (by decide) (by omega) (by exact (if_neg hb).trans (if_pos hr))
      · have hr40 : made = 40 := by omega
        exact CP_of (zc_call_0bf (d := d + 15) hG hn0 hpv hmi hx32 (r4 x) (l7 _) (r7 x) (l7 _) (by rw [l15]; exact hc) (by rw [l1]; exact hb1) (Nat.mod_lt _ (by decide)) (Nat.mod_lt _ (by decide)) hr40) (by decide) (by decide) (by omega) (by exact (if_neg hb).trans (if_neg hr))
  | 1, _ =>
    show x_f _ _ _ _ _ _ _ (x_bR _ _ _ _ (callP (stpc 1 made comb hm (x / 16 % 8) (x / 128 % 8) (x / 1024 % 1024) (x / 16 % 16) (x / 1024 % 8)) sv svm mi sc sm))
    by_cases hb : x / 16 % 8 % 2 = 0
    · by_cases hr : made < 40
      · exact CP_of (zc_call_1ar (d := d + 15) hG hn0 hpv hmi hx32 (r4 x) (l7 _) (r7 x) (l7 _) (by rw [l15]; exact hc) (by rw [l1]; exact hb) (Nat.mod_lt _ (by decide)) (Nat.mod_lt _ (by decide)) hr) (by decide) (by decide) (by omega) (by exact (if_pos hb).trans (if_pos hr))
      · have hr40 : made = 40 := by omega
        exact CP_of (zc_call_1af (d := d + 15) hG hn0 hpv hmi hx32 (r4 x) (l7 _) (r7 x) (l7 _) (by rw [l15]; exact hc) (by rw [l1]; exact hb) (Nat.mod_lt _ (by decide)) (Nat.mod_lt _ (by decide)) hr40) (by decide) (by decide) (by omega) (by exact (if_pos hb).trans (if_neg hr))
    · have hb1 : x / 16 % 8 % 2 = 1 := by omega
      by_cases hr : made < 40
      · exact CP_of (zc_call_1br (d := d + 15) hG hn0 hpv hmi hx32 (r4 x) (l7 _) (r7 x) (l7 _) (by rw [l15]; exact hc) (by rw [l1]; exact hb1) (Nat.mod_lt _ (by decide)) (Nat.mod_lt _ (by decide)) hr) (by decide) (by decide) (by omega) (by exact (if_neg hb).trans (if_pos hr))
      · have hr40 : made = 40 := by omega
        exact CP_of (zc_call_1bf (d := d + 15) hG hn0 hpv hmi hx32 (r4 x) (l7 _) (r7 x) (l7 _) (by rw [l15]; exact hc) (by rw [l1]; exact hb1) (Nat.mod_lt _ (by decide)) (Nat.mod_lt _ (by decide)) hr40) (by decide) (by decide) (by omega) (by exact (if_neg hb).trans (if_neg hr))
  | 2, _ =>
    show x_f _ _ _ _ _ _ _ (x_bR _ _ _ _ (callP (stpc 2 made comb hm (x / 16 % 8) (x / 128 % 8) (x / 1024 % 1024) (x / 16 % 16) (x / 1024 % 8)) sv svm mi sc sm))
    have hvb : x / 1024 % 1024 < 1024 := Nat.mod_lt _ (by decide)
    by_cases hA : x_isA made comb (x / 16 % 8) 0
    · by_cases h1 : x / 1024 % 1024 ≤ 9
      · exact CP_of (zc_call_2_1 (d := d + 9) hG hn0 hpv hmi hx32 (r4 x) (l7 _) (r7 x) (l7 _) (by rw [l15]; exact hc) (r10 x) (l1023 _) (Nat.mod_lt _ (by decide)) (Nat.mod_lt _ (by decide)) ⟨by omega, h1⟩ hA) (by decide) (by decide) (by omega) (by exact if_pos hA)
      · by_cases h2 : x / 1024 % 1024 ≤ 99
        · exact CP_of (zc_call_2_2 (d := d + 9) hG hn0 hpv hmi hx32 (r4 x) (l7 _) (r7 x) (l7 _) (by rw [l15]; exact hc) (r10 x) (l1023 _) (Nat.mod_lt _ (by decide)) (Nat.mod_lt _ (by decide)) ⟨by omega, h2⟩ hA) (by decide) (by decide) (by omega) (by exact if_pos hA)
        · by_cases h3 : x / 1024 % 1024 ≤ 999
          · exact CP_of (zc_call_2_3 (d := d + 9) hG hn0 hpv hmi hx32 (r4 x) (l7 _) (r7 x) (l7 _) (by rw [l15]; exact hc) (r10 x) (l1023 _) (Nat.mod_lt _ (by decide)) (Nat.mod_lt _ (by decide)) ⟨by omega, h3⟩ hA) (by decide) (by decide) (by omega) (by exact if_pos hA)
          · exact CP_of (zc_call_2_4 (d := d + 9) hG hn0 hpv hmi hx32 (r4 x) (l7 _) (r7 x) (l7 _) (by rw [l15]; exact hc) (r10 x) (l1023 _) (Nat.mod_lt _ (by decide)) (Nat.mod_lt _ (by decide)) ⟨by omega, by omega⟩ hA) (by decide) (by decide) (by omega) (by exact if_pos hA)
    · by_cases h1 : x / 1024 % 1024 ≤ 9
      · exact CP_of (zc_call_2_bad1 (d := d + 16) hG hn0 hpv hmi hx32 (r4 x) (l7 _) (r7 x) (l7 _) (by rw [l15]; exact hc) (r10 x) (l1023 _) (Nat.mod_lt _ (by decide)) (Nat.mod_lt _ (by decide)) ⟨by omega, h1⟩ hA) (by decide) (by decide) (by omega) (by exact if_neg hA)
      · by_cases h2 : x / 1024 % 1024 ≤ 99
        · exact CP_of (zc_call_2_bad2 (d := d + 16) hG hn0 hpv hmi hx32 (r4 x) (l7 _) (r7 x) (l7 _) (by rw [l15]; exact hc) (r10 x) (l1023 _) (Nat.mod_lt _ (by decide)) (Nat.mod_lt _ (by decide)) ⟨by omega, h2⟩ hA) (by decide) (by decide) (by omega) (by exact if_neg hA)
        · by_cases h3 : x / 1024 % 1024 ≤ 999
          · exact CP_of (zc_call_2_bad3 (d := d + 16) hG hn0 hpv hmi hx32 (r4 x) (l7 _) (r7 x) (l7 _) (by rw [l15]; exact hc) (r10 x) (l1023 _) (Nat.mod_lt _ (by decide)) (Nat.mod_lt _ (by decide)) ⟨by omega, h3⟩ hA) (by decide) (by decide) (by omega) (by exact if_neg hA)
          · exact CP_of (zc_call_2_bad4 (d := d + 16) hG hn0 hpv hmi hx32 (r4 x) (l7 _) (r7 x) (l7 _) (by rw [l15]; exact hc) (r10 x) (l1023 _) (Nat.mod_lt _ (by decide)) (Nat.mod_lt _ (by decide)) ⟨by omega, by omega⟩ hA) (by decide) (by decide) (by omega) (by exact if_neg hA)
  | 3, _ =>
    show x_f _ _ _ _ _ _ _ (x_bR _ _ _ _ (callP (stpc 3 made comb hm (x / 16 % 8) (x / 128 % 8) (x / 1024 % 1024) (x / 16 % 16) (x / 1024 % 8)) sv svm mi sc sm))
    have hvb : x / 1024 % 1024 < 1024 := Nat.mod_lt _ (by decide)
    by_cases hA : x_isA made comb (x / 16 % 8) 0
    · by_cases h1 : x / 1024 % 1024 ≤ 9
      · exact CP_of (zc_call_3_1 (d := d + 9) hG hn0 hpv hmi hx32 (r4 x) (l7 _) (r7 x) (l7 _) (by rw [l15]; exact hc) (r10 x) (l1023 _) (Nat.mod_lt _ (by decide)) (Nat.mod_lt _ (by decide)) ⟨by omega, h1⟩ hA) (by decide) (by decide) (by omega) (by exact if_pos hA)
      · by_cases h2 : x / 1024 % 1024 ≤ 99
        · exact CP_of (zc_call_3_2 (d := d + 9) hG hn0 hpv hmi hx32 (r4 x) (l7 _) (r7 x) (l7 _) (by rw [l15]; exact hc) (r10 x) (l1023 _) (Nat.mod_lt _ (by decide)) (Nat.mod_lt _ (by decide)) ⟨by omega, h2⟩ hA) (by decide) (by decide) (by omega) (by exact if_pos hA)
        · by_cases h3 : x / 1024 % 1024 ≤ 999
          · exact CP_of (zc_call_3_3 (d := d + 9) hG hn0 hpv hmi hx32 (r4 x) (l7 _) (r7 x) (l7 _) (by rw [l15]; exact hc) (r10 x) (l1023 _) (Nat.mod_lt _ (by decide)) (Nat.mod_lt _ (by decide)) ⟨by omega, h3⟩ hA) (by decide) (by decide) (by omega) (by exact if_pos hA)
          · exact CP_of (zc_call_3_4 (d := d + 9) hG hn0 hpv hmi hx32 (r4 x) (l7 _) (r7 x) (l7 _) (by rw [l15]; exact hc) (r10 x) (l1023 _) (Nat.mod_lt _ (by decide)) (Nat.mod_lt _ (by decide)) ⟨by omega, by omega⟩ hA) (by decide) (by decide) (by omega) (by exact if_pos hA)
    · by_cases h1 : x / 1024 % 1024 ≤ 9
      · exact CP_of (zc_call_3_bad1 (d := d + 16) hG hn0 hpv hmi hx32 (r4 x) (l7 _) (r7 x) (l7 _) (by rw [l15]; exact hc) (r10 x) (l1023 _) (Nat.mod_lt _ (by decide)) (Nat.mod_lt _ (by decide)) ⟨by omega, h1⟩ hA) (by decide) (by decide) (by omega) (by exact if_neg hA)
      · by_cases h2 : x / 1024 % 1024 ≤ 99
        · exact CP_of (zc_call_3_bad2 (d := d + 16) hG hn0 hpv hmi hx32 (r4 x) (l7 _) (r7 x) (l7 _) (by rw [l15]; exact hc) (r10 x) (l1023 _) (Nat.mod_lt _ (by decide)) (Nat.mod_lt _ (by decide)) ⟨by omega, h2⟩ hA) (by decide) (by decide) (by omega) (by exact if_neg hA)
        · by_cases h3 : x / 1024 % 1024 ≤ 999
          · exact CP_of (zc_call_3_bad3 (d := d + 16) hG hn0 hpv hmi hx32 (r4 x) (l7 _) (r7 x) (l7 _) (by rw [l15]; exact hc) (r10 x) (l1023 _) (Nat.mod_lt _ (by decide)) (Nat.mod_lt _ (by decide)) ⟨by omega, h3⟩ hA) (by decide) (by decide) (by omega) (by exact if_neg hA)
          · exact CP_of (zc_call_3_bad4 (d := d + 16) hG hn0 hpv hmi hx32 (r4 x) (l7 _) (r7 x) (l7 _) (by rw [l15]; exact hc) (r10 x) (l1023 _) (Nat.mod_lt _ (by decide)) (Nat.mod_lt _ (by decide)) ⟨by omega, by omega⟩ hA) (by decide) (by decide) (by omega) (by exact if_neg hA)
  | 4, _ =>
    show x_f _ _ _ _ _ _ _ (x_bR _ _ _ _ (callP (stpc 4 made comb hm (x / 16 % 8) (x / 128 % 8) (x / 1024 % 1024) (x / 16 % 16) (x / 1024 % 8)) sv svm mi sc sm))
    have hvb : x / 1024 % 1024 < 1024 := Nat.mod_lt _ (by decide)
    by_cases hA : x_isA made comb (x / 16 % 8) 0
    · by_cases h1 : x / 1024 % 1024 ≤ 9
      · exact CP_of (zc_call_4_1 (d := d + 9) hG hn0 hpv hmi hx32 (r4 x) (l7 _) (r7 x) (l7 _) (by rw [l15]; exact hc) (r10 x) (l1023 _) (Nat.mod_lt _ (by decide)) (Nat.mod_lt _ (by decide)) ⟨by omega, h1⟩ hA) (by decide) (by decide) (by omega) (by exact if_pos hA)
      · by_cases h2 : x / 1024 % 1024 ≤ 99
        · exact CP_of (zc_call_4_2 (d := d + 9) hG hn0 hpv hmi hx32 (r4 x) (l7 _) (r7 x) (l7 _) (by rw [l15]; exact hc) (r10 x) (l1023 _) (Nat.mod_lt _ (by decide)) (Nat.mod_lt _ (by decide)) ⟨by omega, h2⟩ hA) (by decide) (by decide) (by omega) (by exact if_pos hA)
        · by_cases h3 : x / 1024 % 1024 ≤ 999
          · exact CP_of (zc_call_4_3 (d := d + 9) hG hn0 hpv hmi hx32 (r4 x) (l7 _) (r7 x) (l7 _) (by rw [l15]; exact hc) (r10 x) (l1023 _) (Nat.mod_lt _ (by decide)) (Nat.mod_lt _ (by decide)) ⟨by omega, h3⟩ hA) (by decide) (by decide) (by omega) (by exact if_pos hA)
          · exact CP_of (zc_call_4_4 (d := d + 9) hG hn0 hpv hmi hx32 (r4 x) (l7 _) (r7 x) (l7 _) (by rw [l15]; exact hc) (r10 x) (l1023 _) (Nat.mod_lt _ (by decide)) (Nat.mod_lt _ (by decide)) ⟨by omega, by omega⟩ hA) (by decide) (by decide) (by omega) (by exact if_pos hA)
    · by_cases h1 : x / 1024 % 1024 ≤ 9
      · exact CP_of (zc_call_4_bad1 (d := d + 16) hG hn0 hpv hmi hx32 (r4 x) (l7 _) (r7 x) (l7 _) (by rw [l15]; exact hc) (r10 x) (l1023 _) (Nat.mod_lt _ (by decide)) (Nat.mod_lt _ (by decide)) ⟨by omega, h1⟩ hA) (by decide) (by decide) (by omega) (by exact if_neg hA)
      · by_cases h2 : x / 1024 % 1024 ≤ 99
        · exact CP_of (zc_call_4_bad2 (d := d + 16) hG hn0 hpv hmi hx32 (r4 x) (l7 _) (r7 x) (l7 _) (by rw [l15]; exact hc) (r10 x) (l1023 _) (Nat.mod_lt _ (by decide)) (Nat.mod_lt _ (by decide)) ⟨by omega, h2⟩ hA) (by decide) (by decide) (by omega) (by exact if_neg hA)
        · by_cases h3 : x / 1024 % 1024 ≤ 999
          · exact CP_of (zc_call_4_bad3 (d := d + 16) hG hn0 hpv hmi hx32 (r4 x) (l7 _) (r7 x) (l7 _) (by rw [l15]; exact hc) (r10 x) (l1023 _) (Nat.mod_lt _ (by decide)) (Nat.mod_lt _ (by decide)) ⟨by omega, h3⟩ hA) (by decide) (by decide) (by omega) (by exact if_neg hA)
          · exact CP_of (zc_call_4_bad4 (d := d + 16) hG hn0 hpv hmi hx32 (r4 x) (l7 _) (r7 x) (l7 _) (by rw [l15]; exact hc) (r10 x) (l1023 _) (Nat.mod_lt _ (by decide)) (Nat.mod_lt _ (by decide)) ⟨by omega, by omega⟩ hA) (by decide) (by decide) (by omega) (by exact if_neg hA)
  | 5, _ =>
    show x_f _ _ _ _ _ _ _ (x_bR _ _ _ _ (callP (stpc 5 made comb hm (x / 16 % 8) (x / 128 % 8) (x / 1024 % 1024) (x / 16 % 16) (x / 1024 % 8)) sv svm mi sc sm))
    by_cases hA : x_isA made comb (x / 128 % 8) 0
    · by_cases h1 : (x / 16 % 8 < made ∧ comb (x / 16 % 8) ≠ 0)
      · by_cases h2 : (x / 128 % 8 < made ∧ comb (x / 128 % 8) ≠ 0)
        · exact CP_of (zc_call_5_yy (d := d + 1) hG hn0 hpv hmi hx32 (r4 x) (l7 _) (r7 x) (l7 _) (by rw [l15]; exact hc)  (Nat.mod_lt _ (by decide)) (Nat.mod_lt _ (by decide)) hA h1 h2 (z_bit hcb h1) (z_bit hcb h2)) (by decide) (by decide) (by omega) (by exact (if_pos hA).trans (if_pos ⟨h1, h2⟩))
        · exact CP_of (zc_call_5_yn (d := d + 1) hG hn0 hpv hmi hx32 (r4 x) (l7 _) (r7 x) (l7 _) (by rw [l15]; exact hc)  (Nat.mod_lt _ (by decide)) (Nat.mod_lt _ (by decide)) hA h1 h2) (by decide) (by decide) (by omega) (by exact (if_pos hA).trans (if_neg (fun z => h2 z.2)))
      · by_cases h2 : (x / 128 % 8 < made ∧ comb (x / 128 % 8) ≠ 0)
        · exact CP_of (zc_call_5_ny (d := d + 1) hG hn0 hpv hmi hx32 (r4 x) (l7 _) (r7 x) (l7 _) (by rw [l15]; exact hc)  (Nat.mod_lt _ (by decide)) (Nat.mod_lt _ (by decide)) hA h1 h2) (by decide) (by decide) (by omega) (by exact (if_pos hA).trans (if_neg (fun z => h1 z.1)))
        · exact CP_of (zc_call_5_nn (d := d + 1) hG hn0 hpv hmi hx32 (r4 x) (l7 _) (r7 x) (l7 _) (by rw [l15]; exact hc)  (Nat.mod_lt _ (by decide)) (Nat.mod_lt _ (by decide)) hA h1 h2) (by decide) (by decide) (by omega) (by exact (if_pos hA).trans (if_neg (fun z => h1 z.1)))
    · exact CP_of (zc_call_5_bad (d := d + 16) hG hn0 hpv hmi hx32 (r4 x) (l7 _) (r7 x) (l7 _) (by rw [l15]; exact hc)  (Nat.mod_lt _ (by decide)) (Nat.mod_lt _ (by decide)) hA) (by decide) (by decide) (by omega) (by exact if_neg hA)
  | 6, _ =>
    show x_f _ _ _ _ _ _ _ (x_bR _ _ _ _ (callP (stpc 6 made comb hm (x / 16 % 8) (x / 128 % 8) (x / 1024 % 1024) (x / 16 % 16) (x / 1024 % 8)) sv svm mi sc sm))
    by_cases hA : x_isA made comb (x / 128 % 8) 1
    · by_cases h1 : (x / 16 % 8 < made ∧ comb (x / 16 % 8) ≠ 0)
      · exact CP_of (zc_call_6_y (d := d + 9) hG hn0 hpv hmi hx32 (r4 x) (l7 _) (r7 x) (l7 _) (by rw [l15]; exact hc)  (Nat.mod_lt _ (by decide)) (Nat.mod_lt _ (by decide)) hA h1 (z_bit hcb h1)) (by decide) (by decide) (by omega) (by exact (if_pos hA).trans (if_pos h1))
      · exact CP_of (zc_call_6_n (d := d + 9) hG hn0 hpv hmi hx32 (r4 x) (l7 _) (r7 x) (l7 _) (by rw [l15]; exact hc)  (Nat.mod_lt _ (by decide)) (Nat.mod_lt _ (by decide)) hA h1) (by decide) (by decide) (by omega) (by exact (if_pos hA).trans (if_neg h1))
    · exact CP_of (zc_call_6_bad (d := d + 16) hG hn0 hpv hmi hx32 (r4 x) (l7 _) (r7 x) (l7 _) (by rw [l15]; exact hc)  (Nat.mod_lt _ (by decide)) (Nat.mod_lt _ (by decide)) hA) (by decide) (by decide) (by omega) (by exact if_neg hA)
  | 7, _ =>
    show x_f _ _ _ _ _ _ _ (x_bR _ _ _ _ (callP (stpc 7 made comb hm (x / 16 % 8) (x / 128 % 8) (x / 1024 % 1024) (x / 16 % 16) (x / 1024 % 8)) sv svm mi sc sm))
    by_cases hA : x_isA made comb (x / 128 % 8) 1
    · by_cases h1 : (x / 16 % 8 < made ∧ comb (x / 16 % 8) ≠ 0)
      · exact CP_of (zc_call_7_y (d := d + 9) hG hn0 hpv hmi hx32 (r4 x) (l7 _) (r7 x) (l7 _) (by rw [l15]; exact hc)  (Nat.mod_lt _ (by decide)) (Nat.mod_lt _ (by decide)) hA h1 (z_bit hcb h1)) (by decide) (by decide) (by omega) (by exact (if_pos hA).trans (if_pos h1))
      · exact CP_of (zc_call_7_n (d := d + 9) hG hn0 hpv hmi hx32 (r4 x) (l7 _) (r7 x) (l7 _) (by rw [l15]; exact hc)  (Nat.mod_lt _ (by decide)) (Nat.mod_lt _ (by decide)) hA h1) (by decide) (by decide) (by omega) (by exact (if_pos hA).trans (if_neg h1))
    · exact CP_of (zc_call_7_bad (d := d + 16) hG hn0 hpv hmi hx32 (r4 x) (l7 _) (r7 x) (l7 _) (by rw [l15]; exact hc)  (Nat.mod_lt _ (by decide)) (Nat.mod_lt _ (by decide)) hA) (by decide) (by decide) (by omega) (by exact if_neg hA)
  | 8, _ =>
    show x_f _ _ _ _ _ _ _ (x_bR _ _ _ _ (callP (stpc 8 made comb hm (x / 16 % 8) (x / 128 % 8) (x / 1024 % 1024) (x / 16 % 16) (x / 1024 % 8)) sv svm mi sc sm))
    by_cases ht : x / 1024 % 8 = 0
    · by_cases h1 : (x / 16 % 8 < made ∧ comb (x / 16 % 8) ≠ 0)
      · exact CP_of (zc_call_8_drop (d := d + 16) hG hn0 hpv hmi hx32 (r4 x) (l7 _) (r7 x) (l7 _) (by rw [l15]; exact hc) (r10 x) (by rw [l7]; exact ht) (Nat.mod_lt _ (by decide)) (Nat.mod_lt _ (by decide)) h1 (Nat.le_trans (z_cnt (z_em6 h6) _) (by omega))) (by decide) (by decide) (by omega) (by exact (if_pos ht).trans (if_pos h1))
      · exact CP_of (zc_call_8_dropn (d := d + 18) hG hn0 hpv hmi hx32 (r4 x) (l7 _) (r7 x) (l7 _) (by rw [l15]; exact hc) (r10 x) (by rw [l7]; exact ht) (Nat.mod_lt _ (by decide)) (Nat.mod_lt _ (by decide)) h1) (by decide) (by decide) (by omega) (by exact (if_pos ht).trans (if_neg h1))
    · have ht8 : x / 1024 % 8 ≠ 0 ∧ x / 1024 % 8 < 8 := ⟨ht, Nat.mod_lt _ (by decide)⟩
      have hj8 : x / 128 % 8 < 8 := Nat.mod_lt _ (by decide)
      have hst : ∀ j a, st8 made comb hm (x / 16 % 8) j = a → (if x / 1024 % 8 = 0 then st8d made comb hm (x / 16 % 8) else (st8 made comb hm (x / 16 % 8) j, made, comb, hm)) = (a, made, comb, hm) := fun j a e2 => by rw [if_neg ht, e2]
      match hj : x / 128 % 8, hj8 with
      | 0, _ =>
        by_cases hA : x_isA made comb (x / 16 % 8) 0
        · exact CP_of (zc_call_8_get0 (d := d + 12) hG hn0 hpv hmi hx32 (r4 x) (l7 _) (r7 x) (by rw [l7]; exact hj) (by rw [l15]; exact hc) (r10 x) (l7 _)  (Nat.mod_lt _ (by decide)) ht8 hA) (by decide) (by decide) (by omega) (by exact hst 0 _ (if_pos hA))
        · exact CP_of (zc_call_8_get0_bad (d := d + 16) hG hn0 hpv hmi hx32 (r4 x) (l7 _) (r7 x) (by rw [l7]; exact hj) (by rw [l15]; exact hc) (r10 x) (l7 _)  (Nat.mod_lt _ (by decide)) ht8 hA) (by decide) (by decide) (by omega) (by exact hst 0 _ (if_neg hA))
      | 1, _ =>
        by_cases hA : x_isA made comb (x / 16 % 8) 0
        · exact CP_of (zc_call_8_get1 (d := d + 12) hG hn0 hpv hmi hx32 (r4 x) (l7 _) (r7 x) (by rw [l7]; exact hj) (by rw [l15]; exact hc) (r10 x) (l7 _)  (Nat.mod_lt _ (by decide)) ht8 hA) (by decide) (by decide) (by omega) (by exact hst 1 _ (if_pos hA))
        · exact CP_of (zc_call_8_get1_bad (d := d + 16) hG hn0 hpv hmi hx32 (r4 x) (l7 _) (r7 x) (by rw [l7]; exact hj) (by rw [l15]; exact hc) (r10 x) (l7 _)  (Nat.mod_lt _ (by decide)) ht8 hA) (by decide) (by decide) (by omega) (by exact hst 1 _ (if_neg hA))
      | 2, _ =>
        by_cases hA : x_isA made comb (x / 16 % 8) 0
        · rcases hI0 (x / 16 % 8) (by omega) with hk | ⟨kk, hkk, hk⟩
          · exact CP_of (zc_call_8_get2_0 (d := d + 12) hG hn0 hpv hmi hx32 (r4 x) (l7 _) (r7 x) (by rw [l7]; exact hj) (by rw [l15]; exact hc) (r10 x) (l7 _)  (Nat.mod_lt _ (by decide)) ht8 hA hk) (by decide) (by decide) (by omega) (by exact hst 2 _ ((if_pos hA).trans (by rw [hk])))
          · exact CP_of (zc_call_8_get2_1 (d := d + 12) hG hn0 hpv hmi hx32 (r4 x) (l7 _) (r7 x) (by rw [l7]; exact hj) (by rw [l15]; exact hc) (r10 x) (l7 _)  (Nat.mod_lt _ (by decide)) ht8 hA hk hkk) (by decide) (by decide) (by omega) (by exact hst 2 _ ((if_pos hA).trans (by rw [hk])))
        · exact CP_of (zc_call_8_get2_bad (d := d + 16) hG hn0 hpv hmi hx32 (r4 x) (l7 _) (r7 x) (by rw [l7]; exact hj) (by rw [l15]; exact hc) (r10 x) (l7 _)  (Nat.mod_lt _ (by decide)) ht8 hA) (by decide) (by decide) (by omega) (by exact hst 2 _ (if_neg hA))
      | 3, _ =>
        by_cases hA : x_isA made comb (x / 16 % 8) 1
        · exact CP_of (zc_call_8_get3 (d := d + 12) hG hn0 hpv hmi hx32 (r4 x) (l7 _) (r7 x) (by rw [l7]; exact hj) (by rw [l15]; exact hc) (r10 x) (l7 _)  (Nat.mod_lt _ (by decide)) ht8 hA) (by decide) (by decide) (by omega) (by exact hst 3 _ (if_pos hA))
        · exact CP_of (zc_call_8_get3_bad (d := d + 16) hG hn0 hpv hmi hx32 (r4 x) (l7 _) (r7 x) (by rw [l7]; exact hj) (by rw [l15]; exact hc) (r10 x) (l7 _)  (Nat.mod_lt _ (by decide)) ht8 hA) (by decide) (by decide) (by omega) (by exact hst 3 _ (if_neg hA))
      | 4, _ =>
        by_cases hA : x_isA made comb (x / 16 % 8) 2
        · exact CP_of (zc_call_8_get4 (d := d + 12) hG hn0 hpv hmi hx32 (r4 x) (l7 _) (r7 x) (by rw [l7]; exact hj) (by rw [l15]; exact hc) (r10 x) (l7 _)  (Nat.mod_lt _ (by decide)) ht8 hA) (by decide) (by decide) (by omega) (by exact hst 4 _ ((if_pos hA).trans (by split <;> rfl)))
        · exact CP_of (zc_call_8_get4_bad (d := d + 16) hG hn0 hpv hmi hx32 (r4 x) (l7 _) (r7 x) (by rw [l7]; exact hj) (by rw [l15]; exact hc) (r10 x) (l7 _)  (Nat.mod_lt _ (by decide)) ht8 hA) (by decide) (by decide) (by omega) (by exact hst 4 _ (if_neg hA))
      | 5, _ =>
        exact CP_of (zc_call_8_get5 (d := d + 16) hG hn0 hpv hmi hx32 (r4 x) (l7 _) (r7 x) (by rw [l7]; exact hj) (by rw [l15]; exact hc) (r10 x) (l7 _)  (Nat.mod_lt _ (by decide)) ht8 ) (by decide) (by decide) (by omega) (by exact hst 5 _ (rfl))
      | 6, _ =>
        exact CP_of (zc_call_8_get6 (d := d + 16) hG hn0 hpv hmi hx32 (r4 x) (l7 _) (r7 x) (by rw [l7]; exact hj) (by rw [l15]; exact hc) (r10 x) (l7 _)  (Nat.mod_lt _ (by decide)) ht8 ) (by decide) (by decide) (by omega) (by exact hst 6 _ (rfl))
      | 7, _ =>
        exact CP_of (zc_call_8_get7 (d := d + 16) hG hn0 hpv hmi hx32 (r4 x) (l7 _) (r7 x) (by rw [l7]; exact hj) (by rw [l15]; exact hc) (r10 x) (l7 _)  (Nat.mod_lt _ (by decide)) ht8 ) (by decide) (by decide) (by omega) (by exact hst 7 _ (rfl))
  | 9, _ =>
    show x_f _ _ _ _ _ _ _ (x_bR _ _ _ _ (callP (stpc 9 made comb hm (x / 16 % 8) (x / 128 % 8) (x / 1024 % 1024) (x / 16 % 16) (x / 1024 % 8)) sv svm mi sc sm))
    have hr16 : x / 16 % 16 < 16 := Nat.mod_lt _ (by decide)
    match hr : x / 16 % 16, hr16 with
    | 0, _ =>
      exact CP_j (zc_call_9_0 (d := d + 14) hG hn0 hpv hmi (r4 x) (l7 _) (r7 x) (l7 _) (by rw [l15]; exact hc) (by rw [l15]; exact hr) hx32 ⟨Nat.mod_lt _ (by decide), Nat.mod_lt _ (by decide)⟩ hI0 hI1 hI3 hcb) (by rw [if_pos zN_len]; rfl)
    | 1, _ =>
      exact CP_j (zc_call_9_1 (d := d + 14) hG hn0 hpv hmi (r4 x) (l7 _) (r7 x) (l7 _) (by rw [l15]; exact hc) (by rw [l15]; exact hr) hx32 ⟨Nat.mod_lt _ (by decide), Nat.mod_lt _ (by decide)⟩ hI0 hI1 hI3 hcb) (by rw [if_pos zN_len]; rfl)
    | 2, _ =>
      exact CP_j (zc_call_9_2 (d := d + 14) hG hn0 hpv hmi (r4 x) (l7 _) (r7 x) (l7 _) (by rw [l15]; exact hc) (by rw [l15]; exact hr) hx32 ⟨Nat.mod_lt _ (by decide), Nat.mod_lt _ (by decide)⟩ hI0 hI1 hI3 hcb) (by rw [if_pos zN_len]; rfl)
    | 3, _ =>
      exact CP_j (zc_call_9_3 (d := d + 14) hG hn0 hpv hmi (r4 x) (l7 _) (r7 x) (l7 _) (by rw [l15]; exact hc) (by rw [l15]; exact hr) hx32 ⟨Nat.mod_lt _ (by decide), Nat.mod_lt _ (by decide)⟩ hI0 hI1 hI3 hcb) (by rw [if_pos zN_len]; rfl)
    | 4, _ =>
      exact CP_j (zc_call_9_4 (d := d + 14) hG hn0 hpv hmi (r4 x) (l7 _) (r7 x) (l7 _) (by rw [l15]; exact hc) (by rw [l15]; exact hr) hx32 ⟨Nat.mod_lt _ (by decide), Nat.mod_lt _ (by decide)⟩ hI0 hI1 hI3 hcb) (by rw [if_pos zN_len]; rfl)
    | 5, _ =>
      exact CP_j (zc_call_9_5 (d := d + 14) hG hn0 hpv hmi (r4 x) (l7 _) (r7 x) (l7 _) (by rw [l15]; exact hc) (by rw [l15]; exact hr) hx32 ⟨Nat.mod_lt _ (by decide), Nat.mod_lt _ (by decide)⟩ hI0 hI1 hI3 hcb) (by rw [if_pos zN_len]; rfl)
    | 6, _ =>
      exact CP_j (zc_call_9_6 (d := d + 14) hG hn0 hpv hmi (r4 x) (l7 _) (r7 x) (l7 _) (by rw [l15]; exact hc) (by rw [l15]; exact hr) hx32 ⟨Nat.mod_lt _ (by decide), Nat.mod_lt _ (by decide)⟩ hI0 hI1 hI3 hcb) (by rfl)
    | 7, _ =>
      exact CP_j (zc_call_9_7 (d := d + 14) hG hn0 hpv hmi (r4 x) (l7 _) (r7 x) (l7 _) (by rw [l15]; exact hc) (by rw [l15]; exact hr) hx32 ⟨Nat.mod_lt _ (by decide), Nat.mod_lt _ (by decide)⟩ hI0 hI1 hI3 hcb) (by rw [if_pos zN_len]; rfl)
    | 8, _ =>
      exact CP_j (zc_call_9_8 (d := d + 12) hG hn0 hpv hmi (r4 x) (l7 _) (r7 x) (l7 _) (by rw [l15]; exact hc) (by rw [l15]; exact hr) hx32 ⟨Nat.mod_lt _ (by decide), Nat.mod_lt _ (by decide)⟩ hI0 hI1 hI3 hcb) (by rfl)
    | 9, _ =>
      exact CP_of (zc_call_9_bad (d := d + 18) hG hn0 hpv hmi hx32 (r4 x) (l7 _) (r7 x) (l7 _) (by rw [l15]; exact hc) ((l15 _).trans hr) (Nat.mod_lt _ (by decide)) (Nat.mod_lt _ (by decide)) ⟨by decide, by decide⟩) (by decide) (by decide) (by omega) (by rfl)
    | 10, _ =>
      exact CP_of (zc_call_9_bad (d := d + 18) hG hn0 hpv hmi hx32 (r4 x) (l7 _) (r7 x) (l7 _) (by rw [l15]; exact hc) ((l15 _).trans hr) (Nat.mod_lt _ (by decide)) (Nat.mod_lt _ (by decide)) ⟨by decide, by decide⟩) (by decide) (by decide) (by omega) (by rfl)
    | 11, _ =>
      exact CP_of (zc_call_9_bad (d := d + 18) hG hn0 hpv hmi hx32 (r4 x) (l7 _) (r7 x) (l7 _) (by rw [l15]; exact hc) ((l15 _).trans hr) (Nat.mod_lt _ (by decide)) (Nat.mod_lt _ (by decide)) ⟨by decide, by decide⟩) (by decide) (by decide) (by omega) (by rfl)
    | 12, _ =>
      exact CP_of (zc_call_9_bad (d := d + 18) hG hn0 hpv hmi hx32 (r4 x) (l7 _) (r7 x) (l7 _) (by rw [l15]; exact hc) ((l15 _).trans hr) (Nat.mod_lt _ (by decide)) (Nat.mod_lt _ (by decide)) ⟨by decide, by decide⟩) (by decide) (by decide) (by omega) (by rfl)
    | 13, _ =>
      exact CP_of (zc_call_9_bad (d := d + 18) hG hn0 hpv hmi hx32 (r4 x) (l7 _) (r7 x) (l7 _) (by rw [l15]; exact hc) ((l15 _).trans hr) (Nat.mod_lt _ (by decide)) (Nat.mod_lt _ (by decide)) ⟨by decide, by decide⟩) (by decide) (by decide) (by omega) (by rfl)
    | 14, _ =>
      exact CP_of (zc_call_9_bad (d := d + 18) hG hn0 hpv hmi hx32 (r4 x) (l7 _) (r7 x) (l7 _) (by rw [l15]; exact hc) ((l15 _).trans hr) (Nat.mod_lt _ (by decide)) (Nat.mod_lt _ (by decide)) ⟨by decide, by decide⟩) (by decide) (by decide) (by omega) (by rfl)
    | 15, _ =>
      exact CP_of (zc_call_9_bad (d := d + 18) hG hn0 hpv hmi hx32 (r4 x) (l7 _) (r7 x) (l7 _) (by rw [l15]; exact hc) ((l15 _).trans hr) (Nat.mod_lt _ (by decide)) (Nat.mod_lt _ (by decide)) ⟨by decide, by decide⟩) (by decide) (by decide) (by omega) (by rfl)
    | zz + 16, hz16 => exact absurd hz16 (by omega)
  | 10, _ =>
    show x_f _ _ _ _ _ _ _ (x_bR _ _ _ _ (callP (stpc 10 made comb hm (x / 16 % 8) (x / 128 % 8) (x / 1024 % 1024) (x / 16 % 16) (x / 1024 % 8)) sv svm mi sc sm))
    by_cases h1 : (x / 16 % 8 < made ∧ comb (x / 16 % 8) ≠ 0)
    · have hA := z_isA0 hcb h1
      rcases hI0 (x / 16 % 8) (by omega) with hk | ⟨kk, hkk, hk⟩
      · exact CP_of (zc_call_10_y0 (d := d + 0) hG hn0 hpv hmi hx32 (r4 x) (l7 _) (r7 x) (l7 _) (by rw [l15]; exact hc)  (Nat.mod_lt _ (by decide)) (Nat.mod_lt _ (by decide)) h1 hA (z_bit hcb h1) hk) (by decide) (by decide) (by omega) (by show (st10 made comb hm _, made, comb, hm) = _; unfold st10; rw [if_pos h1, hk])
      · exact CP_of (zc_call_10_y1 (d := d + 0) hG hn0 hpv hmi hx32 (r4 x) (l7 _) (r7 x) (l7 _) (by rw [l15]; exact hc)  (Nat.mod_lt _ (by decide)) (Nat.mod_lt _ (by decide)) h1 hA (z_bit hcb h1) hk hkk) (by decide) (by decide) (by omega) (by show (st10 made comb hm _, made, comb, hm) = _; unfold st10; rw [if_pos h1, hk])
    · exact CP_of (zc_call_10_n (d := d + 0) hG hn0 hpv hmi hx32 (r4 x) (l7 _) (r7 x) (l7 _) (by rw [l15]; exact hc)  (Nat.mod_lt _ (by decide)) (Nat.mod_lt _ (by decide)) h1) (by decide) (by decide) (by omega) (by show (st10 made comb hm _, made, comb, hm) = _; unfold st10; rw [if_neg h1])
  | 11, _ =>
    show x_f _ _ _ _ _ _ _ (x_bR _ _ _ _ (callP (stpc 11 made comb hm (x / 16 % 8) (x / 128 % 8) (x / 1024 % 1024) (x / 16 % 16) (x / 1024 % 8)) sv svm mi sc sm))
    by_cases h1 : (x / 16 % 8 < made ∧ comb (x / 16 % 8) ≠ 0)
    · exact CP_of (zc_call_11_y (d := d + 0) hG hn0 hpv hmi hx32 (r4 x) (l7 _) (r7 x) (l7 _) (by rw [l15]; exact hc)  (Nat.mod_lt _ (by decide)) (Nat.mod_lt _ (by decide)) h1) (by decide) (by decide) (by omega) (by show (st11 made comb hm _, made, comb, hm) = _; unfold st11; rw [if_pos h1]; congr 1; split <;> rfl)
    · exact CP_of (zc_call_11_n (d := d + 0) hG hn0 hpv hmi hx32 (r4 x) (l7 _) (r7 x) (l7 _) (by rw [l15]; exact hc)  (Nat.mod_lt _ (by decide)) (Nat.mod_lt _ (by decide)) h1) (by decide) (by decide) (by omega) (by show (st11 made comb hm _, made, comb, hm) = _; unfold st11; rw [if_neg h1])
  | 12, _ =>
    show x_f _ _ _ _ _ _ _ (x_bR _ _ _ _ (callP (stpc 12 made comb hm (x / 16 % 8) (x / 128 % 8) (x / 1024 % 1024) (x / 16 % 16) (x / 1024 % 8)) sv svm mi sc sm))
    by_cases h1 : (x / 16 % 8 < made ∧ comb (x / 16 % 8) ≠ 0)
    · by_cases h2 : (x / 128 % 8 < made ∧ comb (x / 128 % 8) ≠ 0)
      · exact CP_of (zc_call_12_yy (d := d + 8) hG hn0 hpv hmi hx32 (r4 x) (l7 _) (r7 x) (l7 _) (by rw [l15]; exact hc)  (Nat.mod_lt _ (by decide)) (Nat.mod_lt _ (by decide)) h1 h2) (by decide) (by decide) (by omega) (by show (3, made, comb, hm) = _; congr 1; split <;> rfl)
      · exact CP_of (zc_call_12_yn (d := d + 8) hG hn0 hpv hmi hx32 (r4 x) (l7 _) (r7 x) (l7 _) (by rw [l15]; exact hc)  (Nat.mod_lt _ (by decide)) (Nat.mod_lt _ (by decide)) h1 h2) (by decide) (by decide) (by omega) (by rfl)
    · by_cases h2 : (x / 128 % 8 < made ∧ comb (x / 128 % 8) ≠ 0)
      · exact CP_of (zc_call_12_ny (d := d + 8) hG hn0 hpv hmi hx32 (r4 x) (l7 _) (r7 x) (l7 _) (by rw [l15]; exact hc)  (Nat.mod_lt _ (by decide)) (Nat.mod_lt _ (by decide)) h1 h2) (by decide) (by decide) (by omega) (by rfl)
      · exact CP_of (zc_call_12_nn (d := d + 8) hG hn0 hpv hmi hx32 (r4 x) (l7 _) (r7 x) (l7 _) (by rw [l15]; exact hc)  (Nat.mod_lt _ (by decide)) (Nat.mod_lt _ (by decide)) h1 h2) (by decide) (by decide) (by omega) (by rfl)
  | 13, _ =>
    show x_f _ _ _ _ _ _ _ (x_bR _ _ _ _ (callP (stpc 13 made comb hm (x / 16 % 8) (x / 128 % 8) (x / 1024 % 1024) (x / 16 % 16) (x / 1024 % 8)) sv svm mi sc sm))
    exact CP_w (zc_call_13 (d := d + 10) hG hn0 hpv hmi (r4 x) (l7 _) (r7 x) (l7 _) (by rw [l15]; exact hc) hx32 ⟨Nat.mod_lt _ (by decide), Nat.mod_lt _ (by decide)⟩ hz hcb) rfl
  | 14, _ =>
    show x_f _ _ _ _ _ _ _ (x_bR _ _ _ _ (callP (stpc 14 made comb hm (x / 16 % 8) (x / 128 % 8) (x / 1024 % 1024) (x / 16 % 16) (x / 1024 % 8)) sv svm mi sc sm))
    exact CP_w (zc_call_14 (d := d + 10) hG hn0 hpv hmi (r4 x) (l7 _) (r7 x) (l7 _) (by rw [l15]; exact hc) hx32 ⟨Nat.mod_lt _ (by decide), Nat.mod_lt _ (by decide)⟩ hz hcb) rfl
  | 15, _ =>
    show x_f _ _ _ _ _ _ _ (x_bR _ _ _ _ (callP (stpc 15 made comb hm (x / 16 % 8) (x / 128 % 8) (x / 1024 % 1024) (x / 16 % 16) (x / 1024 % 8)) sv svm mi sc sm))
    exact CP_w (zc_call_15 (d := d + 10) hG hn0 hpv hmi (r4 x) (l7 _) (r7 x) (l7 _) (by rw [l15]; exact hc) hx32 ⟨Nat.mod_lt _ (by decide), Nat.mod_lt _ (by decide)⟩ hz hcb) rfl
  | zz + 16, hz16 => exact absurd hz16 (by omega)
end FPOP76
