section FPOP77
/-- two populations alike as far as they were made -/
def PE (made : Nat) (c1 : Nat → Nat) (h1 : Nat → MV) (c2 : Nat → Nat) (h2 : Nat → MV) : Prop := (∀ i, i < made → c1 i = c2 i) ∧ ∀ i, i < made * 40 → h1 i = h2 i
theorem PE_refl {made : Nat} {c : Nat → Nat} {h : Nat → MV} : PE made c h c h := ⟨fun _ _ => rfl, fun _ _ => rfl⟩
theorem PE_symm {made : Nat} {c1 c2 : Nat → Nat} {h1 h2 : Nat → MV} (h : PE made c1 h1 c2 h2) : PE made c2 h2 c1 h1 := ⟨fun i hi => (h.1 i hi).symm, fun i hi => (h.2 i hi).symm⟩
theorem PE_trans {made : Nat} {c1 c2 c3 : Nat → Nat} {h1 h2 h3 : Nat → MV} (h : PE made c1 h1 c2 h2) (g : PE made c2 h2 c3 h3) : PE made c1 h1 c3 h3 := ⟨fun i hi => (h.1 i hi).trans (g.1 i hi), fun i hi => (h.2 i hi).trans (g.2 i hi)⟩
section
variable {made : Nat} {c1 c2 : Nat → Nat} {h1 h2 : Nat → MV}
theorem PE_ex (h : PE made c1 h1 c2 h2) (i : Nat) : (i < made ∧ c1 i ≠ 0) ↔ (i < made ∧ c2 i ≠ 0) := by
  constructor
  · rintro ⟨a, b⟩; exact ⟨a, h.1 i a ▸ b⟩
  · rintro ⟨a, b⟩; exact ⟨a, (h.1 i a).symm ▸ b⟩
theorem PE_isA (h : PE made c1 h1 c2 h2) (i e : Nat) : x_isA made c1 i e ↔ x_isA made c2 i e := by
  constructor
  · rintro ⟨⟨a, b⟩, c⟩; rw [h.1 i a] at b c; exact ⟨⟨a, b⟩, c⟩
  · rintro ⟨⟨a, b⟩, c⟩; rw [← h.1 i a] at b c; exact ⟨⟨a, b⟩, c⟩
theorem x_fl_congr {q q2 : Nat → Prop} [DecidablePred q] [DecidablePred q2] {p : Nat} (h : ∀ y, y < p → (q y ↔ q2 y)) : x_fl q p = x_fl q2 p := by
  unfold x_fl
  refine List.filter_congr (fun y hy => ?_)
  exact decide_eq_decide.mpr (h y (List.mem_range.mp hy))
theorem PE_us (h : PE made c1 h1 c2 h2) (i : Nat) : x_fl (fun y => c1 y ≠ 0 ∧ x_ho (h1 (y * 40 + 3)) i) made = x_fl (fun y => c2 y ≠ 0 ∧ x_ho (h2 (y * 40 + 3)) i) made :=
  x_fl_congr (fun y hy => by rw [h.1 y hy, h.2 (y * 40 + 3) (by omega)])
theorem PE_al (h : PE made c1 h1 c2 h2) (i : Nat) : x_al c1 h1 i (made * 40) = x_al c2 h2 i (made * 40) := by
  unfold x_al
  rw [x_fl_congr (q := x_aq c1 h1 i) (q2 := x_aq c2 h2 i) (fun y hy => ?_)]
  show (c1 (y / 40) ≠ 0 ∧ x_ho (h1 y) i) ↔ (c2 (y / 40) ≠ 0 ∧ x_ho (h2 y) i)
  rw [h.1 (y / 40) (by omega), h.2 y hy]
theorem PE_dd (h : PE made c1 h1 c2 h2) (L : List Nat) : x_dd (x_lks made c1 h1) made [] L = x_dd (x_lks made c2 h2) made [] L := x_dd_congr (fun i hi => x_lks_congr h.1 h.2 hi) L []
theorem PE_wi (h : PE made c1 h1 c2 h2) {x : Nat} (hx : x < made) : wi c1 h1 x = wi c2 h2 x := by
  have e0 := h.2 (x * 40) (by omega)
  have e1 := h.2 (x * 40 + 1) (by omega)
  have e3 := h.2 (x * 40 + 3) (by omega)
  unfold wi
  rw [h.1 x hx, e0, e1, e3]
theorem PE_wl (h : PE made c1 h1 c2 h2) (x : Nat) : x ≤ made → wl c1 h1 x = wl c2 h2 x := by
  induction x with
  | zero => intro _; rfl
  | succ x ih =>
    intro hx
    show wl c1 h1 x ++ (if c1 x ≠ 0 then wi c1 h1 x else []) = wl c2 h2 x ++ (if c2 x ≠ 0 then wi c2 h2 x else [])
    rw [ih (by omega), h.1 x (by omega), PE_wi h (show x < made by omega)]
theorem PE_q6 (h : PE made c1 h1 c2 h2) : x_fl (q6 made c1 h1) made = x_fl (q6 made c2 h2) made :=
  x_fl_congr (fun x hx => by
    show (x_isA made c1 x 2 ∧ ¬ ((x_fl (fun y => c1 y ≠ 0 ∧ x_ho (h1 (y * 40 + 3)) x) made).length ≤ 1)) ↔ (x_isA made c2 x 2 ∧ ¬ ((x_fl (fun y => c2 y ≠ 0 ∧ x_ho (h2 (y * 40 + 3)) x) made).length ≤ 1))
    rw [PE_us h, PE_isA h])
theorem PE_q8 (h : PE made c1 h1 c2 h2) : x_fl (q8 made c1 h1) made = x_fl (q8 made c2 h2) made :=
  x_fl_congr (fun x hx => by
    show (x_isA made c1 x 2 ∧ (h1 (x * 40 + 0)).1 = 0) ↔ (x_isA made c2 x 2 ∧ (h2 (x * 40 + 0)).1 = 0)
    rw [PE_isA h, h.2 (x * 40 + 0) (by omega)])
theorem PE_zhm (h : PE made c1 h1 c2 h2) (k : Nat) {m m2 : MV} (e : m = m2) : PE made c1 (zhm h1 k m) c2 (zhm h2 k m2) := by
  subst e
  refine ⟨h.1, fun i hi => ?_⟩
  show (if i = k then m else h1 i) = (if i = k then m else h2 i)
  rw [h.2 i hi]
theorem PE_add (h : PE made c1 h1 c2 h2) (r : Nat) : PE (made + 1) (x_s c1 made r) (x_em made h1) (x_s c2 made r) (x_em made h2) := by
  refine ⟨fun i hi => ?_, fun i hi => ?_⟩
  · by_cases hc : i = made
    · subst hc; rw [x_s_eq, x_s_eq]
    · rw [x_s_ne hc, x_s_ne hc, h.1 i (by omega)]
  · show (if made * 40 ≤ i ∧ i < made * 40 + 40 then MV0 else h1 i) = (if made * 40 ≤ i ∧ i < made * 40 + 40 then MV0 else h2 i)
    by_cases hc : made * 40 ≤ i ∧ i < made * 40 + 40
    · rw [if_pos hc, if_pos hc]
    · rw [if_neg hc, if_neg hc, h.2 i (by omega)]
theorem PE_drop (h : PE made c1 h1 c2 h2) (x : Nat) : PE made (x_s c1 x 0) (x_rm x (x_em x h1) (made * 40)) (x_s c2 x 0) (x_rm x (x_em x h2) (made * 40)) := by
  refine ⟨fun i hi => ?_, fun i hi => ?_⟩
  · by_cases hc : i = x
    · subst hc; rw [x_s_eq, x_s_eq]
    · rw [x_s_ne hc, x_s_ne hc, h.1 i (by omega)]
  · have e : x_em x h1 i = x_em x h2 i := by
      show (if x * 40 ≤ i ∧ i < x * 40 + 40 then MV0 else h1 i) = (if x * 40 ≤ i ∧ i < x * 40 + 40 then MV0 else h2 i)
      rw [h.2 i hi]
    show (if i < made * 40 ∧ x_ho (x_em x h1 i) x then x_mwo (x_em x h1 i) x else x_em x h1 i) = (if i < made * 40 ∧ x_ho (x_em x h2 i) x then x_mwo (x_em x h2 i) x else x_em x h2 i)
    rw [e]
/-- what a step gives of two such populations -/
def RE (R1 R2 : Nat × St) : Prop := R1.1 = R2.1 ∧ R1.2.1 = R2.2.1 ∧ PE R1.2.1 R1.2.2.1 R1.2.2.2 R2.2.2.1 R2.2.2.2
theorem RE_if {p q : Prop} [Decidable p] [Decidable q] {a b c d : Nat × St} (h : p ↔ q) (h1 : p → RE a c) (h2 : ¬ p → RE b d) : RE (if p then a else b) (if q then c else d) := by
  by_cases hp : p
  · rw [if_pos hp, if_pos (h.mp hp)]; exact h1 hp
  · rw [if_neg hp, if_neg (fun z => hp (h.mpr z))]; exact h2 hp
theorem RE_same (h : PE made c1 h1 c2 h2) {a b : Nat} (e : a = b) : RE (a, made, c1, h1) (b, made, c2, h2) := ⟨e, rfl, h⟩
theorem PE_mkA (h : PE made c1 h1 c2 h2) (r : Nat) : RE (mkA made c1 h1 r) (mkA made c2 h2 r) :=
  RE_if Iff.rfl (fun _ => ⟨rfl, rfl, PE_add h r⟩) (fun _ => RE_same h rfl)
theorem PE_st8 (h : PE made c1 h1 c2 h2) (i j : Nat) : st8 made c1 h1 i j = st8 made c2 h2 i j := by
  have key : ∀ (e k : Nat), k < 40 → (if x_isA made c1 i e then (h1 (i * 40 + k)).1 else 4294967295) = (if x_isA made c2 i e then (h2 (i * 40 + k)).1 else 4294967295) := by
    intro e k hk
    by_cases hA : x_isA made c1 i e
    · rw [if_pos hA, if_pos ((PE_isA h i e).mp hA), h.2 (i * 40 + k) (by have := hA.1.1; omega)]
    · rw [if_neg hA, if_neg (fun z => hA ((PE_isA h i e).mpr z))]
  match j with
  | 0 => exact key 0 0 (by decide)
  | 1 => exact key 0 1 (by decide)
  | 2 => exact key 0 0 (by decide)
  | 3 => exact key 1 3 (by decide)
  | 4 =>
    show (if x_isA made c1 i 2 then (if (x_fl (fun y => c1 y ≠ 0 ∧ x_ho (h1 (y * 40 + 3)) i) made).length ≤ 24 then 6 else 0) else 4294967295) = (if x_isA made c2 i 2 then (if (x_fl (fun y => c2 y ≠ 0 ∧ x_ho (h2 (y * 40 + 3)) i) made).length ≤ 24 then 6 else 0) else 4294967295)
    rw [PE_us h, zif_congr (PE_isA h i 2)]
  | j + 5 => rfl
theorem PE_st9 (h : PE made c1 h1 c2 h2) (r : Nat) : st9 made c1 h1 r = st9 made c2 h2 r := by
  match r with
  | 0 => rfl
  | 1 => rfl
  | 2 => rfl
  | 3 => rfl
  | 4 => rfl
  | 5 => rfl
  | 6 => show (if (x_fl (q6 made c1 h1) made).length = 0 then 1 else 0) = (if (x_fl (q6 made c2 h2) made).length = 0 then 1 else 0); rw [PE_q6 h]
  | 7 => rfl
  | 8 => show (if (x_fl (q8 made c1 h1) made).length = 0 then 1 else 0) = (if (x_fl (q8 made c2 h2) made).length = 0 then 1 else 0); rw [PE_q8 h]
  | r + 9 => rfl
theorem stp_PE (h : PE made c1 h1 c2 h2) (x : Nat) : RE (stp made c1 h1 x) (stp made c2 h2 x) := by
  unfold stp
  generalize x / 16 % 8 = i
  generalize x / 128 % 8 = j
  generalize x / 1024 % 1024 = v
  generalize x / 16 % 16 = r
  generalize x / 1024 % 8 = t
  have s2 : RE (st2 made c1 h1 i v) (st2 made c2 h2 i v) := RE_if (PE_isA h i 0) (fun _ => ⟨rfl, rfl, PE_zhm h _ rfl⟩) (fun _ => RE_same h rfl)
  have s6 : RE (st6 made c1 h1 i j) (st6 made c2 h2 i j) := RE_if (PE_isA h j 1) (fun _ => RE_if (PE_ex h i) (fun _ => ⟨rfl, rfl, PE_zhm h _ rfl⟩) (fun _ => ⟨rfl, rfl, PE_zhm h _ rfl⟩)) (fun _ => RE_same h rfl)
  match x % 16 with
  | 0 => exact RE_if Iff.rfl (fun _ => RE_same h rfl) (fun _ => PE_mkA h 3)
  | 1 => exact RE_if Iff.rfl (fun _ => PE_mkA h 3) (fun _ => PE_mkA h 5)
  | 2 => exact s2
  | 3 => exact s2
  | 4 => exact s2
  | 5 => exact RE_if (PE_isA h j 0) (fun _ => RE_if (by rw [PE_ex h i, PE_ex h j]) (fun _ => ⟨rfl, rfl, PE_zhm h _ (by rw [PE_dd h])⟩) (fun _ => ⟨rfl, rfl, PE_zhm h _ rfl⟩)) (fun _ => RE_same h rfl)
  | 6 => exact s6
  | 7 => exact s6
  | 8 => exact RE_if Iff.rfl (fun _ => RE_if (PE_ex h i) (fun _ => ⟨rfl, rfl, PE_drop h i⟩) (fun _ => RE_same h rfl)) (fun _ => RE_same h (PE_st8 h i j))
  | 9 => exact RE_same h (PE_st9 h r)
  | 10 =>
    refine RE_same h ?_
    show (if i < made ∧ c1 i ≠ 0 then (h1 (i * 40 + 0)).1 else 0) = (if i < made ∧ c2 i ≠ 0 then (h2 (i * 40 + 0)).1 else 0)
    by_cases hc : i < made ∧ c1 i ≠ 0
    · rw [if_pos hc, if_pos ((PE_ex h i).mp hc), h.2 (i * 40 + 0) (by omega)]
    · rw [if_neg hc, if_neg (fun z => hc ((PE_ex h i).mpr z))]
  | 11 =>
    refine RE_same h ?_
    show (if i < made ∧ c1 i ≠ 0 then (if (x_al c1 h1 i (made * 40)).length ≤ 24 then 6 else 0) else 0) = (if i < made ∧ c2 i ≠ 0 then (if (x_al c2 h2 i (made * 40)).length ≤ 24 then 6 else 0) else 0)
    rw [PE_al h, zif_congr (PE_ex h i)]
  | 12 => exact RE_same h rfl
  | c + 13 => exact RE_same h (by rw [PE_wl h made (Nat.le_refl _)])
end
/-- a step keeps what the population keeps -/
theorem zpv2_0 : x_pv2 MV0 := ⟨fun z => absurd z (by decide), by decide⟩
theorem MI_em {made x : Nat} {comb : Nat → Nat} {hm : Nat → MV} (h : MInv made comb hm) : (∀ i, x_pv2 (x_em x hm i)) ∧ (∀ y, y < 40 → zI0 (x_em x hm) y) ∧ (∀ y, y < 40 → zI1 (x_em x hm) y) ∧ (∀ y, y < 40 → zI3 (x_em x hm) y) ∧ ∀ i, (x_em x hm i).1 = 6 → i % 40 = 1 := by
  obtain ⟨h1, h2, h3, h4, h5, h6, h7⟩ := h
  have key : ∀ i, x_em x hm i = MV0 ∨ x_em x hm i = hm i := by
    intro i
    show (if x * 40 ≤ i ∧ i < x * 40 + 40 then MV0 else hm i) = MV0 ∨ (if x * 40 ≤ i ∧ i < x * 40 + 40 then MV0 else hm i) = hm i
    by_cases hc : x * 40 ≤ i ∧ i < x * 40 + 40
    · exact Or.inl (if_pos hc)
    · exact Or.inr (if_neg hc)
  refine ⟨fun i => ?_, fun y hy => ?_, fun y hy => ?_, fun y hy => ?_, z_em6 h7⟩
  · rcases key i with q | q
    · rw [q]; exact zpv2_0
    · rw [q]; exact h2 i
  · unfold zI0
    rcases key (y * 40 + 0) with q | q
    · exact Or.inl q
    · rw [q]; exact h3 y hy
  · unfold zI1
    rcases key (y * 40 + 1) with q | q
    · exact Or.inl q
    · rw [q]; exact h4 y hy
  · unfold zI3
    rcases key (y * 40 + 3) with q | q
    · exact Or.inl q
    · rw [q]; exact h5 y hy
theorem MI_add {made r : Nat} {comb : Nat → Nat} {hm : Nat → MV} (h : MInv made comb hm) (hr : r = 3 ∨ r = 5) (hroom : made < 40) : MInv (made + 1) (x_s comb made r) (x_em made hm) := by
  obtain ⟨e1, e2, e3, e4, e5⟩ := MI_em (x := made) h
  refine ⟨by omega, e1, e2, e3, e4, fun x hx => ?_, e5⟩
  by_cases hc : x = made
  · subst hc; rw [x_s_eq]; exact Or.inr hr
  · rw [x_s_ne hc]; exact h.2.2.2.2.2.1 x (by omega)
theorem zhm_eq {hm : Nat → MV} {k : Nat} {m : MV} : zhm hm k m k = m := if_pos rfl
theorem zhm_ne {hm : Nat → MV} {k i : Nat} {m : MV} (h : i ≠ k) : zhm hm k m i = hm i := if_neg h
theorem MI_zhm {made i a : Nat} {comb : Nat → Nat} {hm : Nat → MV} {m : MV} (h : MInv made comb hm) (ha : a < 40) (hp : x_pv2 m) (h6 : m.1 = 6 → a = 1)
    (h0 : a = 0 → m = MV0 ∨ ∃ k, k < 1024 ∧ m = (1, k, 0, 0, [])) (h1 : a = 1 → m = MV0 ∨ ∃ L : List Nat, L.length ≤ 2 ∧ (∀ y, y ∈ L → y < 8) ∧ m = (6, 0, 3, 5, L)) (h3 : a = 3 → m = MV0 ∨ ∃ y, y < 8 ∧ m = (5, y, 0, 0, [])) : MInv made comb (zhm hm (i * 40 + a) m) := by
  obtain ⟨g1, g2, g3, g4, g5, g6, g7⟩ := h
  refine ⟨g1, fun k => ?_, fun y hy => ?_, fun y hy => ?_, fun y hy => ?_, g6, fun k hk => ?_⟩
  · by_cases hc : k = i * 40 + a
    · rw [hc, zhm_eq]; exact hp
    · rw [zhm_ne hc]; exact g2 k
  · unfold zI0
    by_cases hc : y * 40 + 0 = i * 40 + a
    · rw [hc, zhm_eq]; exact h0 (by omega)
    · rw [zhm_ne hc]; exact g3 y hy
  · unfold zI1
    by_cases hc : y * 40 + 1 = i * 40 + a
    · rw [hc, zhm_eq]; exact h1 (by omega)
    · rw [zhm_ne hc]; exact g4 y hy
  · unfold zI3
    by_cases hc : y * 40 + 3 = i * 40 + a
    · rw [hc, zhm_eq]; exact h3 (by omega)
    · rw [zhm_ne hc]; exact g5 y hy
  · by_cases hc : k = i * 40 + a
    · rw [hc, zhm_eq] at hk; have := h6 hk; omega
    · rw [zhm_ne hc] at hk; exact g7 k hk
theorem MI_drop {made x : Nat} {comb : Nat → Nat} {hm : Nat → MV} (h : MInv made comb hm) : MInv made (x_s comb x 0) (x_rm x (x_em x hm) (made * 40)) := by
  obtain ⟨e1, e2, e3, e4, e5⟩ := MI_em (x := x) h
  generalize x_em x hm = g at e1 e2 e3 e4 e5
  have key : ∀ i, x_rm x g (made * 40) i = g i ∨ x_rm x g (made * 40) i = x_mwo (g i) x := by
    intro i
    show (if i < made * 40 ∧ x_ho (g i) x then x_mwo (g i) x else g i) = g i ∨ (if i < made * 40 ∧ x_ho (g i) x then x_mwo (g i) x else g i) = x_mwo (g i) x
    by_cases hc : i < made * 40 ∧ x_ho (g i) x
    · exact Or.inr (if_pos hc)
    · exact Or.inl (if_neg hc)
  have w6 : ∀ m : MV, m.1 ≠ 6 → x_mwo m x = MV0 := fun m hm => if_neg hm
  have w7 : ∀ m : MV, m.1 = 6 → x_mwo m x = (6, 0, 3, 5, x_wo x m.2.2.2.2) := fun m hm => if_pos hm
  refine ⟨h.1, fun i => ?_, fun y hy => ?_, fun y hy => ?_, fun y hy => ?_, fun i hi => ?_, fun i hi => ?_⟩
  · rcases key i with q | q
    · rw [q]; exact e1 i
    · rw [q]
      by_cases hc : (g i).1 = 6
      · rw [w7 _ hc]; exact ⟨fun _ => ⟨rfl, rfl⟩, by show 6 ≠ 2; decide⟩
      · rw [w6 _ hc]; exact zpv2_0
  · unfold zI0
    rcases key (y * 40 + 0) with q | q
    · rw [q]; exact e2 y hy
    · rw [q]
      rcases e2 y hy with z | ⟨k, hk, z⟩
      · rw [z]; exact Or.inl (w6 _ (by decide))
      · rw [z]; exact Or.inl (w6 _ (by show 1 ≠ 6; decide))
  · unfold zI1
    rcases key (y * 40 + 1) with q | q
    · rw [q]; exact e3 y hy
    · rw [q]
      rcases e3 y hy with z | ⟨L, hL, hL2, z⟩
      · rw [z]; exact Or.inl (w6 _ (by decide))
      · rw [z, w7 _ rfl]
        refine Or.inr ⟨x_wo x L, Nat.le_trans (List.length_filter_le _ _) hL, fun y hy => hL2 y (List.mem_filter.mp hy).1, rfl⟩
  · unfold zI3
    rcases key (y * 40 + 3) with q | q
    · rw [q]; exact e4 y hy
    · rw [q]
      rcases e4 y hy with z | ⟨k, hk, z⟩
      · rw [z]; exact Or.inl (w6 _ (by decide))
      · rw [z]; exact Or.inl (w6 _ (by show 5 ≠ 6; decide))
  · by_cases hc : i = x
    · subst hc; rw [x_s_eq]; exact Or.inl rfl
    · rw [x_s_ne hc]; exact h.2.2.2.2.2.1 i hi
  · rcases key i with q | q
    · rw [q] at hi; exact e5 i hi
    · rw [q] at hi
      by_cases hc : (g i).1 = 6
      · exact e5 i hc
      · rw [w6 _ hc] at hi; exact absurd hi (by decide)
theorem MI_if {p : Prop} [Decidable p] {a b : Nat × St} (h1 : p → MInv a.2.1 a.2.2.1 a.2.2.2) (h2 : ¬ p → MInv b.2.1 b.2.2.1 b.2.2.2) : MInv (if p then a else b).2.1 (if p then a else b).2.2.1 (if p then a else b).2.2.2 := by
  by_cases hp : p
  · rw [if_pos hp]; exact h1 hp
  · rw [if_neg hp]; exact h2 hp
theorem stp_MI {made : Nat} {comb : Nat → Nat} {hm : Nat → MV} (h : MInv made comb hm) (x : Nat) : MInv (stp made comb hm x).2.1 (stp made comb hm x).2.2.1 (stp made comb hm x).2.2.2 := by
  unfold stp
  have hi8 : x / 16 % 8 < 8 := Nat.mod_lt _ (by decide)
  have hj8 : x / 128 % 8 < 8 := Nat.mod_lt _ (by decide)
  have hv : x / 1024 % 1024 < 1024 := Nat.mod_lt _ (by decide)
  generalize x / 16 % 8 = i at hi8 ⊢
  generalize x / 128 % 8 = j at hj8 ⊢
  generalize x / 1024 % 1024 = v at hv ⊢
  generalize x / 16 % 16 = r
  generalize x / 1024 % 8 = t
  have mk : ∀ r, r = 3 ∨ r = 5 → MInv (mkA made comb hm r).2.1 (mkA made comb hm r).2.2.1 (mkA made comb hm r).2.2.2 := fun r hr => MI_if (fun hroom => MI_add h hr hroom) (fun _ => h)
  have s2 : MInv (st2 made comb hm i v).2.1 (st2 made comb hm i v).2.2.1 (st2 made comb hm i v).2.2.2 := MI_if (fun _ => MI_zhm h (by decide) ⟨fun z => absurd z (by show ¬ (1 = 6); decide), by show 1 ≠ 2; decide⟩ (fun z => absurd z (by show ¬ (1 = 6); decide)) (fun _ => Or.inr ⟨v, hv, rfl⟩) (fun z => absurd z (by decide)) (fun z => absurd z (by decide))) (fun _ => h)
  have z0 : ∀ k a, a = 1 ∨ a = 3 → MInv made comb (zhm hm (k * 40 + a) MV0) := fun k a ha => MI_zhm h (by omega) zpv2_0 (fun z => absurd z (by decide)) (fun _ => Or.inl rfl) (fun _ => Or.inl rfl) (fun _ => Or.inl rfl)
  have s6 : MInv (st6 made comb hm i j).2.1 (st6 made comb hm i j).2.2.1 (st6 made comb hm i j).2.2.2 := MI_if (fun _ => MI_if (fun _ => MI_zhm h (by decide) ⟨fun z => absurd z (by show ¬ (5 = 6); decide), by show 5 ≠ 2; decide⟩ (fun z => absurd z (by show ¬ (5 = 6); decide)) (fun z => absurd z (by decide)) (fun z => absurd z (by decide)) (fun _ => Or.inr ⟨i, hi8, rfl⟩)) (fun _ => z0 j 3 (Or.inr rfl))) (fun _ => h)
  match x % 16 with
  | 0 => exact MI_if (fun _ => h) (fun _ => mk 3 (Or.inl rfl))
  | 1 => exact MI_if (fun _ => mk 3 (Or.inl rfl)) (fun _ => mk 5 (Or.inr rfl))
  | 2 => exact s2
  | 3 => exact s2
  | 4 => exact s2
  | 5 =>
    refine MI_if (fun _ => MI_if (fun _ => ?_) (fun _ => z0 j 1 (Or.inl rfl))) (fun _ => h)
    refine MI_zhm h (by decide) ⟨fun _ => ⟨rfl, rfl⟩, by show 6 ≠ 2; decide⟩ (fun _ => rfl) (fun z => absurd z (by decide)) (fun _ => Or.inr ⟨_, Nat.le_trans (x_dd_le _ _) (by show 0 + 2 ≤ 2; decide), fun y hy => ?_, rfl⟩) (fun z => absurd z (by decide))
    rcases x_dd_mem _ _ hy with q | q
    · cases q
    · rcases List.mem_cons.mp q with q | q
      · omega
      · rcases List.mem_cons.mp q with q | q
        · omega
        · cases q
  | 6 => exact s6
  | 7 => exact s6
  | 8 => exact MI_if (fun _ => MI_if (fun _ => MI_drop h) (fun _ => h)) (fun _ => h)
  | 9 => exact h
  | 10 => exact h
  | 11 => exact h
  | 12 => exact h
  | c + 13 => exact h
end FPOP77
