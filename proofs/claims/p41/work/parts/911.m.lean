section AMM11
def xrp_169 : Nat → Nat := fun k => ([0, 1, 2, 3, 5, 7, 8, 9, 12, 13, 14, 16, 17, 18, 19, 20, 23, 24, 26, 27, 28, 29, 32, 33, 34, 35, 38, 41, 42] : List Nat).getD k 0
set_option maxRecDepth 20000 in
set_option maxHeartbeats 4000000 in
theorem xz_169 {l : Launch} {D : va_G} {en : XE} : x_Ok xT l D xcl en xrn (xG en) 169 xc_169 := by
  refine ⟨prog_10_method_15_code, (some .int), xBIG, xrp_169, by decide +kernel, rfl, rfl, ?_⟩
  intro p e R s m args below meth c s₁ A Q pc i f1 f2 B hml hA hg hi
  obtain ⟨hx, hb, hr, hown, hlocks, hin, htsB, S⟩ := xb_all (C := "ExpressHouse$Schema") B hml rfl rfl
  obtain ⟨hgN, hgZ, hgS, hgS2⟩ := xG_all hg
  refine xa_at (i := i) (pc := pc) ?_ hi
  refine xa_cons 0 ((And.intro (by decide) (Or.inl (Exists.intro (2) (And.intro rfl (And.intro (by decide +kernel) rfl)))))) ?_
  refine xa_cons 1 ((And.intro (Or.inl rfl) (Or.inl (Exists.intro (3) (And.intro rfl (And.intro (by decide +kernel) rfl)))))) ?_
  refine xa_cons 2 (xc_iconst hx hb (z := 0) (b := 0) (And.intro (by decide +kernel) rfl) (by decide +kernel) ⟨rfl, rfl⟩) ?_
  refine xa_cons 3 ((And.intro (Or.inl rfl) (Or.inr (And.intro (by decide +kernel) rfl)))) ?_
  refine xa_cons 4 ((And.intro (by decide) (Or.inr (And.intro (by decide +kernel) rfl)))) ?_
  refine xa_cons 5 ((And.intro (by decide) (Or.inl (Exists.intro (0) (And.intro rfl (And.intro (by decide +kernel) rfl)))))) ?_
  refine xa_cons 6 ((And.intro (by decide +kernel) rfl)) ?_
  refine xa_cons 7 ((And.intro (by decide) (Exists.intro (32) (And.intro (by decide +kernel) (And.intro (by decide +kernel) rfl))))) ?_
  refine xa_cons 8 ((And.intro (by decide) (Or.inl (Exists.intro (3) (And.intro rfl (And.intro (by decide +kernel) rfl)))))) ?_
  refine xa_cons 9 ((And.intro (by decide) (Or.inl (Exists.intro (2) (And.intro rfl (And.intro (by decide +kernel) rfl)))))) ?_
  refine xa_cons 10 ((And.intro (by decide) (Or.inr (And.intro (by decide +kernel) rfl)))) ?_
  refine xa_cons 11 ((And.intro (by decide) (And.intro (by decide +kernel) rfl))) ?_
  refine xa_cons 12 (xc_iconst hx hb (z := 1) (b := 1) (And.intro (by decide +kernel) rfl) (by decide +kernel) ⟨rfl, rfl⟩) ?_
  refine xa_cons 13 ((And.intro (by decide) (And.intro (by decide +kernel) rfl))) ?_
  refine xa_cons 14 (xc_iconst hx hb (z := 1) (b := 1) (And.intro (by decide +kernel) rfl) (by decide +kernel) ⟨rfl, rfl⟩) ?_
  refine xa_cons 15 ((And.intro (by decide) (Exists.intro (12) (And.intro (by decide +kernel) (And.intro (by decide +kernel) rfl))))) ?_
  refine xa_cons 16 ((And.intro (by decide) (Or.inl (Exists.intro (0) (And.intro rfl (And.intro (by decide +kernel) rfl)))))) ?_
  refine xa_cons 17 ((And.intro (by decide) (Or.inr (And.intro (by decide +kernel) rfl)))) ?_
  refine xa_cons 18 ((And.intro (by decide) (And.intro (by decide +kernel) rfl))) ?_
  refine xa_cons 19 ((And.intro (by decide) (Or.inl (Exists.intro (1) (And.intro rfl (And.intro (by decide +kernel) rfl)))))) ?_
  refine xa_cons 20 ((And.intro (by decide) (And.intro (by decide +kernel) rfl))) ?_
  refine xa_cons 21 ((Exists.intro (4) (And.intro (by decide +kernel) (by decide +kernel)))) ?_
  refine xa_cons 22 (xc_iconst hx hb (z := 0) (b := 0) (And.intro (by decide +kernel) rfl) (by decide +kernel) ⟨rfl, rfl⟩) ?_
  refine xa_cons 23 ((And.intro (by decide) (And.intro (by decide +kernel) rfl))) ?_
  refine xa_cons 24 ((And.intro (Or.inl rfl) (Or.inl (Exists.intro (3) (And.intro rfl (And.intro (by decide +kernel) rfl)))))) ?_
  refine xa_cons 25 ((Exists.intro (1) (And.intro (And.intro (by decide +kernel) rfl) (by decide +kernel)))) ?_
  refine xa_cons 26 ((Exists.intro (-33) (And.intro (by decide +kernel) (by decide +kernel)))) ?_
  refine xa_cons 27 ((And.intro (by decide) (Or.inl (Exists.intro (3) (And.intro rfl (And.intro (by decide +kernel) rfl)))))) ?_
  refine xa_cons 28 ((And.intro hr (by decide +kernel))) ?_
  exact xa_nil
def xrp_170 : Nat → Nat := fun k => ([0, 1, 4, 5, 6, 7, 8, 11, 12, 13, 16, 17, 18, 19, 20, 21, 24, 27, 28, 29, 30, 31, 32, 33, 34, 35, 38, 39, 42, 43, 44, 47, 48, 49, 50, 51, 52, 53, 54, 55, 56, 59, 60, 63, 64, 65, 66, 67, 70, 71, 72, 73, 76, 79, 80] : List Nat).getD k 0
set_option maxRecDepth 20000 in
set_option maxHeartbeats 4000000 in
theorem xz_170 {l : Launch} {D : va_G} {en : XE} : x_Ok xT l D xcl en xrn (xG en) 170 xc_170 := by
  refine ⟨prog_10_method_16_code, (some .int), xBIG, xrp_170, by decide +kernel, rfl, rfl, ?_⟩
  intro p e R s m args below meth c s₁ A Q pc i f1 f2 B hml hA hg hi
  obtain ⟨hx, hb, hr, hown, hlocks, hin, htsB, S⟩ := xb_all (C := "ExpressHouse$Schema") B hml rfl rfl
  obtain ⟨hgN, hgZ, hgS, hgS2⟩ := xG_all hg
  refine xa_at (i := i) (pc := pc) ?_ hi
  refine xa_cons 0 ((And.intro (by decide) (Or.inl (Exists.intro (0) (And.intro rfl (And.intro (by decide +kernel) rfl)))))) ?_
  refine xa_cons 1 (xc_getf (A := A) (own := "ExpressHouse$Schema") (index := 37) hx hb htsB xC_3 hown rfl (by decide) xw_224 (And.intro (by decide +kernel) rfl)) ?_
  refine xa_cons 2 ((And.intro (by decide) (Or.inl (Exists.intro (1) (And.intro rfl (And.intro (by decide +kernel) rfl)))))) ?_
  refine xa_cons 3 ((And.intro (by decide) (And.intro (by decide +kernel) rfl))) ?_
  refine xa_cons 4 (xc_iconst hx hb (z := 0) (b := 0) (And.intro (by decide +kernel) rfl) (by decide +kernel) ⟨rfl, rfl⟩) ?_
  refine xa_cons 5 ((And.intro (by decide) (And.intro (by decide +kernel) rfl))) ?_
  refine xa_cons 6 ((And.intro (by decide) (Exists.intro (21) (And.intro (by decide +kernel) (And.intro (by decide +kernel) rfl))))) ?_
  refine xa_cons 7 ((And.intro (by decide) (Or.inl (Exists.intro (0) (And.intro rfl (And.intro (by decide +kernel) rfl)))))) ?_
  refine xa_cons 8 ((And.intro (by decide) (Or.inl (Exists.intro (0) (And.intro rfl (And.intro (by decide +kernel) rfl)))))) ?_
  refine xa_cons 9 (xc_getf (A := A) (own := "ExpressHouse$Schema") (index := 37) hx hb htsB xC_3 hown rfl (by decide) xw_224 (And.intro (by decide +kernel) rfl)) ?_
  refine xa_cons 10 ((And.intro (by decide) (Or.inl (Exists.intro (1) (And.intro rfl (And.intro (by decide +kernel) rfl)))))) ?_
  refine xa_cons 11 ((And.intro (by decide) (And.intro (by decide +kernel) rfl))) ?_
  refine xa_cons 12 (xc_iconst hx hb (z := 1) (b := 1) (And.intro (by decide +kernel) rfl) (by decide +kernel) ⟨rfl, rfl⟩) ?_
  refine xa_cons 13 ((And.intro (by decide) (And.intro (by decide +kernel) rfl))) ?_
  refine xa_cons 14 (xc_iconst hx hb (z := 0) (b := 0) (And.intro (by decide +kernel) rfl) (by decide +kernel) ⟨rfl, rfl⟩) ?_
  refine xa_cons 15 ((And.intro (xc_callV (index := 130) (n := 2) (ci := 3) S xg_174 rfl xw_15 xw_817 xw_815 xw_816 rfl rfl rfl ⟨by decide, by decide, by decide +kernel⟩ rfl (And.intro (by decide +kernel) rfl)) (by decide +kernel))) ?_
  refine xa_cons 16 ((And.intro (by decide) (Exists.intro (5) (And.intro (by decide +kernel) (And.intro (by decide +kernel) rfl))))) ?_
  refine xa_cons 17 (xc_iconst hx hb (z := 0) (b := 0) (And.intro (by decide +kernel) rfl) (by decide +kernel) ⟨rfl, rfl⟩) ?_
  refine xa_cons 18 ((And.intro hr (by decide +kernel))) ?_
  refine xa_cons 19 (xc_iconst hx hb (z := 0) (b := 0) (And.intro (by decide +kernel) rfl) (by decide +kernel) ⟨rfl, rfl⟩) ?_
  refine xa_cons 20 ((And.intro (Or.inl rfl) (Or.inl (Exists.intro (2) (And.intro rfl (And.intro (by decide +kernel) rfl)))))) ?_
  refine xa_cons 21 (xc_iconst hx hb (z := 0) (b := 0) (And.intro (by decide +kernel) rfl) (by decide +kernel) ⟨rfl, rfl⟩) ?_
  refine xa_cons 22 ((And.intro (Or.inl rfl) (Or.inl (Exists.intro (3) (And.intro rfl (And.intro (by decide +kernel) rfl)))))) ?_
  refine xa_cons 23 ((And.intro (by decide) (Or.inl (Exists.intro (3) (And.intro rfl (And.intro (by decide +kernel) rfl)))))) ?_
  refine xa_cons 24 ((And.intro (by decide) (Or.inl (Exists.intro (0) (And.intro rfl (And.intro (by decide +kernel) rfl)))))) ?_
  refine xa_cons 25 (xc_getf (A := A) (own := "ExpressHouse$Schema") (index := 37) hx hb htsB xC_3 hown rfl (by decide) xw_224 (And.intro (by decide +kernel) rfl)) ?_
  refine xa_cons 26 ((And.intro (by decide +kernel) rfl)) ?_
  refine xa_cons 27 ((And.intro (by decide) (Exists.intro (40) (And.intro (by decide +kernel) (And.intro (by decide +kernel) rfl))))) ?_
  refine xa_cons 28 ((And.intro (by decide) (Or.inl (Exists.intro (2) (And.intro rfl (And.intro (by decide +kernel) rfl)))))) ?_
  refine xa_cons 29 ((And.intro (by decide) (Or.inl (Exists.intro (0) (And.intro rfl (And.intro (by decide +kernel) rfl)))))) ?_
  refine xa_cons 30 (xc_getf (A := A) (own := "ExpressHouse$Schema") (index := 37) hx hb htsB xC_3 hown rfl (by decide) xw_224 (And.intro (by decide +kernel) rfl)) ?_
  refine xa_cons 31 ((And.intro (by decide) (Or.inl (Exists.intro (1) (And.intro rfl (And.intro (by decide +kernel) rfl)))))) ?_
  refine xa_cons 32 ((And.intro (by decide) (And.intro (by decide +kernel) rfl))) ?_
  refine xa_cons 33 (xc_iconst hx hb (z := 2) (b := 2) (And.intro (by decide +kernel) rfl) (by decide +kernel) ⟨rfl, rfl⟩) ?_
  refine xa_cons 34 ((And.intro (by decide) (And.intro (by decide +kernel) rfl))) ?_
  refine xa_cons 35 ((And.intro (by decide) (Or.inl (Exists.intro (3) (And.intro rfl (And.intro (by decide +kernel) rfl)))))) ?_
  refine xa_cons 36 ((And.intro (by decide) (And.intro (by decide +kernel) rfl))) ?_
  refine xa_cons 37 (xc_iconst hx hb (z := 1) (b := 1) (And.intro (by decide +kernel) rfl) (by decide +kernel) ⟨rfl, rfl⟩) ?_
  refine xa_cons 38 ((And.intro (by decide) (And.intro (by decide +kernel) rfl))) ?_
  refine xa_cons 39 (xc_iconst hx hb (z := 1) (b := 1) (And.intro (by decide +kernel) rfl) (by decide +kernel) ⟨rfl, rfl⟩) ?_
  refine xa_cons 40 ((And.intro (by decide) (Exists.intro (14) (And.intro (by decide +kernel) (And.intro (by decide +kernel) rfl))))) ?_
  refine xa_cons 41 ((And.intro (by decide) (Or.inl (Exists.intro (0) (And.intro rfl (And.intro (by decide +kernel) rfl)))))) ?_
  refine xa_cons 42 (xc_getf (A := A) (own := "ExpressHouse$Schema") (index := 37) hx hb htsB xC_3 hown rfl (by decide) xw_224 (And.intro (by decide +kernel) rfl)) ?_
  refine xa_cons 43 ((And.intro (by decide) (Or.inl (Exists.intro (3) (And.intro rfl (And.intro (by decide +kernel) rfl)))))) ?_
  refine xa_cons 44 ((And.intro (by decide) (And.intro (by decide +kernel) rfl))) ?_
  refine xa_cons 45 (xc_iconst hx hb (z := 3) (b := 3) (And.intro (by decide +kernel) rfl) (by decide +kernel) ⟨rfl, rfl⟩) ?_
  refine xa_cons 46 ((And.intro (by decide) (And.intro (by decide +kernel) rfl))) ?_
  refine xa_cons 47 ((Exists.intro (4) (And.intro (by decide +kernel) (by decide +kernel)))) ?_
  refine xa_cons 48 (xc_iconst hx hb (z := 0) (b := 0) (And.intro (by decide +kernel) rfl) (by decide +kernel) ⟨rfl, rfl⟩) ?_
  refine xa_cons 49 ((And.intro (by decide) (And.intro (by decide +kernel) rfl))) ?_
  refine xa_cons 50 ((And.intro (Or.inl rfl) (Or.inl (Exists.intro (2) (And.intro rfl (And.intro (by decide +kernel) rfl)))))) ?_
  refine xa_cons 51 ((Exists.intro (1) (And.intro (And.intro (by decide +kernel) rfl) (by decide +kernel)))) ?_
  refine xa_cons 52 ((Exists.intro (-43) (And.intro (by decide +kernel) (by decide +kernel)))) ?_
  refine xa_cons 53 ((And.intro (by decide) (Or.inl (Exists.intro (2) (And.intro rfl (And.intro (by decide +kernel) rfl)))))) ?_
  refine xa_cons 54 ((And.intro hr (by decide +kernel))) ?_
  exact xa_nil
def xrp_171 : Nat → Nat := fun k => ([0, 1, 2, 3, 4, 5, 6, 9, 10, 13, 14, 15, 18, 21, 22, 25, 26, 29, 30, 31, 32, 33, 34, 35, 36, 37, 38, 39, 42, 45, 46] : List Nat).getD k 0
set_option maxRecDepth 20000 in
set_option maxHeartbeats 4000000 in
theorem xz_171 {l : Launch} {D : va_G} {en : XE} : x_Ok xT l D xcl en xrn (xG en) 171 xc_171 := by
  refine ⟨prog_10_method_13_code, (some .int), xBIG, xrp_171, by decide +kernel, rfl, rfl, ?_⟩
  intro p e R s m args below meth c s₁ A Q pc i f1 f2 B hml hA hg hi
  obtain ⟨hx, hb, hr, hown, hlocks, hin, htsB, S⟩ := xb_all (C := "ExpressHouse$Schema") B hml rfl rfl
  obtain ⟨hgN, hgZ, hgS, hgS2⟩ := xG_all hg
  refine xa_at (i := i) (pc := pc) ?_ hi
  refine xa_cons 0 ((And.intro (by decide) (Or.inl (Exists.intro (1) (And.intro rfl (And.intro (by decide +kernel) rfl)))))) ?_
  refine xa_cons 1 ((And.intro (Or.inl rfl) (Or.inl (Exists.intro (2) (And.intro rfl (And.intro (by decide +kernel) rfl)))))) ?_
  refine xa_cons 2 (xc_iconst hx hb (z := 0) (b := 0) (And.intro (by decide +kernel) rfl) (by decide +kernel) ⟨rfl, rfl⟩) ?_
  refine xa_cons 3 ((And.intro (Or.inl rfl) (Or.inl (Exists.intro (3) (And.intro rfl (And.intro (by decide +kernel) rfl)))))) ?_
  refine xa_cons 4 ((And.intro (by decide) (Or.inl (Exists.intro (3) (And.intro rfl (And.intro (by decide +kernel) rfl)))))) ?_
  refine xa_cons 5 ((And.intro (by decide) (Or.inl (Exists.intro (0) (And.intro rfl (And.intro (by decide +kernel) rfl)))))) ?_
  refine xa_cons 6 (xc_getf (A := A) (own := "ExpressHouse$Schema") (index := 37) hx hb htsB xC_3 hown rfl (by decide) xw_224 (And.intro (by decide +kernel) rfl)) ?_
  refine xa_cons 7 ((And.intro (by decide +kernel) rfl)) ?_
  refine xa_cons 8 ((And.intro (by decide) (Exists.intro (35) (And.intro (by decide +kernel) (And.intro (by decide +kernel) rfl))))) ?_
  refine xa_cons 9 ((And.intro (by decide) (Or.inl (Exists.intro (0) (And.intro rfl (And.intro (by decide +kernel) rfl)))))) ?_
  refine xa_cons 10 ((And.intro (by decide) (Or.inl (Exists.intro (2) (And.intro rfl (And.intro (by decide +kernel) rfl)))))) ?_
  refine xa_cons 11 ((And.intro (xc_callV (index := 134) (n := 1) (ci := 3) S xg_241 rfl xw_15 xw_1069 xw_1067 xw_1068 rfl rfl rfl ⟨by decide, by decide, by decide +kernel⟩ rfl (And.intro (by decide +kernel) rfl)) (by decide +kernel))) ?_
  refine xa_cons 12 ((And.intro (by decide) (Exists.intro (27) (And.intro (by decide +kernel) (And.intro (by decide +kernel) rfl))))) ?_
  refine xa_cons 13 ((And.intro (by decide) (Or.inl (Exists.intro (0) (And.intro rfl (And.intro (by decide +kernel) rfl)))))) ?_
  refine xa_cons 14 (xc_getf (A := A) (own := "ExpressHouse$Schema") (index := 37) hx hb htsB xC_3 hown rfl (by decide) xw_224 (And.intro (by decide +kernel) rfl)) ?_
  refine xa_cons 15 ((And.intro (by decide) (Or.inl (Exists.intro (0) (And.intro rfl (And.intro (by decide +kernel) rfl)))))) ?_
  refine xa_cons 16 (xc_getf (A := A) (own := "ExpressHouse$Schema") (index := 49) hx hb htsB xC_3 hown rfl (by decide) xw_228 (And.intro (by decide +kernel) rfl)) ?_
  refine xa_cons 17 ((And.intro (by decide) (Or.inl (Exists.intro (2) (And.intro rfl (And.intro (by decide +kernel) rfl)))))) ?_
  refine xa_cons 18 ((And.intro (by decide) (And.intro (by decide +kernel) rfl))) ?_
  refine xa_cons 19 (xc_iconst hx hb (z := 3) (b := 3) (And.intro (by decide +kernel) rfl) (by decide +kernel) ⟨rfl, rfl⟩) ?_
  refine xa_cons 20 ((And.intro (by decide) (And.intro (by decide +kernel) rfl))) ?_
  refine xa_cons 21 (xc_iconst hx hb (z := 3) (b := 3) (And.intro (by decide +kernel) rfl) (by decide +kernel) ⟨rfl, rfl⟩) ?_
  refine xa_cons 22 ((And.intro (by decide) (And.intro (by decide +kernel) rfl))) ?_
  refine xa_cons 23 ((And.intro (by decide) (And.intro (by decide +kernel) rfl))) ?_
  refine xa_cons 24 (xc_iconst hx hb (z := 1) (b := 1) (And.intro (by decide +kernel) rfl) (by decide +kernel) ⟨rfl, rfl⟩) ?_
  refine xa_cons 25 ((And.intro (by decide) (And.intro (by decide +kernel) rfl))) ?_
  refine xa_cons 26 ((And.intro (Or.inl rfl) (Or.inl (Exists.intro (2) (And.intro rfl (And.intro (by decide +kernel) rfl)))))) ?_
  refine xa_cons 27 ((Exists.intro (1) (And.intro (And.intro (by decide +kernel) rfl) (by decide +kernel)))) ?_
  refine xa_cons 28 ((Exists.intro (-38) (And.intro (by decide +kernel) (by decide +kernel)))) ?_
  refine xa_cons 29 ((And.intro (by decide) (Or.inl (Exists.intro (2) (And.intro rfl (And.intro (by decide +kernel) rfl)))))) ?_
  refine xa_cons 30 ((And.intro hr (by decide +kernel))) ?_
  exact xa_nil
def xrp_172 : Nat → Nat := fun k => ([0, 1, 3, 6, 7, 9, 10, 11, 13, 14, 15, 16, 17, 18, 21, 24, 25, 28, 29, 30, 31, 32, 33, 34, 35, 36, 39, 40, 41, 44, 45, 46, 47, 50, 51] : List Nat).getD k 0
set_option maxRecDepth 20000 in
set_option maxHeartbeats 4000000 in
theorem xz_172 {l : Launch} {D : va_G} {en : XE} : x_Ok xT l D xcl en xrn (xG en) 172 xc_172 := by
  refine ⟨prog_10_method_20_code, (some .int), xBIG, xrp_172, by decide +kernel, rfl, rfl, ?_⟩
  intro p e R s m args below meth c s₁ A Q pc i f1 f2 B hml hA hg hi
  obtain ⟨hx, hb, hr, hown, hlocks, hin, htsB, S⟩ := xb_all (C := "ExpressHouse$Schema") B hml rfl rfl
  obtain ⟨hgN, hgZ, hgS, hgS2⟩ := xG_all hg
  refine xa_at (i := i) (pc := pc) ?_ hi
  refine xa_cons 0 ((And.intro (by decide) (Or.inl (Exists.intro (1) (And.intro rfl (And.intro (by decide +kernel) rfl)))))) ?_
  refine xa_cons 1 (xc_bipush hx hb (z := 20) (b := 20) (And.intro (by decide +kernel) rfl) (by decide +kernel) ⟨rfl, rfl⟩) ?_
  refine xa_cons 2 ((And.intro (by decide) (Exists.intro (13) (And.intro (by decide +kernel) (And.intro (by decide +kernel) rfl))))) ?_
  refine xa_cons 3 (xc_iconst hx hb (z := 1) (b := 1) (And.intro (by decide +kernel) rfl) (by decide +kernel) ⟨rfl, rfl⟩) ?_
  refine xa_cons 4 (xc_bipush hx hb (z := 11) (b := 11) (And.intro (by decide +kernel) rfl) (by decide +kernel) ⟨rfl, rfl⟩) ?_
  refine xa_cons 5 ((And.intro (by decide) (Or.inl (Exists.intro (1) (And.intro rfl (And.intro (by decide +kernel) rfl)))))) ?_
  refine xa_cons 6 ((And.intro (by decide) (And.intro (by decide +kernel) rfl))) ?_
  refine xa_cons 7 (xc_bipush hx hb (z := 20) (b := 20) (And.intro (by decide +kernel) rfl) (by decide +kernel) ⟨rfl, rfl⟩) ?_
  refine xa_cons 8 ((And.intro (by decide) (And.intro (by decide +kernel) rfl))) ?_
  refine xa_cons 9 ((And.intro (by decide) (And.intro (by decide +kernel) rfl))) ?_
  refine xa_cons 10 ((And.intro hr (by decide +kernel))) ?_
  refine xa_cons 11 ((And.intro (by decide) (Or.inl (Exists.intro (0) (And.intro rfl (And.intro (by decide +kernel) rfl)))))) ?_
  refine xa_cons 12 ((And.intro (by decide) (Or.inl (Exists.intro (1) (And.intro rfl (And.intro (by decide +kernel) rfl)))))) ?_
  refine xa_cons 13 ((And.intro (xc_callV (index := 110) (n := 1) (ci := 3) S xg_242 rfl xw_15 xw_1072 xw_1070 xw_1071 rfl rfl rfl ⟨by decide, by decide, by decide +kernel⟩ rfl (And.intro (by decide +kernel) rfl)) (by decide +kernel))) ?_
  refine xa_cons 14 ((And.intro (by decide) (Exists.intro (14) (And.intro (by decide +kernel) (And.intro (by decide +kernel) rfl))))) ?_
  refine xa_cons 15 ((And.intro (by decide) (Or.inl (Exists.intro (0) (And.intro rfl (And.intro (by decide +kernel) rfl)))))) ?_
  refine xa_cons 16 (xc_getf (A := A) (own := "ExpressHouse$Schema") (index := 37) hx hb htsB xC_3 hown rfl (by decide) xw_224 (And.intro (by decide +kernel) rfl)) ?_
  refine xa_cons 17 ((And.intro (by decide) (Or.inl (Exists.intro (1) (And.intro rfl (And.intro (by decide +kernel) rfl)))))) ?_
  refine xa_cons 18 (xc_iconst hx hb (z := 3) (b := 3) (And.intro (by decide +kernel) rfl) (by decide +kernel) ⟨rfl, rfl⟩) ?_
  refine xa_cons 19 ((And.intro (by decide) (And.intro (by decide +kernel) rfl))) ?_
  refine xa_cons 20 ((And.intro (by decide) (And.intro (by decide +kernel) rfl))) ?_
  refine xa_cons 21 (xc_iconst hx hb (z := 3) (b := 3) (And.intro (by decide +kernel) rfl) (by decide +kernel) ⟨rfl, rfl⟩) ?_
  refine xa_cons 22 ((And.intro (by decide) (And.intro (by decide +kernel) rfl))) ?_
  refine xa_cons 23 ((And.intro hr (by decide +kernel))) ?_
  refine xa_cons 24 ((And.intro (by decide) (Or.inl (Exists.intro (1) (And.intro rfl (And.intro (by decide +kernel) rfl)))))) ?_
  refine xa_cons 25 ((And.intro (by decide) (Exists.intro (14) (And.intro (by decide +kernel) (And.intro (by decide +kernel) rfl))))) ?_
  refine xa_cons 26 ((And.intro (by decide) (Or.inl (Exists.intro (1) (And.intro rfl (And.intro (by decide +kernel) rfl)))))) ?_
  refine xa_cons 27 (xc_iconst hx hb (z := 2) (b := 2) (And.intro (by decide +kernel) rfl) (by decide +kernel) ⟨rfl, rfl⟩) ?_
  refine xa_cons 28 ((And.intro (by decide) (Exists.intro (9) (And.intro (by decide +kernel) (And.intro (by decide +kernel) rfl))))) ?_
  refine xa_cons 29 (xc_iconst hx hb (z := 1) (b := 1) (And.intro (by decide +kernel) rfl) (by decide +kernel) ⟨rfl, rfl⟩) ?_
  refine xa_cons 30 ((And.intro (by decide) (Or.inl (Exists.intro (1) (And.intro rfl (And.intro (by decide +kernel) rfl)))))) ?_
  refine xa_cons 31 ((And.intro (by decide) (And.intro (by decide +kernel) rfl))) ?_
  refine xa_cons 32 ((Exists.intro (4) (And.intro (by decide +kernel) (by decide +kernel)))) ?_
  refine xa_cons 33 (xc_iconst hx hb (z := 0) (b := 0) (And.intro (by decide +kernel) rfl) (by decide +kernel) ⟨rfl, rfl⟩) ?_
  refine xa_cons 34 ((And.intro hr (by decide +kernel))) ?_
  exact xa_nil
def xrp_173 : Nat → Nat := fun k => ([0, 1, 2, 5, 8, 9, 10, 13, 14, 17, 18, 19, 20, 21, 24, 25, 26, 27, 28, 29, 30, 33, 34, 35, 36, 37, 40, 43, 44, 45, 46, 49, 50, 53, 54, 57, 58] : List Nat).getD k 0
set_option maxRecDepth 20000 in
set_option maxHeartbeats 4000000 in
theorem xz_173 {l : Launch} {D : va_G} {en : XE} : x_Ok xT l D xcl en xrn (xG en) 173 xc_173 := by
  refine ⟨prog_10_method_19_code, (some .boolean), xBIG, xrp_173, by decide +kernel, rfl, rfl, ?_⟩
  intro p e R s m args below meth c s₁ A Q pc i f1 f2 B hml hA hg hi
  obtain ⟨hx, hb, hr, hown, hlocks, hin, htsB, S⟩ := xb_all (C := "ExpressHouse$Schema") B hml rfl rfl
  obtain ⟨hgN, hgZ, hgS, hgS2⟩ := xG_all hg
  refine xa_at (i := i) (pc := pc) ?_ hi
  refine xa_cons 0 ((And.intro (by decide) (Or.inl (Exists.intro (0) (And.intro rfl (And.intro (by decide +kernel) rfl)))))) ?_
  refine xa_cons 1 ((And.intro (by decide) (Or.inl (Exists.intro (1) (And.intro rfl (And.intro (by decide +kernel) rfl)))))) ?_
  refine xa_cons 2 ((And.intro (xc_callV (index := 137) (n := 1) (ci := 3) S xg_243 rfl xw_15 xw_1075 xw_1073 xw_1074 rfl rfl rfl ⟨by decide, by decide, by decide +kernel⟩ rfl (And.intro (by decide +kernel) rfl)) (by decide +kernel))) ?_
  refine xa_cons 3 ((And.intro (by decide) (Exists.intro (14) (And.intro (by decide +kernel) (And.intro (by decide +kernel) rfl))))) ?_
  refine xa_cons 4 ((And.intro (by decide) (Or.inl (Exists.intro (1) (And.intro rfl (And.intro (by decide +kernel) rfl)))))) ?_
  refine xa_cons 5 (xc_iconst hx hb (z := 1) (b := 1) (And.intro (by decide +kernel) rfl) (by decide +kernel) ⟨rfl, rfl⟩) ?_
  refine xa_cons 6 ((And.intro (by decide) (Exists.intro (7) (And.intro (by decide +kernel) (And.intro (by decide +kernel) rfl))))) ?_
  refine xa_cons 7 (xc_iconst hx hb (z := 1) (b := 1) (And.intro (by decide +kernel) rfl) (by decide +kernel) ⟨rfl, rfl⟩) ?_
  refine xa_cons 8 ((Exists.intro (4) (And.intro (by decide +kernel) (by decide +kernel)))) ?_
  refine xa_cons 9 (xc_iconst hx hb (z := 0) (b := 0) (And.intro (by decide +kernel) rfl) (by decide +kernel) ⟨rfl, rfl⟩) ?_
  refine xa_cons 10 ((And.intro hr (by decide +kernel))) ?_
  refine xa_cons 11 ((And.intro (by decide) (Or.inl (Exists.intro (0) (And.intro rfl (And.intro (by decide +kernel) rfl)))))) ?_
  refine xa_cons 12 ((And.intro (by decide) (Or.inl (Exists.intro (0) (And.intro rfl (And.intro (by decide +kernel) rfl)))))) ?_
  refine xa_cons 13 (xc_getf (A := A) (own := "ExpressHouse$Schema") (index := 37) hx hb htsB xC_3 hown rfl (by decide) xw_224 (And.intro (by decide +kernel) rfl)) ?_
  refine xa_cons 14 ((And.intro (by decide) (Or.inl (Exists.intro (1) (And.intro rfl (And.intro (by decide +kernel) rfl)))))) ?_
  refine xa_cons 15 (xc_iconst hx hb (z := 3) (b := 3) (And.intro (by decide +kernel) rfl) (by decide +kernel) ⟨rfl, rfl⟩) ?_
  refine xa_cons 16 ((And.intro (by decide) (And.intro (by decide +kernel) rfl))) ?_
  refine xa_cons 17 ((And.intro (by decide) (And.intro (by decide +kernel) rfl))) ?_
  refine xa_cons 18 (xc_iconst hx hb (z := 1) (b := 1) (And.intro (by decide +kernel) rfl) (by decide +kernel) ⟨rfl, rfl⟩) ?_
  refine xa_cons 19 ((And.intro (by decide) (And.intro (by decide +kernel) rfl))) ?_
  refine xa_cons 20 ((And.intro (xc_callV (index := 121) (n := 1) (ci := 3) S xg_171 rfl xw_15 xw_808 xw_806 xw_807 rfl rfl rfl ⟨by decide, by decide, by decide +kernel⟩ rfl (And.intro (by decide +kernel) rfl)) (by decide +kernel))) ?_
  refine xa_cons 21 ((And.intro (Or.inl rfl) (Or.inl (Exists.intro (2) (And.intro rfl (And.intro (by decide +kernel) rfl)))))) ?_
  refine xa_cons 22 ((And.intro (by decide) (Or.inl (Exists.intro (0) (And.intro rfl (And.intro (by decide +kernel) rfl)))))) ?_
  refine xa_cons 23 ((And.intro (by decide) (Or.inl (Exists.intro (2) (And.intro rfl (And.intro (by decide +kernel) rfl)))))) ?_
  refine xa_cons 24 (xc_iconst hx hb (z := 0) (b := 0) (And.intro (by decide +kernel) rfl) (by decide +kernel) ⟨rfl, rfl⟩) ?_
  refine xa_cons 25 ((And.intro (xc_callV (index := 130) (n := 2) (ci := 3) S xg_174 rfl xw_15 xw_817 xw_815 xw_816 rfl rfl rfl ⟨by decide, by decide, by decide +kernel⟩ rfl (And.intro (by decide +kernel) rfl)) (by decide +kernel))) ?_
  refine xa_cons 26 ((And.intro (by decide) (Exists.intro (17) (And.intro (by decide +kernel) (And.intro (by decide +kernel) rfl))))) ?_
  refine xa_cons 27 ((And.intro (by decide) (Or.inl (Exists.intro (0) (And.intro rfl (And.intro (by decide +kernel) rfl)))))) ?_
  refine xa_cons 28 ((And.intro (by decide) (Or.inl (Exists.intro (2) (And.intro rfl (And.intro (by decide +kernel) rfl)))))) ?_
  refine xa_cons 29 (xc_iconst hx hb (z := 3) (b := 3) (And.intro (by decide +kernel) rfl) (by decide +kernel) ⟨rfl, rfl⟩) ?_
  refine xa_cons 30 ((And.intro (xc_callV (index := 130) (n := 2) (ci := 3) S xg_174 rfl xw_15 xw_817 xw_815 xw_816 rfl rfl rfl ⟨by decide, by decide, by decide +kernel⟩ rfl (And.intro (by decide +kernel) rfl)) (by decide +kernel))) ?_
  refine xa_cons 31 (xc_iconst hx hb (z := 1) (b := 1) (And.intro (by decide +kernel) rfl) (by decide +kernel) ⟨rfl, rfl⟩) ?_
  refine xa_cons 32 ((And.intro (by decide) (Exists.intro (7) (And.intro (by decide +kernel) (And.intro (by decide +kernel) rfl))))) ?_
  refine xa_cons 33 (xc_iconst hx hb (z := 1) (b := 1) (And.intro (by decide +kernel) rfl) (by decide +kernel) ⟨rfl, rfl⟩) ?_
  refine xa_cons 34 ((Exists.intro (4) (And.intro (by decide +kernel) (by decide +kernel)))) ?_
  refine xa_cons 35 (xc_iconst hx hb (z := 0) (b := 0) (And.intro (by decide +kernel) rfl) (by decide +kernel) ⟨rfl, rfl⟩) ?_
  refine xa_cons 36 ((And.intro hr (by decide +kernel))) ?_
  exact xa_nil
def xrp_174 : Nat → Nat := fun k => ([0, 1, 4, 5, 6, 9, 10, 13, 14, 17, 18, 20, 23, 25, 28, 29, 32, 33, 34, 35, 36] : List Nat).getD k 0
set_option maxRecDepth 20000 in
set_option maxHeartbeats 4000000 in
theorem xz_174 {l : Launch} {D : va_G} {en : XE} : x_Ok xT l D xcl en xrn (xG en) 174 xc_174 := by
  refine ⟨prog_10_method_9_code, (some .int), xBIG, xrp_174, by decide +kernel, rfl, rfl, ?_⟩
  intro p e R s m args below meth c s₁ A Q pc i f1 f2 B hml hA hg hi
  obtain ⟨hx, hb, hr, hown, hlocks, hin, htsB, S⟩ := xb_all (C := "ExpressHouse$Schema") B hml rfl rfl
  obtain ⟨hgN, hgZ, hgS, hgS2⟩ := xG_all hg
  refine xa_at (i := i) (pc := pc) ?_ hi
  refine xa_cons 0 ((And.intro (by decide) (Or.inl (Exists.intro (1) (And.intro rfl (And.intro (by decide +kernel) rfl)))))) ?_
  refine xa_cons 1 ((And.intro (by decide) (Exists.intro (22) (And.intro (by decide +kernel) (And.intro (by decide +kernel) rfl))))) ?_
  refine xa_cons 2 ((And.intro (by decide) (Or.inl (Exists.intro (1) (And.intro rfl (And.intro (by decide +kernel) rfl)))))) ?_
  refine xa_cons 3 ((And.intro (by decide) (Or.inl (Exists.intro (0) (And.intro rfl (And.intro (by decide +kernel) rfl)))))) ?_
  refine xa_cons 4 (xc_getf (A := A) (own := "ExpressHouse$Schema") (index := 49) hx hb htsB xC_3 hown rfl (by decide) xw_228 (And.intro (by decide +kernel) rfl)) ?_
  refine xa_cons 5 ((And.intro (by decide +kernel) rfl)) ?_
  refine xa_cons 6 ((And.intro (by decide) (Exists.intro (13) (And.intro (by decide +kernel) (And.intro (by decide +kernel) rfl))))) ?_
  refine xa_cons 7 ((And.intro (by decide) (Or.inl (Exists.intro (2) (And.intro rfl (And.intro (by decide +kernel) rfl)))))) ?_
  refine xa_cons 8 ((And.intro (by decide) (Exists.intro (9) (And.intro (by decide +kernel) (And.intro (by decide +kernel) rfl))))) ?_
  refine xa_cons 9 ((And.intro (by decide) (Or.inl (Exists.intro (2) (And.intro rfl (And.intro (by decide +kernel) rfl)))))) ?_
  refine xa_cons 10 (xc_bipush hx hb (z := 9) (b := 9) (And.intro (by decide +kernel) rfl) (by decide +kernel) ⟨rfl, rfl⟩) ?_
  refine xa_cons 11 ((And.intro (by decide) (Exists.intro (8) (And.intro (by decide +kernel) (And.intro (by decide +kernel) rfl))))) ?_
  refine xa_cons 12 (xc_bipush hx hb (z := -3) (b := 4294967293) (And.intro (by decide +kernel) rfl) (by decide +kernel) ⟨rfl, rfl⟩) ?_
  refine xa_cons 13 ((Exists.intro (11) (And.intro (by decide +kernel) (by decide +kernel)))) ?_
  refine xa_cons 14 ((And.intro (by decide) (Or.inl (Exists.intro (0) (And.intro rfl (And.intro (by decide +kernel) rfl)))))) ?_
  refine xa_cons 15 (xc_getf (A := A) (own := "ExpressHouse$Schema") (index := 49) hx hb htsB xC_3 hown rfl (by decide) xw_228 (And.intro (by decide +kernel) rfl)) ?_
  refine xa_cons 16 ((And.intro (by decide) (Or.inl (Exists.intro (1) (And.intro rfl (And.intro (by decide +kernel) rfl)))))) ?_
  refine xa_cons 17 ((And.intro (by decide) (And.intro (by decide +kernel) rfl))) ?_
  refine xa_cons 18 ((And.intro (by decide) (Or.inl (Exists.intro (2) (And.intro rfl (And.intro (by decide +kernel) rfl)))))) ?_
  refine xa_cons 19 ((And.intro (by decide) (And.intro (by decide +kernel) rfl))) ?_
  refine xa_cons 20 ((And.intro hr (by decide +kernel))) ?_
  exact xa_nil
def xrp_175 : Nat → Nat := fun k => ([0, 1, 2, 3, 4, 7, 8, 9, 12, 13, 14, 15, 16, 17, 18, 21, 22, 25, 26, 27, 28, 29, 30, 31, 32, 33, 34, 37, 38, 39, 42, 45, 46] : List Nat).getD k 0
set_option maxRecDepth 20000 in
set_option maxHeartbeats 4000000 in
theorem xz_175 {l : Launch} {D : va_G} {en : XE} : x_Ok xT l D xcl en xrn (xG en) 175 xc_175 := by
  refine ⟨prog_10_method_33_code, (some .boolean), xBIG, xrp_175, by decide +kernel, rfl, rfl, ?_⟩
  intro p e R s m args below meth c s₁ A Q pc i f1 f2 B hml hA hg hi
  obtain ⟨hx, hb, hr, hown, hlocks, hin, htsB, S⟩ := xb_all (C := "ExpressHouse$Schema") B hml rfl rfl
  obtain ⟨hgN, hgZ, hgS, hgS2⟩ := xG_all hg
  refine xa_at (i := i) (pc := pc) ?_ hi
  refine xa_cons 0 (xc_iconst hx hb (z := 0) (b := 0) (And.intro (by decide +kernel) rfl) (by decide +kernel) ⟨rfl, rfl⟩) ?_
  refine xa_cons 1 ((And.intro (Or.inl rfl) (Or.inl (Exists.intro (3) (And.intro rfl (And.intro (by decide +kernel) rfl)))))) ?_
  refine xa_cons 2 ((And.intro (by decide) (Or.inl (Exists.intro (3) (And.intro rfl (And.intro (by decide +kernel) rfl)))))) ?_
  refine xa_cons 3 ((And.intro (by decide) (Or.inl (Exists.intro (0) (And.intro rfl (And.intro (by decide +kernel) rfl)))))) ?_
  refine xa_cons 4 (xc_getf (A := A) (own := "ExpressHouse$Schema") (index := 28) hx hb htsB xC_3 hown rfl (by decide) xw_221 (And.intro (by decide +kernel) rfl)) ?_
  refine xa_cons 5 (xc_iconst hx hb (z := 2) (b := 2) (And.intro (by decide +kernel) rfl) (by decide +kernel) ⟨rfl, rfl⟩) ?_
  refine xa_cons 6 ((And.intro (by decide) (And.intro (by decide +kernel) rfl))) ?_
  refine xa_cons 7 ((And.intro (by decide) (Exists.intro (36) (And.intro (by decide +kernel) (And.intro (by decide +kernel) rfl))))) ?_
  refine xa_cons 8 ((And.intro (by decide) (Or.inl (Exists.intro (2) (And.intro rfl (And.intro (by decide +kernel) rfl)))))) ?_
  refine xa_cons 9 ((And.intro (by decide) (Or.inl (Exists.intro (3) (And.intro rfl (And.intro (by decide +kernel) rfl)))))) ?_
  refine xa_cons 10 ((And.intro (by decide) (And.intro (by decide +kernel) rfl))) ?_
  refine xa_cons 11 (xc_iconst hx hb (z := 1) (b := 1) (And.intro (by decide +kernel) rfl) (by decide +kernel) ⟨rfl, rfl⟩) ?_
  refine xa_cons 12 ((And.intro (by decide) (And.intro (by decide +kernel) rfl))) ?_
  refine xa_cons 13 (xc_iconst hx hb (z := 1) (b := 1) (And.intro (by decide +kernel) rfl) (by decide +kernel) ⟨rfl, rfl⟩) ?_
  refine xa_cons 14 ((And.intro (by decide) (Exists.intro (21) (And.intro (by decide +kernel) (And.intro (by decide +kernel) rfl))))) ?_
  refine xa_cons 15 ((And.intro (by decide) (Or.inl (Exists.intro (0) (And.intro rfl (And.intro (by decide +kernel) rfl)))))) ?_
  refine xa_cons 16 (xc_getf (A := A) (own := "ExpressHouse$Schema") (index := 40) hx hb htsB xC_3 hown rfl (by decide) xw_225 (And.intro (by decide +kernel) rfl)) ?_
  refine xa_cons 17 ((And.intro (by decide) (Or.inl (Exists.intro (3) (And.intro rfl (And.intro (by decide +kernel) rfl)))))) ?_
  refine xa_cons 18 ((And.intro (by decide) (And.intro (by decide +kernel) rfl))) ?_
  refine xa_cons 19 (xc_iconst hx hb (z := 1) (b := 1) (And.intro (by decide +kernel) rfl) (by decide +kernel) ⟨rfl, rfl⟩) ?_
  refine xa_cons 20 ((And.intro (by decide) (And.intro (by decide +kernel) rfl))) ?_
  refine xa_cons 21 ((And.intro (by decide) (Or.inl (Exists.intro (1) (And.intro rfl (And.intro (by decide +kernel) rfl)))))) ?_
  refine xa_cons 22 ((And.intro (by decide) (And.intro (by decide +kernel) rfl))) ?_
  refine xa_cons 23 (xc_iconst hx hb (z := 1) (b := 1) (And.intro (by decide +kernel) rfl) (by decide +kernel) ⟨rfl, rfl⟩) ?_
  refine xa_cons 24 ((And.intro (by decide) (And.intro (by decide +kernel) rfl))) ?_
  refine xa_cons 25 (xc_iconst hx hb (z := 1) (b := 1) (And.intro (by decide +kernel) rfl) (by decide +kernel) ⟨rfl, rfl⟩) ?_
  refine xa_cons 26 ((And.intro (by decide) (Exists.intro (5) (And.intro (by decide +kernel) (And.intro (by decide +kernel) rfl))))) ?_
  refine xa_cons 27 (xc_iconst hx hb (z := 1) (b := 1) (And.intro (by decide +kernel) rfl) (by decide +kernel) ⟨rfl, rfl⟩) ?_
  refine xa_cons 28 ((And.intro hr (by decide +kernel))) ?_
  refine xa_cons 29 ((Exists.intro (1) (And.intro (And.intro (by decide +kernel) rfl) (by decide +kernel)))) ?_
  refine xa_cons 30 ((Exists.intro (-40) (And.intro (by decide +kernel) (by decide +kernel)))) ?_
  refine xa_cons 31 (xc_iconst hx hb (z := 0) (b := 0) (And.intro (by decide +kernel) rfl) (by decide +kernel) ⟨rfl, rfl⟩) ?_
  refine xa_cons 32 ((And.intro hr (by decide +kernel))) ?_
  exact xa_nil
def xrp_176 : Nat → Nat := fun k => ([0, 1, 2, 3, 5, 7, 10, 12, 13, 14, 15, 18, 19, 22, 23, 26, 28, 29, 32, 33, 36, 38, 39, 40, 43, 44, 45, 48, 50, 51, 52, 53, 56, 57, 60, 61, 62, 65, 66, 69, 70, 73, 74, 75, 76, 79, 81, 82, 83, 84, 85, 86, 87, 90, 91, 92, 93, 96, 98, 99, 100, 101, 102, 103, 104, 105, 108, 109, 112, 113, 114, 117, 120, 123, 124, 127, 128, 129, 132, 133, 134, 135, 138, 139, 142, 143, 144, 147, 148, 151, 152] : List Nat).getD k 0
set_option maxRecDepth 20000 in
set_option maxHeartbeats 4000000 in
theorem xz_176 {l : Launch} {D : va_G} {en : XE} : x_Ok xT l D xcl en xrn (xG en) 176 xc_176 := by
  refine ⟨prog_10_method_34_code, (some .boolean), xBIG, xrp_176, by decide +kernel, rfl, rfl, ?_⟩
  intro p e R s m args below meth c s₁ A Q pc i f1 f2 B hml hA hg hi
  obtain ⟨hx, hb, hr, hown, hlocks, hin, htsB, S⟩ := xb_all (C := "ExpressHouse$Schema") B hml rfl rfl
  obtain ⟨hgN, hgZ, hgS, hgS2⟩ := xG_all hg
  refine xa_at (i := i) (pc := pc) ?_ hi
  refine xa_cons 0 (xc_iconst hx hb (z := 0) (b := 0) (And.intro (by decide +kernel) rfl) (by decide +kernel) ⟨rfl, rfl⟩) ?_
  refine xa_cons 1 ((And.intro (Or.inl rfl) (Or.inl (Exists.intro (3) (And.intro rfl (And.intro (by decide +kernel) rfl)))))) ?_
  refine xa_cons 2 ((And.intro (by decide) (Or.inl (Exists.intro (1) (And.intro rfl (And.intro (by decide +kernel) rfl)))))) ?_
  refine xa_cons 3 ((And.intro (Or.inl rfl) (Or.inr (And.intro (by decide +kernel) rfl)))) ?_
  refine xa_cons 4 ((And.intro (by decide) (Or.inr (And.intro (by decide +kernel) rfl)))) ?_
  refine xa_cons 5 ((And.intro (by decide) (Exists.intro (116) (And.intro (by decide +kernel) (And.intro (by decide +kernel) rfl))))) ?_
  refine xa_cons 6 ((And.intro (by decide) (Or.inr (And.intro (by decide +kernel) rfl)))) ?_
  refine xa_cons 7 (xc_iconst hx hb (z := 1) (b := 1) (And.intro (by decide +kernel) rfl) (by decide +kernel) ⟨rfl, rfl⟩) ?_
  refine xa_cons 8 ((And.intro (by decide) (And.intro (by decide +kernel) rfl))) ?_
  refine xa_cons 9 ((And.intro (by decide) (Or.inl (Exists.intro (0) (And.intro rfl (And.intro (by decide +kernel) rfl)))))) ?_
  refine xa_cons 10 (xc_getf (A := A) (own := "ExpressHouse$Schema") (index := 61) hx hb htsB xC_3 hown rfl (by decide) xw_232 (And.intro (by decide +kernel) rfl)) ?_
  refine xa_cons 11 ((And.intro (by decide +kernel) rfl)) ?_
  refine xa_cons 12 ((And.intro (by decide) (Exists.intro (104) (And.intro (by decide +kernel) (And.intro (by decide +kernel) rfl))))) ?_
  refine xa_cons 13 ((And.intro (by decide) (Or.inl (Exists.intro (0) (And.intro rfl (And.intro (by decide +kernel) rfl)))))) ?_
  refine xa_cons 14 (xc_getf (A := A) (own := "ExpressHouse$Schema") (index := 61) hx hb htsB xC_3 hown rfl (by decide) xw_232 (And.intro (by decide +kernel) rfl)) ?_
  refine xa_cons 15 ((And.intro (by decide) (Or.inr (And.intro (by decide +kernel) rfl)))) ?_
  refine xa_cons 16 ((And.intro (by decide) (And.intro (by decide +kernel) rfl))) ?_
  refine xa_cons 17 ((And.intro (by decide) (Exists.intro (94) (And.intro (by decide +kernel) (And.intro (by decide +kernel) rfl))))) ?_
  refine xa_cons 18 ((And.intro (by decide) (Or.inl (Exists.intro (0) (And.intro rfl (And.intro (by decide +kernel) rfl)))))) ?_
  refine xa_cons 19 (xc_getf (A := A) (own := "ExpressHouse$Schema") (index := 61) hx hb htsB xC_3 hown rfl (by decide) xw_232 (And.intro (by decide +kernel) rfl)) ?_
  refine xa_cons 20 ((And.intro (by decide) (Or.inr (And.intro (by decide +kernel) rfl)))) ?_
  refine xa_cons 21 ((And.intro (by decide) (And.intro (by decide +kernel) rfl))) ?_
  refine xa_cons 22 (xc_iconst hx hb (z := 1) (b := 1) (And.intro (by decide +kernel) rfl) (by decide +kernel) ⟨rfl, rfl⟩) ?_
  refine xa_cons 23 ((And.intro (by decide) (Exists.intro (20) (And.intro (by decide +kernel) (And.intro (by decide +kernel) rfl))))) ?_
  refine xa_cons 24 ((And.intro (by decide) (Or.inl (Exists.intro (0) (And.intro rfl (And.intro (by decide +kernel) rfl)))))) ?_
  refine xa_cons 25 ((And.intro (by decide) (Or.inl (Exists.intro (0) (And.intro rfl (And.intro (by decide +kernel) rfl)))))) ?_
  refine xa_cons 26 (xc_getf (A := A) (own := "ExpressHouse$Schema") (index := 61) hx hb htsB xC_3 hown rfl (by decide) xw_232 (And.intro (by decide +kernel) rfl)) ?_
  refine xa_cons 27 ((And.intro (by decide) (Or.inr (And.intro (by decide +kernel) rfl)))) ?_
  refine xa_cons 28 ((And.intro (by decide) (And.intro (by decide +kernel) rfl))) ?_
  refine xa_cons 29 ((And.intro (by decide) (Or.inl (Exists.intro (3) (And.intro rfl (And.intro (by decide +kernel) rfl)))))) ?_
  refine xa_cons 30 ((And.intro (by decide) (Or.inl (Exists.intro (2) (And.intro rfl (And.intro (by decide +kernel) rfl)))))) ?_
  refine xa_cons 31 ((And.intro (xc_callV (index := 155) (n := 3) (ci := 3) S xg_244 rfl xw_15 xw_1078 xw_1076 xw_1077 rfl rfl rfl ⟨by decide, by decide, by decide +kernel⟩ rfl (And.intro (by decide +kernel) rfl)) (by decide +kernel))) ?_
  refine xa_cons 32 ((And.intro (Or.inl rfl) (Or.inl (Exists.intro (3) (And.intro rfl (And.intro (by decide +kernel) rfl)))))) ?_
  refine xa_cons 33 ((Exists.intro (60) (And.intro (by decide +kernel) (by decide +kernel)))) ?_
  refine xa_cons 34 ((And.intro (by decide) (Or.inl (Exists.intro (3) (And.intro rfl (And.intro (by decide +kernel) rfl)))))) ?_
  refine xa_cons 35 ((And.intro (by decide) (Or.inl (Exists.intro (0) (And.intro rfl (And.intro (by decide +kernel) rfl)))))) ?_
  refine xa_cons 36 (xc_getf (A := A) (own := "ExpressHouse$Schema") (index := 67) hx hb htsB xC_3 hown rfl (by decide) xw_234 (And.intro (by decide +kernel) rfl)) ?_
  refine xa_cons 37 ((And.intro (by decide +kernel) rfl)) ?_
  refine xa_cons 38 ((And.intro (by decide) (Exists.intro (51) (And.intro (by decide +kernel) (And.intro (by decide +kernel) rfl))))) ?_
  refine xa_cons 39 ((And.intro (by decide) (Or.inl (Exists.intro (0) (And.intro rfl (And.intro (by decide +kernel) rfl)))))) ?_
  refine xa_cons 40 (xc_getf (A := A) (own := "ExpressHouse$Schema") (index := 67) hx hb htsB xC_3 hown rfl (by decide) xw_234 (And.intro (by decide +kernel) rfl)) ?_
  refine xa_cons 41 ((And.intro (by decide) (Or.inl (Exists.intro (3) (And.intro rfl (And.intro (by decide +kernel) rfl)))))) ?_
  refine xa_cons 42 (xc_iconst hx hb (z := 1) (b := 1) (And.intro (by decide +kernel) rfl) (by decide +kernel) ⟨rfl, rfl⟩) ?_
  refine xa_cons 43 ((And.intro (by decide) (Or.inl (Exists.intro (0) (And.intro rfl (And.intro (by decide +kernel) rfl)))))) ?_
  refine xa_cons 44 (xc_getf (A := A) (own := "ExpressHouse$Schema") (index := 61) hx hb htsB xC_3 hown rfl (by decide) xw_232 (And.intro (by decide +kernel) rfl)) ?_
  refine xa_cons 45 ((And.intro (by decide) (Or.inr (And.intro (by decide +kernel) rfl)))) ?_
  refine xa_cons 46 (xc_iconst hx hb (z := 1) (b := 1) (And.intro (by decide +kernel) rfl) (by decide +kernel) ⟨rfl, rfl⟩) ?_
  refine xa_cons 47 ((And.intro (by decide) (And.intro (by decide +kernel) rfl))) ?_
  refine xa_cons 48 ((And.intro (by decide) (And.intro (by decide +kernel) rfl))) ?_
  refine xa_cons 49 ((And.intro (by decide) (And.intro (by decide +kernel) rfl))) ?_
  refine xa_cons 50 ((And.intro (by decide) (And.intro (by decide +kernel) rfl))) ?_
  refine xa_cons 51 ((And.intro (by decide) (Or.inl (Exists.intro (0) (And.intro rfl (And.intro (by decide +kernel) rfl)))))) ?_
  refine xa_cons 52 (xc_getf (A := A) (own := "ExpressHouse$Schema") (index := 70) hx hb htsB xC_3 hown rfl (by decide) xw_236 (And.intro (by decide +kernel) rfl)) ?_
  refine xa_cons 53 ((And.intro (by decide) (Or.inl (Exists.intro (3) (And.intro rfl (And.intro (by decide +kernel) rfl)))))) ?_
  refine xa_cons 54 ((And.intro (by decide) (Or.inl (Exists.intro (2) (And.intro rfl (And.intro (by decide +kernel) rfl)))))) ?_
  refine xa_cons 55 ((And.intro (by decide) (Or.inl (Exists.intro (0) (And.intro rfl (And.intro (by decide +kernel) rfl)))))) ?_
  refine xa_cons 56 (xc_getf (A := A) (own := "ExpressHouse$Schema") (index := 61) hx hb htsB xC_3 hown rfl (by decide) xw_232 (And.intro (by decide +kernel) rfl)) ?_
  refine xa_cons 57 ((And.intro (by decide) (Or.inr (And.intro (by decide +kernel) rfl)))) ?_
  refine xa_cons 58 (xc_iconst hx hb (z := 1) (b := 1) (And.intro (by decide +kernel) rfl) (by decide +kernel) ⟨rfl, rfl⟩) ?_
  refine xa_cons 59 ((And.intro (by decide) (And.intro (by decide +kernel) rfl))) ?_
  refine xa_cons 60 ((And.intro (by decide) (And.intro (by decide +kernel) rfl))) ?_
  refine xa_cons 61 ((And.intro (by decide) (And.intro (by decide +kernel) rfl))) ?_
  refine xa_cons 62 (xc_iconst hx hb (z := 1) (b := 1) (And.intro (by decide +kernel) rfl) (by decide +kernel) ⟨rfl, rfl⟩) ?_
  refine xa_cons 63 ((And.intro (by decide) (And.intro (by decide +kernel) rfl))) ?_
  refine xa_cons 64 (xc_iconst hx hb (z := 1) (b := 1) (And.intro (by decide +kernel) rfl) (by decide +kernel) ⟨rfl, rfl⟩) ?_
  refine xa_cons 65 ((And.intro (by decide) (Exists.intro (7) (And.intro (by decide +kernel) (And.intro (by decide +kernel) rfl))))) ?_
  refine xa_cons 66 (xc_iconst hx hb (z := 1) (b := 1) (And.intro (by decide +kernel) rfl) (by decide +kernel) ⟨rfl, rfl⟩) ?_
  refine xa_cons 67 ((Exists.intro (4) (And.intro (by decide +kernel) (by decide +kernel)))) ?_
  refine xa_cons 68 (xc_iconst hx hb (z := 0) (b := 0) (And.intro (by decide +kernel) rfl) (by decide +kernel) ⟨rfl, rfl⟩) ?_
  refine xa_cons 69 ((And.intro (by decide) (And.intro (by decide +kernel) rfl))) ?_
  refine xa_cons 70 ((Exists.intro (1) (And.intro (And.intro (by decide +kernel) rfl) (by decide +kernel)))) ?_
  refine xa_cons 71 ((Exists.intro (2) (And.intro (And.intro (by decide +kernel) rfl) (by decide +kernel)))) ?_
  refine xa_cons 72 ((Exists.intro (-115) (And.intro (by decide +kernel) (by decide +kernel)))) ?_
  refine xa_cons 73 ((And.intro (by decide) (Or.inl (Exists.intro (3) (And.intro rfl (And.intro (by decide +kernel) rfl)))))) ?_
  refine xa_cons 74 ((And.intro (by decide) (Exists.intro (23) (And.intro (by decide +kernel) (And.intro (by decide +kernel) rfl))))) ?_
  refine xa_cons 75 ((And.intro (by decide) (Or.inl (Exists.intro (2) (And.intro rfl (And.intro (by decide +kernel) rfl)))))) ?_
  refine xa_cons 76 ((And.intro (by decide) (Or.inl (Exists.intro (0) (And.intro rfl (And.intro (by decide +kernel) rfl)))))) ?_
  refine xa_cons 77 (xc_getf (A := A) (own := "ExpressHouse$Schema") (index := 67) hx hb htsB xC_3 hown rfl (by decide) xw_234 (And.intro (by decide +kernel) rfl)) ?_
  refine xa_cons 78 (xc_iconst hx hb (z := 0) (b := 0) (And.intro (by decide +kernel) rfl) (by decide +kernel) ⟨rfl, rfl⟩) ?_
  refine xa_cons 79 ((And.intro (by decide) (And.intro (by decide +kernel) rfl))) ?_
  refine xa_cons 80 ((And.intro (by decide) (And.intro (by decide +kernel) rfl))) ?_
  refine xa_cons 81 ((And.intro (by decide) (Exists.intro (12) (And.intro (by decide +kernel) (And.intro (by decide +kernel) rfl))))) ?_
  refine xa_cons 82 ((And.intro (by decide) (Or.inl (Exists.intro (0) (And.intro rfl (And.intro (by decide +kernel) rfl)))))) ?_
  refine xa_cons 83 (xc_getf (A := A) (own := "ExpressHouse$Schema") (index := 70) hx hb htsB xC_3 hown rfl (by decide) xw_236 (And.intro (by decide +kernel) rfl)) ?_
  refine xa_cons 84 (xc_iconst hx hb (z := 0) (b := 0) (And.intro (by decide +kernel) rfl) (by decide +kernel) ⟨rfl, rfl⟩) ?_
  refine xa_cons 85 ((And.intro (by decide) (And.intro (by decide +kernel) rfl))) ?_
  refine xa_cons 86 ((And.intro (by decide) (Exists.intro (7) (And.intro (by decide +kernel) (And.intro (by decide +kernel) rfl))))) ?_
  refine xa_cons 87 (xc_iconst hx hb (z := 1) (b := 1) (And.intro (by decide +kernel) rfl) (by decide +kernel) ⟨rfl, rfl⟩) ?_
  refine xa_cons 88 ((Exists.intro (4) (And.intro (by decide +kernel) (by decide +kernel)))) ?_
  refine xa_cons 89 (xc_iconst hx hb (z := 0) (b := 0) (And.intro (by decide +kernel) rfl) (by decide +kernel) ⟨rfl, rfl⟩) ?_
  refine xa_cons 90 ((And.intro hr (by decide +kernel))) ?_
  exact xa_nil
def xrp_177 : Nat → Nat := fun k => ([0, 1, 4, 5, 6, 9, 10, 13, 16, 17, 18, 20, 23, 24, 26, 29, 30, 32, 35, 36, 37, 40, 41, 44, 45, 47, 48, 51] : List Nat).getD k 0
set_option maxRecDepth 20000 in
set_option maxHeartbeats 4000000 in
theorem xz_177 {l : Launch} {D : va_G} {en : XE} : x_Ok xT l D xcl en xrn (xG en) 177 xc_177 := by
  refine ⟨prog_2_method_16_code, none, xBIG, xrp_177, by decide +kernel, rfl, rfl, ?_⟩
  intro p e R s m args below meth c s₁ A Q pc i f1 f2 B hml hA hg hi
  obtain ⟨hx, hb, hr, hown, hlocks, hin, htsB, S⟩ := xb_all (C := "ExpressHouse$Expressions") B hml rfl rfl
  obtain ⟨hgN, hgZ, hgS, hgS2⟩ := xG_all hg
  refine xa_at (i := i) (pc := pc) ?_ hi
  refine xa_cons 0 ((And.intro (by decide) (Or.inl (Exists.intro (0) (And.intro rfl (And.intro (by decide +kernel) rfl)))))) ?_
  refine xa_cons 1 (xc_getf (A := A) (own := "ExpressHouse$Expressions") (index := 36) hx hb htsB xC_4 hown rfl (by decide) xw_731 (And.intro (by decide +kernel) rfl)) ?_
  refine xa_cons 2 ((And.intro (Or.inl rfl) (Or.inl (Exists.intro (1) (And.intro rfl (And.intro (by decide +kernel) rfl)))))) ?_
  refine xa_cons 3 ((And.intro (by decide) (Or.inl (Exists.intro (0) (And.intro rfl (And.intro (by decide +kernel) rfl)))))) ?_
  refine xa_cons 4 ((And.intro (xc_callV (index := 92) (n := 0) (ci := 4) S xg_245 rfl xw_22 xw_1081 xw_1079 xw_1080 rfl rfl rfl ⟨by decide, by decide, by decide +kernel⟩ rfl (And.intro (by decide +kernel) rfl)) (by decide +kernel))) ?_
  refine xa_cons 5 ((And.intro (by decide) (Or.inl (Exists.intro (0) (And.intro rfl (And.intro (by decide +kernel) rfl)))))) ?_
  refine xa_cons 6 (xc_getf (A := A) (own := "ExpressHouse$Expressions") (index := 24) hx hb htsB xC_4 hown rfl (by decide) xw_252 (And.intro (by decide +kernel) rfl)) ?_
  refine xa_cons 7 (xc_getf (A := A) (own := "ExpressHouse$Expressions") (index := 95) hx hb htsB xC_1 hown rfl (by decide) xw_1082 (And.intro (by decide +kernel) rfl)) ?_
  refine xa_cons 8 ((And.intro (Or.inl rfl) (Or.inl (Exists.intro (2) (And.intro rfl (And.intro (by decide +kernel) rfl)))))) ?_
  refine xa_cons 9 ((And.intro (by decide) (Or.inl (Exists.intro (2) (And.intro rfl (And.intro (by decide +kernel) rfl)))))) ?_
  refine xa_cons 10 (xc_bipush hx hb (z := 60) (b := 60) (And.intro (by decide +kernel) rfl) (by decide +kernel) ⟨rfl, rfl⟩) ?_
  refine xa_cons 11 ((And.intro (by decide) (Exists.intro (9) (And.intro (by decide +kernel) (And.intro (by decide +kernel) rfl))))) ?_
  refine xa_cons 12 ((And.intro (by decide) (Or.inl (Exists.intro (2) (And.intro rfl (And.intro (by decide +kernel) rfl)))))) ?_
  refine xa_cons 13 (xc_bipush hx hb (z := 66) (b := 66) (And.intro (by decide +kernel) rfl) (by decide +kernel) ⟨rfl, rfl⟩) ?_
  refine xa_cons 14 ((And.intro (by decide) (Exists.intro (9) (And.intro (by decide +kernel) (And.intro (by decide +kernel) rfl))))) ?_
  refine xa_cons 15 ((And.intro (by decide) (Or.inl (Exists.intro (2) (And.intro rfl (And.intro (by decide +kernel) rfl)))))) ?_
  refine xa_cons 16 (xc_bipush hx hb (z := 52) (b := 52) (And.intro (by decide +kernel) rfl) (by decide +kernel) ⟨rfl, rfl⟩) ?_
  refine xa_cons 17 ((And.intro (by decide) (Exists.intro (19) (And.intro (by decide +kernel) (And.intro (by decide +kernel) rfl))))) ?_
  refine xa_cons 18 ((And.intro (by decide) (Or.inl (Exists.intro (0) (And.intro rfl (And.intro (by decide +kernel) rfl)))))) ?_
  refine xa_cons 19 ((And.intro (by decide) (Or.inl (Exists.intro (1) (And.intro rfl (And.intro (by decide +kernel) rfl)))))) ?_
  refine xa_cons 20 ((And.intro (xc_callV (index := 98) (n := 1) (ci := 4) S xg_246 rfl xw_22 xw_1085 xw_1083 xw_1084 rfl rfl rfl ⟨by decide, by decide, by decide +kernel⟩ rfl (And.intro (by decide +kernel) rfl)) (by decide +kernel))) ?_
  refine xa_cons 21 ((And.intro (by decide) (Or.inl (Exists.intro (0) (And.intro rfl (And.intro (by decide +kernel) rfl)))))) ?_
  refine xa_cons 22 ((And.intro (xc_callV (index := 92) (n := 0) (ci := 4) S xg_245 rfl xw_22 xw_1081 xw_1079 xw_1080 rfl rfl rfl ⟨by decide, by decide, by decide +kernel⟩ rfl (And.intro (by decide +kernel) rfl)) (by decide +kernel))) ?_
  refine xa_cons 23 ((And.intro (by decide) (Or.inl (Exists.intro (0) (And.intro rfl (And.intro (by decide +kernel) rfl)))))) ?_
  refine xa_cons 24 (xc_bipush hx hb (z := 15) (b := 15) (And.intro (by decide +kernel) rfl) (by decide +kernel) ⟨rfl, rfl⟩) ?_
  refine xa_cons 25 ((And.intro (by decide) (Or.inl (Exists.intro (2) (And.intro rfl (And.intro (by decide +kernel) rfl)))))) ?_
  refine xa_cons 26 ((And.intro (xc_callV (index := 101) (n := 2) (ci := 4) S xg_161 rfl xw_22 xw_1086 xw_772 xw_773 rfl rfl rfl ⟨by decide, by decide, by decide +kernel⟩ rfl (And.intro (by decide +kernel) rfl)) (by decide +kernel))) ?_
  refine xa_cons 27 ((And.intro hr (by decide +kernel))) ?_
  exact xa_nil
def xrp_178 : Nat → Nat := fun k => ([0, 1, 2, 3, 4, 7, 10, 11, 12, 15, 16, 19, 20, 23, 26, 27, 28, 29, 30, 33, 34, 35, 36, 39, 42, 45, 46, 47, 50, 53, 54] : List Nat).getD k 0
set_option maxRecDepth 20000 in
set_option maxHeartbeats 4000000 in
theorem xz_178 {l : Launch} {D : va_G} {en : XE} : x_Ok xT l D xcl en xrn (xG en) 178 xc_178 := by
  refine ⟨prog_8_method_24_code, (some .boolean), xBIG, xrp_178, by decide +kernel, rfl, rfl, ?_⟩
  intro p e R s m args below meth c s₁ A Q pc i f1 f2 B hml hA hg hi
  obtain ⟨hx, hb, hr, hown, hlocks, hin, htsB, S⟩ := xb_all (C := "ExpressHouse$Population") B hml rfl rfl
  obtain ⟨hgN, hgZ, hgS, hgS2⟩ := xG_all hg
  refine xa_at (i := i) (pc := pc) ?_ hi
  refine xa_cons 0 (xc_iconst hx hb (z := 0) (b := 0) (And.intro (by decide +kernel) rfl) (by decide +kernel) ⟨rfl, rfl⟩) ?_
  refine xa_cons 1 ((And.intro (Or.inl rfl) (Or.inl (Exists.intro (3) (And.intro rfl (And.intro (by decide +kernel) rfl)))))) ?_
  refine xa_cons 2 ((And.intro (by decide) (Or.inl (Exists.intro (3) (And.intro rfl (And.intro (by decide +kernel) rfl)))))) ?_
  refine xa_cons 3 ((And.intro (by decide) (Or.inl (Exists.intro (0) (And.intro rfl (And.intro (by decide +kernel) rfl)))))) ?_
  refine xa_cons 4 (xc_getf (A := A) (own := "ExpressHouse$Population") (index := 42) hx hb htsB xC_2 hown rfl (by decide) xw_247 (And.intro (by decide +kernel) rfl)) ?_
  refine xa_cons 5 (xc_getf (A := A) (own := "ExpressHouse$Population") (index := 57) hx hb htsB xC_3 hown rfl (by decide) xw_543 (And.intro (by decide +kernel) rfl)) ?_
  refine xa_cons 6 (xc_iconst hx hb (z := 3) (b := 3) (And.intro (by decide +kernel) rfl) (by decide +kernel) ⟨rfl, rfl⟩) ?_
  refine xa_cons 7 ((And.intro (by decide) (And.intro (by decide +kernel) rfl))) ?_
  refine xa_cons 8 ((And.intro (by decide) (Exists.intro (41) (And.intro (by decide +kernel) (And.intro (by decide +kernel) rfl))))) ?_
  refine xa_cons 9 ((And.intro (by decide) (Or.inl (Exists.intro (0) (And.intro rfl (And.intro (by decide +kernel) rfl)))))) ?_
  refine xa_cons 10 (xc_getf (A := A) (own := "ExpressHouse$Population") (index := 42) hx hb htsB xC_2 hown rfl (by decide) xw_247 (And.intro (by decide +kernel) rfl)) ?_
  refine xa_cons 11 ((And.intro (by decide) (Or.inl (Exists.intro (3) (And.intro rfl (And.intro (by decide +kernel) rfl)))))) ?_
  refine xa_cons 12 ((And.intro (xc_callV (index := 136) (n := 1) (ci := 3) S xg_210 rfl xw_15 xw_1087 xw_947 xw_948 rfl rfl rfl ⟨by decide, by decide, by decide +kernel⟩ rfl (And.intro (by decide +kernel) rfl)) (by decide +kernel))) ?_
  refine xa_cons 13 ((And.intro (by decide) (Exists.intro (24) (And.intro (by decide +kernel) (And.intro (by decide +kernel) rfl))))) ?_
  refine xa_cons 14 ((And.intro (by decide) (Or.inl (Exists.intro (0) (And.intro rfl (And.intro (by decide +kernel) rfl)))))) ?_
  refine xa_cons 15 ((And.intro (by decide) (Or.inl (Exists.intro (0) (And.intro rfl (And.intro (by decide +kernel) rfl)))))) ?_
  refine xa_cons 16 ((And.intro (by decide) (Or.inl (Exists.intro (1) (And.intro rfl (And.intro (by decide +kernel) rfl)))))) ?_
  refine xa_cons 17 ((And.intro (by decide) (Or.inl (Exists.intro (3) (And.intro rfl (And.intro (by decide +kernel) rfl)))))) ?_
  refine xa_cons 18 ((And.intro (xc_callV (index := 78) (n := 2) (ci := 2) S xg_118 rfl xw_12 xw_600 xw_598 xw_599 rfl rfl rfl ⟨by decide, by decide, by decide +kernel⟩ rfl (And.intro (by decide +kernel) rfl)) (by decide +kernel))) ?_
  refine xa_cons 19 ((And.intro (by decide) (Or.inl (Exists.intro (0) (And.intro rfl (And.intro (by decide +kernel) rfl)))))) ?_
  refine xa_cons 20 ((And.intro (by decide) (Or.inl (Exists.intro (2) (And.intro rfl (And.intro (by decide +kernel) rfl)))))) ?_
  refine xa_cons 21 ((And.intro (by decide) (Or.inl (Exists.intro (3) (And.intro rfl (And.intro (by decide +kernel) rfl)))))) ?_
  refine xa_cons 22 ((And.intro (xc_callV (index := 78) (n := 2) (ci := 2) S xg_118 rfl xw_12 xw_600 xw_598 xw_599 rfl rfl rfl ⟨by decide, by decide, by decide +kernel⟩ rfl (And.intro (by decide +kernel) rfl)) (by decide +kernel))) ?_
  refine xa_cons 23 ((And.intro (xc_callV (index := 139) (n := 2) (ci := 2) S xg_247 rfl xw_12 xw_1090 xw_1088 xw_1089 rfl rfl rfl ⟨by decide, by decide, by decide +kernel⟩ rfl (And.intro (by decide +kernel) rfl)) (by decide +kernel))) ?_
  refine xa_cons 24 ((And.intro (by decide) (Exists.intro (5) (And.intro (by decide +kernel) (And.intro (by decide +kernel) rfl))))) ?_
  refine xa_cons 25 (xc_iconst hx hb (z := 0) (b := 0) (And.intro (by decide +kernel) rfl) (by decide +kernel) ⟨rfl, rfl⟩) ?_
  refine xa_cons 26 ((And.intro hr (by decide +kernel))) ?_
  refine xa_cons 27 ((Exists.intro (1) (And.intro (And.intro (by decide +kernel) rfl) (by decide +kernel)))) ?_
  refine xa_cons 28 ((Exists.intro (-48) (And.intro (by decide +kernel) (by decide +kernel)))) ?_
  refine xa_cons 29 (xc_iconst hx hb (z := 1) (b := 1) (And.intro (by decide +kernel) rfl) (by decide +kernel) ⟨rfl, rfl⟩) ?_
  refine xa_cons 30 ((And.intro hr (by decide +kernel))) ?_
  exact xa_nil
def xrp_179 : Nat → Nat := fun k => ([0, 1, 4, 5, 8, 9, 12, 13, 16, 17, 20, 21, 22, 23, 24, 27, 28, 31, 32, 35, 36, 37, 40, 41, 44, 47, 48, 51, 52, 53, 56, 57, 58, 61, 62, 65, 68, 69, 72, 73, 74, 77] : List Nat).getD k 0
set_option maxRecDepth 20000 in
set_option maxHeartbeats 4000000 in
theorem xz_179 {l : Launch} {D : va_G} {en : XE} : x_Ok xT l D xcl en xrn (xG en) 179 xc_179 := by
  refine ⟨prog_6_method_7_code, none, xBIG, xrp_179, by decide +kernel, rfl, rfl, ?_⟩
  intro p e R s m args below meth c s₁ A Q pc i f1 f2 B hml hA hg hi
  obtain ⟨hx, hb, hr, hown, hlocks, hin, htsB, S⟩ := xb_all (C := "ExpressHouse$Machine") B hml rfl rfl
  obtain ⟨hgN, hgZ, hgS, hgS2⟩ := xG_all hg
  refine xa_at (i := i) (pc := pc) ?_ hi
  refine xa_cons 0 ((And.intro (by decide) (Or.inl (Exists.intro (0) (And.intro rfl (And.intro (by decide +kernel) rfl)))))) ?_
  refine xa_cons 1 (xc_getf (A := A) (own := "ExpressHouse$Machine") (index := 45) hx hb htsB xC_6 hown rfl (by decide) xw_272 (And.intro (by decide +kernel) rfl)) ?_
  refine xa_cons 2 ((And.intro (by decide) (Or.inl (Exists.intro (0) (And.intro rfl (And.intro (by decide +kernel) rfl)))))) ?_
  refine xa_cons 3 (xc_getf (A := A) (own := "ExpressHouse$Machine") (index := 69) hx hb htsB xC_6 hown rfl (by decide) xw_554 (And.intro (by decide +kernel) rfl)) ?_
  refine xa_cons 4 ((And.intro (by decide) (And.intro (by decide +kernel) rfl))) ?_
  refine xa_cons 5 (xc_sipush hx hb (z := 20000) (b := 20000) (And.intro (by decide +kernel) rfl) (by decide +kernel) ⟨rfl, rfl⟩) ?_
  refine xa_cons 6 ((And.intro (by decide) (Or.inl (Exists.intro (0) (And.intro rfl (And.intro (by decide +kernel) rfl)))))) ?_
  refine xa_cons 7 (xc_getf (A := A) (own := "ExpressHouse$Machine") (index := 117) hx hb htsB xC_6 hown rfl (by decide) xw_1091 (And.intro (by decide +kernel) rfl)) ?_
  refine xa_cons 8 ((And.intro (by decide) (And.intro (by decide +kernel) rfl))) ?_
  refine xa_cons 9 ((Exists.intro ("ExpressHouse$Machine") (Exists.intro (120) (And.intro hown (And.intro (htsB _ xw_475) (And.intro hml (And.intro (by omega) (And.intro (by omega) (And.intro (And.intro (by decide +kernel) rfl) (Or.inl (And.intro rfl (And.intro (htsB _ xw_1092) (And.intro (htsB _ xw_473) (htsB _ xw_474)))))))))))))) ?_
  refine xa_cons 10 ((And.intro (Or.inl rfl) (Or.inl (Exists.intro (2) (And.intro rfl (And.intro (by decide +kernel) rfl)))))) ?_
  refine xa_cons 11 ((And.intro (by decide) (Or.inl (Exists.intro (0) (And.intro rfl (And.intro (by decide +kernel) rfl)))))) ?_
  refine xa_cons 12 ((And.intro (by decide) (Or.inl (Exists.intro (1) (And.intro rfl (And.intro (by decide +kernel) rfl)))))) ?_
  refine xa_cons 13 ((And.intro (by decide) (Or.inl (Exists.intro (2) (And.intro rfl (And.intro (by decide +kernel) rfl)))))) ?_
  refine xa_cons 14 ((And.intro (by decide) (Exists.intro (7) (And.intro (by decide +kernel) (And.intro (by decide +kernel) rfl))))) ?_
  refine xa_cons 15 (xc_iconst hx hb (z := 1) (b := 1) (And.intro (by decide +kernel) rfl) (by decide +kernel) ⟨rfl, rfl⟩) ?_
  refine xa_cons 16 ((Exists.intro (4) (And.intro (by decide +kernel) (by decide +kernel)))) ?_
  refine xa_cons 17 (xc_iconst hx hb (z := 0) (b := 0) (And.intro (by decide +kernel) rfl) (by decide +kernel) ⟨rfl, rfl⟩) ?_
  refine xa_cons 18 (xc_putf (own := "ExpressHouse$Machine") (index := 72) hx hb htsB xC_6 hown rfl (by decide) xw_555 rfl (rfl) (And.intro (by decide +kernel) rfl)) ?_
  refine xa_cons 19 ((And.intro (by decide) (Or.inl (Exists.intro (0) (And.intro rfl (And.intro (by decide +kernel) rfl)))))) ?_
  refine xa_cons 20 ((And.intro (by decide +kernel) rfl)) ?_
  refine xa_cons 21 (xc_getf (A := A) (own := "ExpressHouse$Machine") (index := 69) hx hb htsB xC_6 hown rfl (by decide) xw_554 (And.intro (by decide +kernel) rfl)) ?_
  refine xa_cons 22 ((And.intro (by decide) (Or.inl (Exists.intro (0) (And.intro rfl (And.intro (by decide +kernel) rfl)))))) ?_
  refine xa_cons 23 (xc_getf (A := A) (own := "ExpressHouse$Machine") (index := 72) hx hb htsB xC_6 hown rfl (by decide) xw_555 (And.intro (by decide +kernel) rfl)) ?_
  refine xa_cons 24 ((And.intro (by decide) (Exists.intro (7) (And.intro (by decide +kernel) (And.intro (by decide +kernel) rfl))))) ?_
  refine xa_cons 25 ((And.intro (by decide) (Or.inl (Exists.intro (2) (And.intro rfl (And.intro (by decide +kernel) rfl)))))) ?_
  refine xa_cons 26 ((Exists.intro (4) (And.intro (by decide +kernel) (by decide +kernel)))) ?_
  refine xa_cons 27 ((And.intro (by decide) (Or.inl (Exists.intro (1) (And.intro rfl (And.intro (by decide +kernel) rfl)))))) ?_
  refine xa_cons 28 ((And.intro (by decide) (And.intro (by decide +kernel) rfl))) ?_
  refine xa_cons 29 (xc_putf (own := "ExpressHouse$Machine") (index := 69) hx hb htsB xC_6 hown rfl (by decide) xw_554 rfl (rfl) (And.intro (by decide +kernel) rfl)) ?_
  refine xa_cons 30 ((And.intro (by decide) (Or.inl (Exists.intro (0) (And.intro rfl (And.intro (by decide +kernel) rfl)))))) ?_
  refine xa_cons 31 ((And.intro (by decide +kernel) rfl)) ?_
  refine xa_cons 32 (xc_getf (A := A) (own := "ExpressHouse$Machine") (index := 117) hx hb htsB xC_6 hown rfl (by decide) xw_1091 (And.intro (by decide +kernel) rfl)) ?_
  refine xa_cons 33 ((And.intro (by decide) (Or.inl (Exists.intro (0) (And.intro rfl (And.intro (by decide +kernel) rfl)))))) ?_
  refine xa_cons 34 (xc_getf (A := A) (own := "ExpressHouse$Machine") (index := 72) hx hb htsB xC_6 hown rfl (by decide) xw_555 (And.intro (by decide +kernel) rfl)) ?_
  refine xa_cons 35 ((And.intro (by decide) (Exists.intro (7) (And.intro (by decide +kernel) (And.intro (by decide +kernel) rfl))))) ?_
  refine xa_cons 36 ((And.intro (by decide) (Or.inl (Exists.intro (2) (And.intro rfl (And.intro (by decide +kernel) rfl)))))) ?_
  refine xa_cons 37 ((Exists.intro (4) (And.intro (by decide +kernel) (by decide +kernel)))) ?_
  refine xa_cons 38 ((And.intro (by decide) (Or.inl (Exists.intro (1) (And.intro rfl (And.intro (by decide +kernel) rfl)))))) ?_
  refine xa_cons 39 ((And.intro (by decide) (And.intro (by decide +kernel) rfl))) ?_
  refine xa_cons 40 (xc_putf (own := "ExpressHouse$Machine") (index := 117) hx hb htsB xC_6 hown rfl (by decide) xw_1091 rfl (rfl) (And.intro (by decide +kernel) rfl)) ?_
  refine xa_cons 41 ((And.intro hr (by decide +kernel))) ?_
  exact xa_nil
def xrp_180 : Nat → Nat := fun k => ([0, 1, 4, 7, 8, 11, 12, 15, 16, 19, 20, 23, 24, 27, 28, 29, 30, 31, 34, 35, 36, 39] : List Nat).getD k 0
set_option maxRecDepth 20000 in
set_option maxHeartbeats 4000000 in
theorem xz_180 {l : Launch} {D : va_G} {en : XE} : x_Ok xT l D xcl en xrn (xG en) 180 xc_180 := by
  refine ⟨prog_6_method_4_code, none, xBIG, xrp_180, by decide +kernel, rfl, rfl, ?_⟩
  intro p e R s m args below meth c s₁ A Q pc i f1 f2 B hml hA hg hi
  obtain ⟨hx, hb, hr, hown, hlocks, hin, htsB, S⟩ := xb_all (C := "ExpressHouse$Machine") B hml rfl rfl
  obtain ⟨hgN, hgZ, hgS, hgS2⟩ := xG_all hg
  refine xa_at (i := i) (pc := pc) ?_ hi
  refine xa_cons 0 ((And.intro (by decide) (Or.inl (Exists.intro (0) (And.intro rfl (And.intro (by decide +kernel) rfl)))))) ?_
  refine xa_cons 1 (xc_getf (A := A) (own := "ExpressHouse$Machine") (index := 76) hx hb htsB xC_6 hown rfl (by decide) xw_556 (And.intro (by decide +kernel) rfl)) ?_
  refine xa_cons 2 ((And.intro (by decide) (Exists.intro (35) (And.intro (by decide +kernel) (And.intro (by decide +kernel) rfl))))) ?_
  refine xa_cons 3 ((And.intro (by decide) (Or.inl (Exists.intro (0) (And.intro rfl (And.intro (by decide +kernel) rfl)))))) ?_
  refine xa_cons 4 (xc_getf (A := A) (own := "ExpressHouse$Machine") (index := 76) hx hb htsB xC_6 hown rfl (by decide) xw_556 (And.intro (by decide +kernel) rfl)) ?_
  refine xa_cons 5 ((And.intro (by decide) (Or.inl (Exists.intro (0) (And.intro rfl (And.intro (by decide +kernel) rfl)))))) ?_
  refine xa_cons 6 (xc_getf (A := A) (own := "ExpressHouse$Machine") (index := 11) hx hb htsB xC_6 hown rfl (by decide) xw_262 (And.intro (by decide +kernel) rfl)) ?_
  refine xa_cons 7 ((And.intro (by decide +kernel) rfl)) ?_
  refine xa_cons 8 ((And.intro (by decide) (Exists.intro (23) (And.intro (by decide +kernel) (And.intro (by decide +kernel) rfl))))) ?_
  refine xa_cons 9 ((And.intro (by decide) (Or.inl (Exists.intro (0) (And.intro rfl (And.intro (by decide +kernel) rfl)))))) ?_
  refine xa_cons 10 (xc_getf (A := A) (own := "ExpressHouse$Machine") (index := 11) hx hb htsB xC_6 hown rfl (by decide) xw_262 (And.intro (by decide +kernel) rfl)) ?_
  refine xa_cons 11 ((And.intro (by decide) (Or.inl (Exists.intro (0) (And.intro rfl (And.intro (by decide +kernel) rfl)))))) ?_
  refine xa_cons 12 (xc_getf (A := A) (own := "ExpressHouse$Machine") (index := 76) hx hb htsB xC_6 hown rfl (by decide) xw_556 (And.intro (by decide +kernel) rfl)) ?_
  refine xa_cons 13 ((And.intro (by decide) (Or.inl (Exists.intro (1) (And.intro rfl (And.intro (by decide +kernel) rfl)))))) ?_
  refine xa_cons 14 ((And.intro (by decide) (And.intro (by decide +kernel) rfl))) ?_
  refine xa_cons 15 ((And.intro (by decide) (Or.inl (Exists.intro (0) (And.intro rfl (And.intro (by decide +kernel) rfl)))))) ?_
  refine xa_cons 16 ((And.intro (by decide +kernel) rfl)) ?_
  refine xa_cons 17 (xc_getf (A := A) (own := "ExpressHouse$Machine") (index := 76) hx hb htsB xC_6 hown rfl (by decide) xw_556 (And.intro (by decide +kernel) rfl)) ?_
  refine xa_cons 18 (xc_iconst hx hb (z := 1) (b := 1) (And.intro (by decide +kernel) rfl) (by decide +kernel) ⟨rfl, rfl⟩) ?_
  refine xa_cons 19 ((And.intro (by decide) (And.intro (by decide +kernel) rfl))) ?_
  refine xa_cons 20 (xc_putf (own := "ExpressHouse$Machine") (index := 76) hx hb htsB xC_6 hown rfl (by decide) xw_556 rfl (rfl) (And.intro (by decide +kernel) rfl)) ?_
  refine xa_cons 21 ((And.intro hr (by decide +kernel))) ?_
  exact xa_nil
def xrp_181 : Nat → Nat := fun k => ([0, 2, 4, 5, 6, 7, 8, 10, 12, 13, 16, 19, 20, 22, 23, 26, 29, 30, 31, 32, 35, 36, 37, 39, 40, 41, 44, 47, 50, 51, 52, 53, 54, 57] : List Nat).getD k 0
set_option maxRecDepth 20000 in
set_option maxHeartbeats 4000000 in
theorem xz_181 {l : Launch} {D : va_G} {en : XE} : x_Ok xT l D xcl en xrn (xG en) 181 xc_181 := by
  refine ⟨prog_8_method_17_code, (some (.object "ExpressHouse$Value")), xBIG, xrp_181, by decide +kernel, rfl, rfl, ?_⟩
  intro p e R s m args below meth c s₁ A Q pc i f1 f2 B hml hA hg hi
  obtain ⟨hx, hb, hr, hown, hlocks, hin, htsB, S⟩ := xb_all (C := "ExpressHouse$Population") B hml rfl rfl
  obtain ⟨hgN, hgZ, hgS, hgS2⟩ := xG_all hg
  refine xa_at (i := i) (pc := pc) ?_ hi
  refine xa_cons 0 (xc_bipush hx hb (z := 24) (b := 24) (And.intro (by decide +kernel) rfl) (by decide +kernel) ⟨rfl, rfl⟩) ?_
  refine xa_cons 1 (xc_newa hx hb hA (htsB _ xw_214) (Or.inr ⟨rfl, rfl⟩) (And.intro (by decide +kernel) rfl)) ?_
  refine xa_cons 2 ((And.intro (Or.inr rfl) (Or.inl (Exists.intro (2) (And.intro rfl (And.intro (by decide +kernel) rfl)))))) ?_
  refine xa_cons 3 (xc_iconst hx hb (z := 0) (b := 0) (And.intro (by decide +kernel) rfl) (by decide +kernel) ⟨rfl, rfl⟩) ?_
  refine xa_cons 4 ((And.intro (Or.inl rfl) (Or.inl (Exists.intro (3) (And.intro rfl (And.intro (by decide +kernel) rfl)))))) ?_
  refine xa_cons 5 (xc_iconst hx hb (z := 0) (b := 0) (And.intro (by decide +kernel) rfl) (by decide +kernel) ⟨rfl, rfl⟩) ?_
  refine xa_cons 6 ((And.intro (Or.inl rfl) (Or.inr (And.intro (by decide +kernel) rfl)))) ?_
  refine xa_cons 7 ((And.intro (by decide) (Or.inr (And.intro (by decide +kernel) rfl)))) ?_
  refine xa_cons 8 ((And.intro (by decide) (Or.inl (Exists.intro (0) (And.intro rfl (And.intro (by decide +kernel) rfl)))))) ?_
  refine xa_cons 9 (xc_getf (A := A) (own := "ExpressHouse$Population") (index := 46) hx hb htsB xC_2 hown rfl (by decide) xw_529 (And.intro (by decide +kernel) rfl)) ?_
  refine xa_cons 10 ((And.intro (by decide) (Exists.intro (34) (And.intro (by decide +kernel) (And.intro (by decide +kernel) rfl))))) ?_
  refine xa_cons 11 ((And.intro (by decide) (Or.inl (Exists.intro (0) (And.intro rfl (And.intro (by decide +kernel) rfl)))))) ?_
  refine xa_cons 12 ((And.intro (by decide) (Or.inr (And.intro (by decide +kernel) rfl)))) ?_
  refine xa_cons 13 ((And.intro (by decide) (Or.inl (Exists.intro (1) (And.intro rfl (And.intro (by decide +kernel) rfl)))))) ?_
  refine xa_cons 14 ((And.intro (xc_callV (index := 66) (n := 2) (ci := 2) S xg_104 rfl xw_12 xw_547 xw_545 xw_546 rfl rfl rfl ⟨by decide, by decide, by decide +kernel⟩ rfl (And.intro (by decide +kernel) rfl)) (by decide +kernel))) ?_
  refine xa_cons 15 ((And.intro (by decide) (Exists.intro (18) (And.intro (by decide +kernel) (And.intro (by decide +kernel) rfl))))) ?_
  refine xa_cons 16 ((And.intro (by decide) (Or.inl (Exists.intro (3) (And.intro rfl (And.intro (by decide +kernel) rfl)))))) ?_
  refine xa_cons 17 ((And.intro (by decide) (Or.inl (Exists.intro (2) (And.intro rfl (And.intro (by decide +kernel) rfl)))))) ?_
  refine xa_cons 18 ((And.intro (by decide +kernel) rfl)) ?_
  refine xa_cons 19 ((And.intro (by decide) (Exists.intro (9) (And.intro (by decide +kernel) (And.intro (by decide +kernel) rfl))))) ?_
  refine xa_cons 20 ((And.intro (by decide) (Or.inl (Exists.intro (2) (And.intro rfl (And.intro (by decide +kernel) rfl)))))) ?_
  refine xa_cons 21 ((And.intro (by decide) (Or.inl (Exists.intro (3) (And.intro rfl (And.intro (by decide +kernel) rfl)))))) ?_
  refine xa_cons 22 ((And.intro (by decide) (Or.inr (And.intro (by decide +kernel) rfl)))) ?_
  refine xa_cons 23 ((And.intro (by decide +kernel) rfl)) ?_
  refine xa_cons 24 ((And.intro (by decide) (And.intro (by decide +kernel) rfl))) ?_
  refine xa_cons 25 ((Exists.intro (1) (And.intro (And.intro (by decide +kernel) rfl) (by decide +kernel)))) ?_
  refine xa_cons 26 ((Exists.intro (1) (And.intro (And.intro (by decide +kernel) rfl) (by decide +kernel)))) ?_
  refine xa_cons 27 ((Exists.intro (-37) (And.intro (by decide +kernel) (by decide +kernel)))) ?_
  refine xa_cons 28 ((And.intro (by decide) (Or.inl (Exists.intro (0) (And.intro rfl (And.intro (by decide +kernel) rfl)))))) ?_
  refine xa_cons 29 (xc_iconst hx hb (z := 3) (b := 3) (And.intro (by decide +kernel) rfl) (by decide +kernel) ⟨rfl, rfl⟩) ?_
  refine xa_cons 30 ((And.intro (by decide) (Or.inl (Exists.intro (2) (And.intro rfl (And.intro (by decide +kernel) rfl)))))) ?_
  refine xa_cons 31 ((And.intro (by decide) (Or.inl (Exists.intro (3) (And.intro rfl (And.intro (by decide +kernel) rfl)))))) ?_
  refine xa_cons 32 ((And.intro (xc_callV (index := 125) (n := 3) (ci := 2) S xg_248 rfl xw_12 xw_1095 xw_1093 xw_1094 rfl rfl rfl ⟨by decide, by decide, by decide +kernel⟩ rfl (And.intro (by decide +kernel) rfl)) (by decide +kernel))) ?_
  refine xa_cons 33 ((And.intro (Exists.intro (_) (And.intro hr (Or.inl ⟨_, rfl⟩))) (by decide +kernel))) ?_
  exact xa_nil
def xrp_182 : Nat → Nat := fun k => ([0, 1, 4, 7, 8, 11, 12, 14, 17, 18, 21, 22, 23, 25, 26, 27, 28, 31, 32] : List Nat).getD k 0
set_option maxRecDepth 20000 in
set_option maxHeartbeats 4000000 in
theorem xz_182 {l : Launch} {D : va_G} {en : XE} : x_Ok xT l D xcl en xrn (xG en) 182 xc_182 := by
  refine ⟨prog_6_method_11_code, (some .int), xBIG, xrp_182, by decide +kernel, rfl, rfl, ?_⟩
  intro p e R s m args below meth c s₁ A Q pc i f1 f2 B hml hA hg hi
  obtain ⟨hx, hb, hr, hown, hlocks, hin, htsB, S⟩ := xb_all (C := "ExpressHouse$Machine") B hml rfl rfl
  obtain ⟨hgN, hgZ, hgS, hgS2⟩ := xG_all hg
  refine xa_at (i := i) (pc := pc) ?_ hi
  refine xa_cons 0 ((And.intro (by decide) (Or.inl (Exists.intro (0) (And.intro rfl (And.intro (by decide +kernel) rfl)))))) ?_
  refine xa_cons 1 (xc_getf (A := A) (own := "ExpressHouse$Machine") (index := 79) hx hb htsB xC_6 hown rfl (by decide) xw_557 (And.intro (by decide +kernel) rfl)) ?_
  refine xa_cons 2 ((And.intro (by decide) (Exists.intro (27) (And.intro (by decide +kernel) (And.intro (by decide +kernel) rfl))))) ?_
  refine xa_cons 3 ((And.intro (by decide) (Or.inl (Exists.intro (1) (And.intro rfl (And.intro (by decide +kernel) rfl)))))) ?_
  refine xa_cons 4 ((And.intro (by decide) (Exists.intro (23) (And.intro (by decide +kernel) (And.intro (by decide +kernel) rfl))))) ?_
  refine xa_cons 5 ((And.intro (by decide) (Or.inl (Exists.intro (1) (And.intro rfl (And.intro (by decide +kernel) rfl)))))) ?_
  refine xa_cons 6 (xc_bipush hx hb (z := 32) (b := 32) (And.intro (by decide +kernel) rfl) (by decide +kernel) ⟨rfl, rfl⟩) ?_
  refine xa_cons 7 ((And.intro (by decide) (Exists.intro (17) (And.intro (by decide +kernel) (And.intro (by decide +kernel) rfl))))) ?_
  refine xa_cons 8 ((And.intro (by decide) (Or.inl (Exists.intro (0) (And.intro rfl (And.intro (by decide +kernel) rfl)))))) ?_
  refine xa_cons 9 (xc_getf (A := A) (own := "ExpressHouse$Machine") (index := 79) hx hb htsB xC_6 hown rfl (by decide) xw_557 (And.intro (by decide +kernel) rfl)) ?_
  refine xa_cons 10 (xc_iconst hx hb (z := 1) (b := 1) (And.intro (by decide +kernel) rfl) (by decide +kernel) ⟨rfl, rfl⟩) ?_
  refine xa_cons 11 ((And.intro (by decide) (And.intro (by decide +kernel) rfl))) ?_
  refine xa_cons 12 (xc_bipush hx hb (z := 32) (b := 32) (And.intro (by decide +kernel) rfl) (by decide +kernel) ⟨rfl, rfl⟩) ?_
  refine xa_cons 13 ((And.intro (by decide) (And.intro (by decide +kernel) rfl))) ?_
  refine xa_cons 14 ((And.intro (by decide) (Or.inl (Exists.intro (1) (And.intro rfl (And.intro (by decide +kernel) rfl)))))) ?_
  refine xa_cons 15 ((And.intro (by decide) (And.intro (by decide +kernel) rfl))) ?_
  refine xa_cons 16 ((Exists.intro (4) (And.intro (by decide +kernel) (by decide +kernel)))) ?_
  refine xa_cons 17 (xc_iconst hx hb (z := 0) (b := 0) (And.intro (by decide +kernel) rfl) (by decide +kernel) ⟨rfl, rfl⟩) ?_
  refine xa_cons 18 ((And.intro hr (by decide +kernel))) ?_
  exact xa_nil
def xrp_183 : Nat → Nat := fun k => ([0, 1, 4, 5, 6, 9, 10, 13, 14, 17, 18, 21, 22, 23, 26, 29, 30, 31, 34, 37, 38, 39, 42, 43, 44, 45, 48, 51, 54, 55, 56, 58, 60, 61, 62, 65, 66, 67, 70, 71, 72, 75, 78, 81, 83, 84, 85, 86, 89, 90, 92, 93, 94, 96, 97, 98, 99, 102, 105, 106, 107, 110, 111, 113, 114, 115, 118, 121] : List Nat).getD k 0
set_option maxRecDepth 20000 in
set_option maxHeartbeats 4000000 in
theorem xz_183 {l : Launch} {D : va_G} {en : XE} : x_Ok xT l D xcl en xrn (xG en) 183 xc_183 := by
  refine ⟨prog_6_method_14_code, none, xBIG, xrp_183, by decide +kernel, rfl, rfl, ?_⟩
  intro p e R s m args below meth c s₁ A Q pc i f1 f2 B hml hA hg hi
  obtain ⟨hx, hb, hr, hown, hlocks, hin, htsB, S⟩ := xb_all (C := "ExpressHouse$Machine") B hml rfl rfl
  obtain ⟨hgN, hgZ, hgS, hgS2⟩ := xG_all hg
  refine xa_at (i := i) (pc := pc) ?_ hi
  refine xa_cons 0 ((And.intro (by decide) (Or.inl (Exists.intro (0) (And.intro rfl (And.intro (by decide +kernel) rfl)))))) ?_
  refine xa_cons 1 ((And.intro (xc_callV (index := 101) (n := 0) (ci := 6) S xg_112 rfl xw_35 xw_576 xw_574 xw_575 rfl rfl rfl ⟨by decide, by decide, by decide +kernel⟩ rfl (And.intro (by decide +kernel) rfl)) (by decide +kernel))) ?_
  refine xa_cons 2 ((And.intro (Or.inr rfl) (Or.inl (Exists.intro (2) (And.intro rfl (And.intro (by decide +kernel) rfl)))))) ?_
  refine xa_cons 3 ((And.intro (by decide) (Or.inl (Exists.intro (2) (And.intro rfl (And.intro (by decide +kernel) rfl)))))) ?_
  refine xa_cons 4 (xc_getf (A := A) (own := "ExpressHouse$Machine") (index := 188) hx hb htsB xC_10 hown rfl (by decide) xw_874 (And.intro (by decide +kernel) rfl)) ?_
  refine xa_cons 5 (xc_iconst hx hb (z := 5) (b := 5) (And.intro (by decide +kernel) rfl) (by decide +kernel) ⟨rfl, rfl⟩) ?_
  refine xa_cons 6 ((And.intro (by decide) (Exists.intro (19) (And.intro (by decide +kernel) (And.intro (by decide +kernel) rfl))))) ?_
  refine xa_cons 7 ((And.intro (by decide) (Or.inl (Exists.intro (0) (And.intro rfl (And.intro (by decide +kernel) rfl)))))) ?_
  refine xa_cons 8 (xc_getf (A := A) (own := "ExpressHouse$Machine") (index := 49) hx hb htsB xC_6 hown rfl (by decide) xw_273 (And.intro (by decide +kernel) rfl)) ?_
  refine xa_cons 9 ((And.intro (by decide) (Or.inl (Exists.intro (2) (And.intro rfl (And.intro (by decide +kernel) rfl)))))) ?_
  refine xa_cons 10 (xc_getf (A := A) (own := "ExpressHouse$Machine") (index := 197) hx hb htsB xC_10 hown rfl (by decide) xw_1096 (And.intro (by decide +kernel) rfl)) ?_
  refine xa_cons 11 ((And.intro (by decide +kernel) rfl)) ?_
  refine xa_cons 12 ((And.intro (by decide) (Or.inl (Exists.intro (1) (And.intro rfl (And.intro (by decide +kernel) rfl)))))) ?_
  refine xa_cons 13 ((And.intro (xc_callV (index := 201) (n := 2) (ci := 2) S xg_53 rfl xw_12 xw_1097 xw_350 xw_351 rfl rfl rfl ⟨by decide, by decide, by decide +kernel⟩ rfl (And.intro (by decide +kernel) rfl)) (by decide +kernel))) ?_
  refine xa_cons 14 ((And.intro (by decide) (Exists.intro (12) (And.intro (by decide +kernel) (And.intro (by decide +kernel) rfl))))) ?_
  refine xa_cons 15 ((And.intro (by decide) (Or.inl (Exists.intro (0) (And.intro rfl (And.intro (by decide +kernel) rfl)))))) ?_
  refine xa_cons 16 ((And.intro (by decide) (Or.inl (Exists.intro (0) (And.intro rfl (And.intro (by decide +kernel) rfl)))))) ?_
  refine xa_cons 17 (xc_getf (A := A) (own := "ExpressHouse$Machine") (index := 68) hx hb htsB xC_6 hown rfl (by decide) xw_281 (And.intro (by decide +kernel) rfl)) ?_
  refine xa_cons 18 ((And.intro (xc_callV (index := 138) (n := 1) (ci := 6) S xg_180 rfl xw_35 xw_841 xw_839 xw_840 rfl rfl rfl ⟨by decide, by decide, by decide +kernel⟩ rfl (And.intro (by decide +kernel) rfl)) (by decide +kernel))) ?_
  refine xa_cons 19 ((And.intro hr (by decide +kernel))) ?_
  refine xa_cons 20 ((And.intro (by decide) (Or.inl (Exists.intro (2) (And.intro rfl (And.intro (by decide +kernel) rfl)))))) ?_
  refine xa_cons 21 (xc_getf (A := A) (own := "ExpressHouse$Machine") (index := 197) hx hb htsB xC_10 hown rfl (by decide) xw_1096 (And.intro (by decide +kernel) rfl)) ?_
  refine xa_cons 22 ((And.intro (by decide +kernel) rfl)) ?_
  refine xa_cons 23 ((And.intro (Or.inl rfl) (Or.inl (Exists.intro (3) (And.intro rfl (And.intro (by decide +kernel) rfl)))))) ?_
  refine xa_cons 24 ((And.intro (by decide) (Or.inl (Exists.intro (0) (And.intro rfl (And.intro (by decide +kernel) rfl)))))) ?_
  refine xa_cons 25 (xc_getf (A := A) (own := "ExpressHouse$Machine") (index := 49) hx hb htsB xC_6 hown rfl (by decide) xw_273 (And.intro (by decide +kernel) rfl)) ?_
  refine xa_cons 26 (xc_getf (A := A) (own := "ExpressHouse$Machine") (index := 105) hx hb htsB xC_2 hown rfl (by decide) xw_834 (And.intro (by decide +kernel) rfl)) ?_
  refine xa_cons 27 (xc_getf (A := A) (own := "ExpressHouse$Machine") (index := 205) hx hb htsB xC_3 hown rfl (by decide) xw_1098 (And.intro (by decide +kernel) rfl)) ?_
  refine xa_cons 28 ((And.intro (by decide) (Or.inl (Exists.intro (1) (And.intro rfl (And.intro (by decide +kernel) rfl)))))) ?_
  refine xa_cons 29 ((And.intro (by decide) (And.intro (by decide +kernel) rfl))) ?_
  refine xa_cons 30 ((And.intro (Or.inr rfl) (Or.inr (And.intro (by decide +kernel) rfl)))) ?_
  refine xa_cons 31 ((And.intro (by decide) (Or.inr (And.intro (by decide +kernel) rfl)))) ?_
  refine xa_cons 32 (xc_iconst hx hb (z := 1) (b := 1) (And.intro (by decide +kernel) rfl) (by decide +kernel) ⟨rfl, rfl⟩) ?_
  refine xa_cons 33 ((And.intro (by decide) (And.intro (by decide +kernel) rfl))) ?_
  refine xa_cons 34 ((And.intro (by decide) (Exists.intro (19) (And.intro (by decide +kernel) (And.intro (by decide +kernel) rfl))))) ?_
  refine xa_cons 35 ((And.intro (by decide) (Or.inl (Exists.intro (0) (And.intro rfl (And.intro (by decide +kernel) rfl)))))) ?_
  refine xa_cons 36 ((And.intro (by decide) (Or.inl (Exists.intro (0) (And.intro rfl (And.intro (by decide +kernel) rfl)))))) ?_
  refine xa_cons 37 (xc_getf (A := A) (own := "ExpressHouse$Machine") (index := 49) hx hb htsB xC_6 hown rfl (by decide) xw_273 (And.intro (by decide +kernel) rfl)) ?_
  refine xa_cons 38 ((And.intro (by decide) (Or.inl (Exists.intro (3) (And.intro rfl (And.intro (by decide +kernel) rfl)))))) ?_
  refine xa_cons 39 ((And.intro (by decide) (Or.inl (Exists.intro (1) (And.intro rfl (And.intro (by decide +kernel) rfl)))))) ?_
  refine xa_cons 40 ((And.intro (xc_callV (index := 209) (n := 2) (ci := 2) S xg_118 rfl xw_12 xw_1099 xw_598 xw_599 rfl rfl rfl ⟨by decide, by decide, by decide +kernel⟩ rfl (And.intro (by decide +kernel) rfl)) (by decide +kernel))) ?_
  refine xa_cons 41 ((And.intro (xc_callV (index := 138) (n := 1) (ci := 6) S xg_180 rfl xw_35 xw_841 xw_839 xw_840 rfl rfl rfl ⟨by decide, by decide, by decide +kernel⟩ rfl (And.intro (by decide +kernel) rfl)) (by decide +kernel))) ?_
  refine xa_cons 42 ((Exists.intro (43) (And.intro (by decide +kernel) (by decide +kernel)))) ?_
  refine xa_cons 43 ((And.intro (by decide) (Or.inr (And.intro (by decide +kernel) rfl)))) ?_
  refine xa_cons 44 (xc_iconst hx hb (z := 1) (b := 1) (And.intro (by decide +kernel) rfl) (by decide +kernel) ⟨rfl, rfl⟩) ?_
  refine xa_cons 45 ((And.intro (by decide) (And.intro (by decide +kernel) rfl))) ?_
  refine xa_cons 46 (xc_iconst hx hb (z := 1) (b := 1) (And.intro (by decide +kernel) rfl) (by decide +kernel) ⟨rfl, rfl⟩) ?_
  refine xa_cons 47 ((And.intro (by decide) (Exists.intro (19) (And.intro (by decide +kernel) (And.intro (by decide +kernel) rfl))))) ?_
  refine xa_cons 48 ((And.intro (by decide) (Or.inl (Exists.intro (0) (And.intro rfl (And.intro (by decide +kernel) rfl)))))) ?_
  refine xa_cons 49 ((And.intro (by decide) (Or.inr (And.intro (by decide +kernel) rfl)))) ?_
  refine xa_cons 50 (xc_iconst hx hb (z := 5) (b := 5) (And.intro (by decide +kernel) rfl) (by decide +kernel) ⟨rfl, rfl⟩) ?_
  refine xa_cons 51 ((And.intro (by decide) (And.intro (by decide +kernel) rfl))) ?_
  refine xa_cons 52 ((And.intro (by decide) (Or.inr (And.intro (by decide +kernel) rfl)))) ?_
  refine xa_cons 53 (xc_iconst hx hb (z := 3) (b := 3) (And.intro (by decide +kernel) rfl) (by decide +kernel) ⟨rfl, rfl⟩) ?_
  refine xa_cons 54 ((And.intro (by decide) (And.intro (by decide +kernel) rfl))) ?_
  refine xa_cons 55 ((And.intro (by decide) (Or.inl (Exists.intro (2) (And.intro rfl (And.intro (by decide +kernel) rfl)))))) ?_
  refine xa_cons 56 ((And.intro (xc_callV (index := 82) (n := 3) (ci := 6) S xg_107 rfl xw_35 xw_560 xw_558 xw_559 rfl rfl rfl ⟨by decide, by decide, by decide +kernel⟩ rfl (And.intro (by decide +kernel) rfl)) (by decide +kernel))) ?_
  refine xa_cons 57 ((Exists.intro (19) (And.intro (by decide +kernel) (by decide +kernel)))) ?_
  refine xa_cons 58 ((And.intro (by decide) (Or.inl (Exists.intro (0) (And.intro rfl (And.intro (by decide +kernel) rfl)))))) ?_
  refine xa_cons 59 ((And.intro (by decide) (Or.inl (Exists.intro (0) (And.intro rfl (And.intro (by decide +kernel) rfl)))))) ?_
  refine xa_cons 60 (xc_getf (A := A) (own := "ExpressHouse$Machine") (index := 49) hx hb htsB xC_6 hown rfl (by decide) xw_273 (And.intro (by decide +kernel) rfl)) ?_
  refine xa_cons 61 ((And.intro (by decide) (Or.inl (Exists.intro (3) (And.intro rfl (And.intro (by decide +kernel) rfl)))))) ?_
  refine xa_cons 62 ((And.intro (by decide) (Or.inr (And.intro (by decide +kernel) rfl)))) ?_
  refine xa_cons 63 (xc_iconst hx hb (z := 4) (b := 4) (And.intro (by decide +kernel) rfl) (by decide +kernel) ⟨rfl, rfl⟩) ?_
  refine xa_cons 64 ((And.intro (by decide) (And.intro (by decide +kernel) rfl))) ?_
  refine xa_cons 65 ((And.intro (xc_callV (index := 213) (n := 2) (ci := 2) S xg_249 rfl xw_12 xw_1102 xw_1100 xw_1101 rfl rfl rfl ⟨by decide, by decide, by decide +kernel⟩ rfl (And.intro (by decide +kernel) rfl)) (by decide +kernel))) ?_
  refine xa_cons 66 ((And.intro (xc_callV (index := 138) (n := 1) (ci := 6) S xg_180 rfl xw_35 xw_841 xw_839 xw_840 rfl rfl rfl ⟨by decide, by decide, by decide +kernel⟩ rfl (And.intro (by decide +kernel) rfl)) (by decide +kernel))) ?_
  refine xa_cons 67 ((And.intro hr (by decide +kernel))) ?_
  exact xa_nil
end AMM11
